set_option maxRecDepth 20000 in
theorem ggL_law_X5_joinedTo : GoodIn wsL_law wsX5_joinedTo := goodIn_r _ [591, 27, 15, 529, 530, 531, 26, 532, 73, 114, 2, 115, 550, 551, 552, 553, 554, 555, 556, 14, 557, 41, 558, 559, 560, 561, 562, 187, 184, 188, 71, 563, 43, 44, 45, 564, 565, 566, 567, 72, 568, 569, 570, 571, 534, 535, 536, 68, 69, 70, 537, 213, 214, 215, 216, 217, 218, 572, 573, 574, 575, 576, 183, 185, 592, 593, 594, 733, 734, 735, 736, 737, 792, 793, 794, 795, 796, 797, 776, 777, 778, 779, 780] (by decide +kernel) (by decide +kernel)
set_option maxRecDepth 20000 in
theorem gL_law_X5_joinedTo : GoodIn wsL_law (wsV RL 111 RX5 yX5_joinedTo wsX5_joinedTo) := goodIn_app (goodIn_of _ (by decide +kernel)) ggL_law_X5_joinedTo
set_option maxRecDepth 20000 in
theorem ggL_law_X6_joinedTo : GoodIn wsL_law wsX6_joinedTo := goodIn_r _ [598, 510, 106, 127, 128, 5, 129, 584, 585, 586, 587, 143, 107, 105, 542, 543, 544, 545, 104, 88, 89, 232, 233, 234, 738, 739, 740, 741, 742, 743, 744, 745, 746, 747, 748, 749, 750, 751, 752, 753, 754, 755, 756, 757, 758, 759, 760, 761, 762, 763, 764, 765, 766, 767, 768, 769, 770, 771, 772, 773, 774, 775] (by decide +kernel) (by decide +kernel)
set_option maxRecDepth 20000 in
theorem gL_law_X6_joinedTo : GoodIn wsL_law (wsV RL 114 RX6 yX6_joinedTo wsX6_joinedTo) := goodIn_app (goodIn_of _ (by decide +kernel)) ggL_law_X6_joinedTo
set_option maxRecDepth 20000 in
theorem ggL_law_X5_owe : GoodIn wsL_law wsX5_owe := goodIn_r _ [602, 31, 402, 403, 2, 404, 288, 289, 290, 113, 114, 115, 603, 604, 605, 30, 606, 77, 733, 734, 735, 736, 737, 798] (by decide +kernel) (by decide +kernel)
set_option maxRecDepth 20000 in
theorem gL_law_X5_owe : GoodIn wsL_law (wsV RL 115 RX5 yX5_owe wsX5_owe) := goodIn_app (goodIn_of _ (by decide +kernel)) ggL_law_X5_owe
set_option maxRecDepth 20000 in
theorem ggL_law_X6_owe : GoodIn wsL_law wsX6_owe := goodIn_r _ [610, 611, 108, 418, 419, 5, 420, 306, 307, 308, 257, 127, 128, 129, 738, 739, 740, 741, 742, 743, 744, 745, 746, 747, 748, 749, 750, 751, 752, 753, 754, 755, 756, 757, 758, 759, 760, 761, 762, 763, 764, 765, 766, 767, 768, 769, 770, 771, 772, 773, 774, 775] (by decide +kernel) (by decide +kernel)
set_option maxRecDepth 20000 in
theorem gL_law_X6_owe : GoodIn wsL_law (wsV RL 118 RX6 yX6_owe wsX6_owe) := goodIn_app (goodIn_of _ (by decide +kernel)) ggL_law_X6_owe
set_option maxRecDepth 20000 in
theorem ggL_law_X5_net : GoodIn wsL_law wsX5_net := goodIn_r _ [615, 31, 351, 288, 289, 2, 290, 113, 114, 115, 616, 617, 618, 30, 619, 620, 621, 622, 623, 77, 624, 625, 626, 627, 733, 734, 735, 736, 737, 798] (by decide +kernel) (by decide +kernel)
set_option maxRecDepth 20000 in
theorem gL_law_X5_net : GoodIn wsL_law (wsV RL 119 RX5 yX5_net wsX5_net) := goodIn_app (goodIn_of _ (by decide +kernel)) ggL_law_X5_net
set_option maxRecDepth 20000 in
theorem ggL_law_X6_net : GoodIn wsL_law wsX6_net := goodIn_r _ [631, 364, 306, 307, 5, 308, 257, 127, 128, 129, 632, 633, 634, 635, 108, 636, 637, 638, 639, 738, 739, 740, 741, 742, 743, 744, 745, 746, 747, 748, 749, 750, 751, 752, 753, 754, 755, 756, 757, 758, 759, 760, 761, 762, 763, 764, 765, 766, 767, 768, 769, 770, 771, 772, 773, 774, 775] (by decide +kernel) (by decide +kernel)
set_option maxRecDepth 20000 in
theorem gL_law_X6_net : GoodIn wsL_law (wsV RL 122 RX6 yX6_net wsX6_net) := goodIn_app (goodIn_of _ (by decide +kernel)) ggL_law_X6_net
