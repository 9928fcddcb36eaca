set_option maxRecDepth 20000 in
theorem ggL_law_X5_joinedTo : GoodIn wsL_law wsX5_joinedTo := goodIn_r _ [590, 27, 15, 528, 529, 530, 26, 531, 73, 114, 2, 115, 549, 550, 551, 552, 553, 554, 555, 14, 556, 41, 557, 558, 559, 560, 561, 187, 184, 188, 71, 562, 43, 44, 45, 563, 564, 565, 566, 72, 567, 568, 569, 570, 533, 534, 535, 68, 69, 70, 536, 213, 214, 215, 216, 217, 218, 571, 572, 573, 574, 575, 183, 185, 591, 592, 593, 732, 733, 734, 735, 736, 791, 792, 793, 794, 795, 796, 775, 776, 777, 778, 779] (by decide +kernel) (by decide +kernel)
set_option maxRecDepth 20000 in
theorem gL_law_X5_joinedTo : GoodIn wsL_law (wsV RL 111 RX5 yX5_joinedTo wsX5_joinedTo) := goodIn_app (goodIn_of _ (by decide +kernel)) ggL_law_X5_joinedTo
set_option maxRecDepth 20000 in
theorem ggL_law_X6_joinedTo : GoodIn wsL_law wsX6_joinedTo := goodIn_r _ [597, 509, 106, 127, 128, 5, 129, 583, 584, 585, 586, 143, 107, 105, 541, 542, 543, 544, 104, 88, 89, 232, 233, 234, 737, 738, 739, 740, 741, 742, 743, 744, 745, 746, 747, 748, 749, 750, 751, 752, 753, 754, 755, 756, 757, 758, 759, 760, 761, 762, 763, 764, 765, 766, 767, 768, 769, 770, 771, 772, 773, 774] (by decide +kernel) (by decide +kernel)
set_option maxRecDepth 20000 in
theorem gL_law_X6_joinedTo : GoodIn wsL_law (wsV RL 114 RX6 yX6_joinedTo wsX6_joinedTo) := goodIn_app (goodIn_of _ (by decide +kernel)) ggL_law_X6_joinedTo
set_option maxRecDepth 20000 in
theorem ggL_law_X5_owe : GoodIn wsL_law wsX5_owe := goodIn_r _ [601, 31, 402, 403, 2, 404, 288, 289, 290, 113, 114, 115, 602, 603, 604, 30, 605, 77, 732, 733, 734, 735, 736, 797] (by decide +kernel) (by decide +kernel)
set_option maxRecDepth 20000 in
theorem gL_law_X5_owe : GoodIn wsL_law (wsV RL 115 RX5 yX5_owe wsX5_owe) := goodIn_app (goodIn_of _ (by decide +kernel)) ggL_law_X5_owe
set_option maxRecDepth 20000 in
theorem ggL_law_X6_owe : GoodIn wsL_law wsX6_owe := goodIn_r _ [609, 610, 108, 418, 419, 5, 420, 306, 307, 308, 257, 127, 128, 129, 737, 738, 739, 740, 741, 742, 743, 744, 745, 746, 747, 748, 749, 750, 751, 752, 753, 754, 755, 756, 757, 758, 759, 760, 761, 762, 763, 764, 765, 766, 767, 768, 769, 770, 771, 772, 773, 774] (by decide +kernel) (by decide +kernel)
set_option maxRecDepth 20000 in
theorem gL_law_X6_owe : GoodIn wsL_law (wsV RL 118 RX6 yX6_owe wsX6_owe) := goodIn_app (goodIn_of _ (by decide +kernel)) ggL_law_X6_owe
set_option maxRecDepth 20000 in
theorem ggL_law_X5_net : GoodIn wsL_law wsX5_net := goodIn_r _ [614, 31, 351, 288, 289, 2, 290, 113, 114, 115, 615, 616, 617, 30, 618, 619, 620, 621, 622, 77, 623, 624, 625, 626, 732, 733, 734, 735, 736, 797] (by decide +kernel) (by decide +kernel)
set_option maxRecDepth 20000 in
theorem gL_law_X5_net : GoodIn wsL_law (wsV RL 119 RX5 yX5_net wsX5_net) := goodIn_app (goodIn_of _ (by decide +kernel)) ggL_law_X5_net
set_option maxRecDepth 20000 in
theorem ggL_law_X6_net : GoodIn wsL_law wsX6_net := goodIn_r _ [630, 364, 306, 307, 5, 308, 257, 127, 128, 129, 631, 632, 633, 634, 108, 635, 636, 637, 638, 737, 738, 739, 740, 741, 742, 743, 744, 745, 746, 747, 748, 749, 750, 751, 752, 753, 754, 755, 756, 757, 758, 759, 760, 761, 762, 763, 764, 765, 766, 767, 768, 769, 770, 771, 772, 773, 774] (by decide +kernel) (by decide +kernel)
set_option maxRecDepth 20000 in
theorem gL_law_X6_net : GoodIn wsL_law (wsV RL 122 RX6 yX6_net wsX6_net) := goodIn_app (goodIn_of _ (by decide +kernel)) ggL_law_X6_net
