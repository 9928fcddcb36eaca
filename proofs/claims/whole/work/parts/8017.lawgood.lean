set_option maxRecDepth 20000 in
theorem ggL_law_X5_mark : GoodIn wsL_law wsX5_mark := goodIn_r _ [514, 15, 27, 207, 153, 154, 14, 155, 41, 114, 2, 115, 113, 515, 516, 517, 26, 518, 69, 70, 733, 734, 735, 736, 737, 776, 777, 778, 779, 780, 792, 793, 794, 795, 796, 797] (by decide +kernel) (by decide +kernel)
set_option maxRecDepth 20000 in
theorem gL_law_X5_mark : GoodIn wsL_law (wsV RL 99 RX5 yX5_mark wsX5_mark) := goodIn_app (goodIn_of _ (by decide +kernel)) ggL_law_X5_mark
set_option maxRecDepth 20000 in
theorem ggL_law_X6_mark : GoodIn wsL_law wsX6_mark := goodIn_r _ [522, 523, 524, 88, 89, 169, 170, 171, 5, 172, 143, 127, 128, 129, 738, 739, 740, 741, 742, 743, 744, 745, 746, 747, 748, 749, 750, 751, 752, 753, 754, 755, 756, 757, 758, 759, 760, 761, 762, 763, 764, 765, 766, 767, 768, 769, 770, 771, 772, 773, 774, 775] (by decide +kernel) (by decide +kernel)
set_option maxRecDepth 20000 in
theorem gL_law_X6_mark : GoodIn wsL_law (wsV RL 102 RX6 yX6_mark wsX6_mark) := goodIn_app (goodIn_of _ (by decide +kernel)) ggL_law_X6_mark
set_option maxRecDepth 20000 in
theorem ggL_law_X5_score : GoodIn wsL_law wsX5_score := goodIn_r _ [528, 27, 15, 529, 530, 531, 26, 532, 73, 114, 2, 115, 207, 153, 154, 14, 155, 41, 533, 534, 535, 536, 68, 69, 70, 537, 213, 214, 215, 216, 217, 218, 733, 734, 735, 736, 737, 792, 793, 794, 795, 796, 797, 776, 777, 778, 779, 780] (by decide +kernel) (by decide +kernel)
set_option maxRecDepth 20000 in
theorem gL_law_X5_score : GoodIn wsL_law (wsV RL 103 RX5 yX5_score wsX5_score) := goodIn_app (goodIn_of _ (by decide +kernel)) ggL_law_X5_score
set_option maxRecDepth 20000 in
theorem ggL_law_X6_score : GoodIn wsL_law wsX6_score := goodIn_r _ [541, 510, 127, 128, 5, 129, 169, 170, 171, 172, 143, 542, 543, 544, 545, 104, 88, 89, 232, 233, 234, 738, 739, 740, 741, 742, 743, 744, 745, 746, 747, 748, 749, 750, 751, 752, 753, 754, 755, 756, 757, 758, 759, 760, 761, 762, 763, 764, 765, 766, 767, 768, 769, 770, 771, 772, 773, 774, 775] (by decide +kernel) (by decide +kernel)
set_option maxRecDepth 20000 in
theorem gL_law_X6_score : GoodIn wsL_law (wsV RL 106 RX6 yX6_score wsX6_score) := goodIn_app (goodIn_of _ (by decide +kernel)) ggL_law_X6_score
set_option maxRecDepth 20000 in
theorem ggL_law_X5_joined : GoodIn wsL_law wsX5_joined := goodIn_r _ [549, 27, 15, 550, 551, 552, 26, 553, 73, 554, 555, 556, 14, 557, 41, 558, 559, 560, 561, 562, 187, 184, 188, 71, 563, 43, 44, 45, 564, 565, 566, 567, 72, 568, 569, 570, 530, 531, 532, 114, 2, 115, 571, 534, 535, 536, 68, 69, 70, 537, 213, 214, 215, 216, 217, 218, 572, 573, 574, 575, 576, 183, 185, 577, 578, 579, 733, 734, 735, 736, 737, 792, 793, 794, 795, 796, 797, 776, 777, 778, 779, 780] (by decide +kernel) (by decide +kernel)
set_option maxRecDepth 20000 in
theorem gL_law_X5_joined : GoodIn wsL_law (wsV RL 107 RX5 yX5_joined wsX5_joined) := goodIn_app (goodIn_of _ (by decide +kernel)) ggL_law_X5_joined
set_option maxRecDepth 20000 in
theorem ggL_law_X6_joined : GoodIn wsL_law wsX6_joined := goodIn_r _ [583, 510, 105, 584, 585, 586, 5, 587, 143, 107, 106, 542, 543, 544, 545, 104, 88, 89, 232, 233, 234, 738, 739, 740, 741, 742, 743, 744, 745, 746, 747, 748, 749, 750, 751, 752, 753, 754, 755, 756, 757, 758, 759, 760, 761, 762, 763, 764, 765, 766, 767, 768, 769, 770, 771, 772, 773, 774, 775] (by decide +kernel) (by decide +kernel)
set_option maxRecDepth 20000 in
theorem gL_law_X6_joined : GoodIn wsL_law (wsV RL 110 RX6 yX6_joined wsX6_joined) := goodIn_app (goodIn_of _ (by decide +kernel)) ggL_law_X6_joined
