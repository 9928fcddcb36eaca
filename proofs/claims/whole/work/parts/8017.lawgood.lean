set_option maxRecDepth 20000 in
theorem ggL_law_X5_mark : GoodIn wsL_law wsX5_mark := goodIn_r _ [513, 15, 27, 207, 153, 154, 14, 155, 41, 114, 2, 115, 113, 514, 515, 516, 26, 517, 69, 70, 732, 733, 734, 735, 736, 775, 776, 777, 778, 779, 791, 792, 793, 794, 795, 796] (by decide +kernel) (by decide +kernel)
set_option maxRecDepth 20000 in
theorem gL_law_X5_mark : GoodIn wsL_law (wsV RL 99 RX5 yX5_mark wsX5_mark) := goodIn_app (goodIn_of _ (by decide +kernel)) ggL_law_X5_mark
set_option maxRecDepth 20000 in
theorem ggL_law_X6_mark : GoodIn wsL_law wsX6_mark := goodIn_r _ [521, 522, 523, 88, 89, 169, 170, 171, 5, 172, 143, 127, 128, 129, 737, 738, 739, 740, 741, 742, 743, 744, 745, 746, 747, 748, 749, 750, 751, 752, 753, 754, 755, 756, 757, 758, 759, 760, 761, 762, 763, 764, 765, 766, 767, 768, 769, 770, 771, 772, 773, 774] (by decide +kernel) (by decide +kernel)
set_option maxRecDepth 20000 in
theorem gL_law_X6_mark : GoodIn wsL_law (wsV RL 102 RX6 yX6_mark wsX6_mark) := goodIn_app (goodIn_of _ (by decide +kernel)) ggL_law_X6_mark
set_option maxRecDepth 20000 in
theorem ggL_law_X5_score : GoodIn wsL_law wsX5_score := goodIn_r _ [527, 27, 15, 528, 529, 530, 26, 531, 73, 114, 2, 115, 207, 153, 154, 14, 155, 41, 532, 533, 534, 535, 68, 69, 70, 536, 213, 214, 215, 216, 217, 218, 732, 733, 734, 735, 736, 791, 792, 793, 794, 795, 796, 775, 776, 777, 778, 779] (by decide +kernel) (by decide +kernel)
set_option maxRecDepth 20000 in
theorem gL_law_X5_score : GoodIn wsL_law (wsV RL 103 RX5 yX5_score wsX5_score) := goodIn_app (goodIn_of _ (by decide +kernel)) ggL_law_X5_score
set_option maxRecDepth 20000 in
theorem ggL_law_X6_score : GoodIn wsL_law wsX6_score := goodIn_r _ [540, 509, 127, 128, 5, 129, 169, 170, 171, 172, 143, 541, 542, 543, 544, 104, 88, 89, 232, 233, 234, 737, 738, 739, 740, 741, 742, 743, 744, 745, 746, 747, 748, 749, 750, 751, 752, 753, 754, 755, 756, 757, 758, 759, 760, 761, 762, 763, 764, 765, 766, 767, 768, 769, 770, 771, 772, 773, 774] (by decide +kernel) (by decide +kernel)
set_option maxRecDepth 20000 in
theorem gL_law_X6_score : GoodIn wsL_law (wsV RL 106 RX6 yX6_score wsX6_score) := goodIn_app (goodIn_of _ (by decide +kernel)) ggL_law_X6_score
set_option maxRecDepth 20000 in
theorem ggL_law_X5_joined : GoodIn wsL_law wsX5_joined := goodIn_r _ [548, 27, 15, 549, 550, 551, 26, 552, 73, 553, 554, 555, 14, 556, 41, 557, 558, 559, 560, 561, 187, 184, 188, 71, 562, 43, 44, 45, 563, 564, 565, 566, 72, 567, 568, 569, 529, 530, 531, 114, 2, 115, 570, 533, 534, 535, 68, 69, 70, 536, 213, 214, 215, 216, 217, 218, 571, 572, 573, 574, 575, 183, 185, 576, 577, 578, 732, 733, 734, 735, 736, 791, 792, 793, 794, 795, 796, 775, 776, 777, 778, 779] (by decide +kernel) (by decide +kernel)
set_option maxRecDepth 20000 in
theorem gL_law_X5_joined : GoodIn wsL_law (wsV RL 107 RX5 yX5_joined wsX5_joined) := goodIn_app (goodIn_of _ (by decide +kernel)) ggL_law_X5_joined
set_option maxRecDepth 20000 in
theorem ggL_law_X6_joined : GoodIn wsL_law wsX6_joined := goodIn_r _ [582, 509, 105, 583, 584, 585, 5, 586, 143, 107, 106, 541, 542, 543, 544, 104, 88, 89, 232, 233, 234, 737, 738, 739, 740, 741, 742, 743, 744, 745, 746, 747, 748, 749, 750, 751, 752, 753, 754, 755, 756, 757, 758, 759, 760, 761, 762, 763, 764, 765, 766, 767, 768, 769, 770, 771, 772, 773, 774] (by decide +kernel) (by decide +kernel)
set_option maxRecDepth 20000 in
theorem gL_law_X6_joined : GoodIn wsL_law (wsV RL 110 RX6 yX6_joined wsX6_joined) := goodIn_app (goodIn_of _ (by decide +kernel)) ggL_law_X6_joined
