set_option maxRecDepth 20000 in
theorem ggL_law_X5_hours : GoodIn wsL_law wsX5_hours := goodIn_r _ [273, 19, 113, 114, 2, 115, 274, 275, 276, 18, 277, 56, 732, 733, 734, 735, 736, 780, 781, 782, 783, 784, 785, 786] (by decide +kernel) (by decide +kernel)
set_option maxRecDepth 20000 in
theorem gL_law_X5_hours : GoodIn wsL_law (wsV RL 48 RX5 yX5_hours wsX5_hours) := goodIn_app (goodIn_of _ (by decide +kernel)) ggL_law_X5_hours
set_option maxRecDepth 20000 in
theorem ggL_law_X6_hours : GoodIn wsL_law wsX6_hours := goodIn_r _ [281, 282, 90, 127, 128, 5, 129, 737, 738, 739, 740, 741, 742, 743, 744, 745, 746, 747, 748, 749, 750, 751, 752, 753, 754, 755, 756, 757, 758, 759, 760, 761, 762, 763, 764, 765, 766, 767, 768, 769, 770, 771, 772, 773, 774] (by decide +kernel) (by decide +kernel)
set_option maxRecDepth 20000 in
theorem gL_law_X6_hours : GoodIn wsL_law (wsV RL 51 RX6 yX6_hours wsX6_hours) := goodIn_app (goodIn_of _ (by decide +kernel)) ggL_law_X6_hours
set_option maxRecDepth 20000 in
theorem ggL_law_X5_sell : GoodIn wsL_law wsX5_sell := goodIn_r _ [286, 15, 287, 19, 207, 153, 154, 14, 155, 41, 114, 2, 115, 288, 289, 290, 113, 291, 292, 293, 18, 294, 55, 53, 50, 56, 54, 51, 52, 295, 296, 297, 298, 732, 733, 734, 735, 736, 775, 776, 777, 778, 779, 780, 781, 782, 783, 784, 785, 786] (by decide +kernel) (by decide +kernel)
set_option maxRecDepth 20000 in
theorem gL_law_X5_sell : GoodIn wsL_law (wsV RL 52 RX5 yX5_sell wsX5_sell) := goodIn_app (goodIn_of _ (by decide +kernel)) ggL_law_X5_sell
set_option maxRecDepth 20000 in
theorem ggL_law_X6_sell : GoodIn wsL_law wsX6_sell := goodIn_r _ [302, 303, 304, 86, 90, 305, 91, 92, 93, 94, 95, 96, 97, 98, 87, 169, 170, 171, 5, 172, 143, 127, 128, 129, 306, 307, 308, 257, 309, 310, 311, 312, 737, 738, 739, 740, 741, 742, 743, 744, 745, 746, 747, 748, 749, 750, 751, 752, 753, 754, 755, 756, 757, 758, 759, 760, 761, 762, 763, 764, 765, 766, 767, 768, 769, 770, 771, 772, 773, 774] (by decide +kernel) (by decide +kernel)
set_option maxRecDepth 20000 in
theorem gL_law_X6_sell : GoodIn wsL_law (wsV RL 56 RX6 yX6_sell wsX6_sell) := goodIn_app (goodIn_of _ (by decide +kernel)) ggL_law_X6_sell
set_option maxRecDepth 20000 in
theorem ggL_law_X5_back : GoodIn wsL_law wsX5_back := goodIn_r _ [316, 15, 19, 207, 153, 154, 14, 155, 41, 114, 2, 115, 317, 318, 319, 18, 320, 51, 50, 56, 53, 54, 321, 322, 323, 324, 732, 733, 734, 735, 736, 775, 776, 777, 778, 779, 780, 781, 782, 783, 784, 785, 786] (by decide +kernel) (by decide +kernel)
set_option maxRecDepth 20000 in
theorem gL_law_X5_back : GoodIn wsL_law (wsV RL 57 RX5 yX5_back wsX5_back) := goodIn_app (goodIn_of _ (by decide +kernel)) ggL_law_X5_back
set_option maxRecDepth 20000 in
theorem ggL_law_X6_back : GoodIn wsL_law wsX6_back := goodIn_r _ [328, 87, 86, 93, 96, 90, 97, 92, 98, 169, 170, 171, 5, 172, 143, 127, 128, 129, 737, 738, 739, 740, 741, 742, 743, 744, 745, 746, 747, 748, 749, 750, 751, 752, 753, 754, 755, 756, 757, 758, 759, 760, 761, 762, 763, 764, 765, 766, 767, 768, 769, 770, 771, 772, 773, 774] (by decide +kernel) (by decide +kernel)
set_option maxRecDepth 20000 in
theorem gL_law_X6_back : GoodIn wsL_law (wsV RL 60 RX6 yX6_back wsX6_back) := goodIn_app (goodIn_of _ (by decide +kernel)) ggL_law_X6_back
