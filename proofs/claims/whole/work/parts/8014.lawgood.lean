set_option maxRecDepth 20000 in
theorem ggL_law_X5_sale : GoodIn wsL_law wsX5_sale := goodIn_r _ [332, 19, 113, 114, 2, 115, 333, 334, 335, 18, 336, 55, 337, 322, 323, 324, 53, 732, 733, 734, 735, 736, 780, 781, 782, 783, 784, 785, 786] (by decide +kernel) (by decide +kernel)
set_option maxRecDepth 20000 in
theorem gL_law_X5_sale : GoodIn wsL_law (wsV RL 61 RX5 yX5_sale wsX5_sale) := goodIn_app (goodIn_of _ (by decide +kernel)) ggL_law_X5_sale
set_option maxRecDepth 20000 in
theorem ggL_law_X6_sale : GoodIn wsL_law wsX6_sale := goodIn_r _ [341, 342, 305, 127, 128, 5, 129, 343, 344, 345, 346, 91, 92, 93, 94, 95, 96, 97, 737, 738, 739, 740, 741, 742, 743, 744, 745, 746, 747, 748, 749, 750, 751, 752, 753, 754, 755, 756, 757, 758, 759, 760, 761, 762, 763, 764, 765, 766, 767, 768, 769, 770, 771, 772, 773, 774] (by decide +kernel) (by decide +kernel)
set_option maxRecDepth 20000 in
theorem gL_law_X6_sale : GoodIn wsL_law (wsV RL 64 RX6 yX6_sale wsX6_sale) := goodIn_app (goodIn_of _ (by decide +kernel)) ggL_law_X6_sale
set_option maxRecDepth 20000 in
theorem ggL_law_X5_gain : GoodIn wsL_law wsX5_gain := goodIn_r _ [350, 19, 351, 288, 289, 2, 290, 113, 114, 115, 352, 353, 354, 18, 355, 55, 356, 357, 358, 359, 321, 322, 323, 324, 53, 732, 733, 734, 735, 736, 780, 781, 782, 783, 784, 785, 786] (by decide +kernel) (by decide +kernel)
set_option maxRecDepth 20000 in
theorem gL_law_X5_gain : GoodIn wsL_law (wsV RL 65 RX5 yX5_gain wsX5_gain) := goodIn_app (goodIn_of _ (by decide +kernel)) ggL_law_X5_gain
set_option maxRecDepth 20000 in
theorem ggL_law_X6_gain : GoodIn wsL_law wsX6_gain := goodIn_r _ [363, 364, 306, 307, 5, 308, 257, 127, 128, 129, 365, 366, 367, 368, 305, 97, 92, 94, 93, 737, 738, 739, 740, 741, 742, 743, 744, 745, 746, 747, 748, 749, 750, 751, 752, 753, 754, 755, 756, 757, 758, 759, 760, 761, 762, 763, 764, 765, 766, 767, 768, 769, 770, 771, 772, 773, 774] (by decide +kernel) (by decide +kernel)
set_option maxRecDepth 20000 in
theorem gL_law_X6_gain : GoodIn wsL_law (wsV RL 68 RX6 yX6_gain wsX6_gain) := goodIn_app (goodIn_of _ (by decide +kernel)) ggL_law_X6_gain
set_option maxRecDepth 20000 in
theorem ggL_law_X5_rose : GoodIn wsL_law wsX5_rose := goodIn_r _ [372, 15, 19, 351, 207, 153, 154, 14, 155, 41, 114, 2, 115, 373, 374, 375, 18, 376, 55, 356, 357, 358, 359, 321, 322, 323, 324, 53, 732, 733, 734, 735, 736, 775, 776, 777, 778, 779, 780, 781, 782, 783, 784, 785, 786] (by decide +kernel) (by decide +kernel)
set_option maxRecDepth 20000 in
theorem gL_law_X5_rose : GoodIn wsL_law (wsV RL 69 RX5 yX5_rose wsX5_rose) := goodIn_app (goodIn_of _ (by decide +kernel)) ggL_law_X5_rose
set_option maxRecDepth 20000 in
theorem ggL_law_X6_rose : GoodIn wsL_law wsX6_rose := goodIn_r _ [380, 364, 305, 97, 91, 94, 169, 170, 171, 5, 172, 143, 127, 128, 129, 737, 738, 739, 740, 741, 742, 743, 744, 745, 746, 747, 748, 749, 750, 751, 752, 753, 754, 755, 756, 757, 758, 759, 760, 761, 762, 763, 764, 765, 766, 767, 768, 769, 770, 771, 772, 773, 774] (by decide +kernel) (by decide +kernel)
set_option maxRecDepth 20000 in
theorem gL_law_X6_rose : GoodIn wsL_law (wsV RL 72 RX6 yX6_rose wsX6_rose) := goodIn_app (goodIn_of _ (by decide +kernel)) ggL_law_X6_rose
