set_option maxRecDepth 20000 in
theorem ggL_law_X5_shyest : GoodIn wsL_law wsX5_shyest := goodIn_r _ [469, 23, 470, 471, 472, 22, 473, 474, 434, 435, 436, 437, 406, 407, 408, 64, 61, 62, 438, 439, 440, 475, 442, 443, 444, 476, 477, 478, 479, 732, 733, 734, 735, 736, 787, 788, 789, 790] (by decide +kernel) (by decide +kernel)
set_option maxRecDepth 20000 in
theorem gL_law_X5_shyest : GoodIn wsL_law (wsV RL 86 RX5 yX5_shyest wsX5_shyest) := goodIn_app (goodIn_of _ (by decide +kernel)) ggL_law_X5_shyest
set_option maxRecDepth 20000 in
theorem ggL_law_X6_shyest : GoodIn wsL_law wsX6_shyest := goodIn_r _ [483, 453, 454, 455, 456, 457, 5, 458, 417, 415, 414, 416, 421, 422, 423, 424, 397, 99, 100, 459, 460, 461, 462, 103, 127, 128, 129, 463, 464, 465, 484, 485, 486, 737, 738, 739, 740, 741, 742, 743, 744, 745, 746, 747, 748, 749, 750, 751, 752, 753, 754, 755, 756, 757, 758, 759, 760, 761, 762, 763, 764, 765, 766, 767, 768, 769, 770, 771, 772, 773, 774] (by decide +kernel) (by decide +kernel)
set_option maxRecDepth 20000 in
theorem gL_law_X6_shyest : GoodIn wsL_law (wsV RL 90 RX6 yX6_shyest wsX6_shyest) := goodIn_app (goodIn_of _ (by decide +kernel)) ggL_law_X6_shyest
set_option maxRecDepth 20000 in
theorem ggL_law_X5_inside : GoodIn wsL_law wsX5_inside := goodIn_r _ [490, 287, 113, 114, 2, 115, 491, 213, 214, 215, 216, 217, 218] (by decide +kernel) (by decide +kernel)
set_option maxRecDepth 20000 in
theorem gL_law_X5_inside : GoodIn wsL_law (wsV RL 91 RX5 yX5_inside wsX5_inside) := goodIn_app (goodIn_of _ (by decide +kernel)) ggL_law_X5_inside
set_option maxRecDepth 20000 in
theorem ggL_law_X6_inside : GoodIn wsL_law wsX6_inside := goodIn_r _ [495, 396, 303, 127, 128, 5, 129, 232, 233, 234] (by decide +kernel) (by decide +kernel)
set_option maxRecDepth 20000 in
theorem gL_law_X6_inside : GoodIn wsL_law (wsV RL 94 RX6 yX6_inside wsX6_inside) := goodIn_app (goodIn_of _ (by decide +kernel)) ggL_law_X6_inside
set_option maxRecDepth 20000 in
theorem ggL_law_X5_entry : GoodIn wsL_law wsX5_entry := goodIn_r _ [499, 27, 113, 114, 2, 115, 500, 501, 502, 26, 503, 73, 68, 732, 733, 734, 735, 736, 791, 792, 793, 794, 795, 796] (by decide +kernel) (by decide +kernel)
set_option maxRecDepth 20000 in
theorem gL_law_X5_entry : GoodIn wsL_law (wsV RL 95 RX5 yX5_entry wsX5_entry) := goodIn_app (goodIn_of _ (by decide +kernel)) ggL_law_X5_entry
set_option maxRecDepth 20000 in
theorem ggL_law_X6_entry : GoodIn wsL_law wsX6_entry := goodIn_r _ [507, 508, 509, 104, 127, 128, 5, 129, 737, 738, 739, 740, 741, 742, 743, 744, 745, 746, 747, 748, 749, 750, 751, 752, 753, 754, 755, 756, 757, 758, 759, 760, 761, 762, 763, 764, 765, 766, 767, 768, 769, 770, 771, 772, 773, 774] (by decide +kernel) (by decide +kernel)
set_option maxRecDepth 20000 in
theorem gL_law_X6_entry : GoodIn wsL_law (wsV RL 98 RX6 yX6_entry wsX6_entry) := goodIn_app (goodIn_of _ (by decide +kernel)) ggL_law_X6_entry
