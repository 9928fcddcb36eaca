set_option maxRecDepth 20000 in
theorem ggL_law_X5_fall : GoodIn wsL_law wsX5_fall := goodIn_r _ [642, 287, 31, 288, 289, 2, 290, 113, 114, 115, 643, 644, 645, 30, 646, 647, 648, 649, 650, 619, 620, 621, 622, 77, 623, 624, 625, 626, 732, 733, 734, 735, 736, 797] (by decide +kernel) (by decide +kernel)
set_option maxRecDepth 20000 in
theorem gL_law_X5_fall : GoodIn wsL_law (wsV RL 123 RX5 yX5_fall wsX5_fall) := goodIn_app (goodIn_of _ (by decide +kernel)) ggL_law_X5_fall
set_option maxRecDepth 20000 in
theorem ggL_law_X6_fall : GoodIn wsL_law wsX6_fall := goodIn_r _ [654, 303, 306, 307, 5, 308, 257, 127, 128, 129, 631, 632, 633, 634, 108, 635, 636, 637, 638, 737, 738, 739, 740, 741, 742, 743, 744, 745, 746, 747, 748, 749, 750, 751, 752, 753, 754, 755, 756, 757, 758, 759, 760, 761, 762, 763, 764, 765, 766, 767, 768, 769, 770, 771, 772, 773, 774] (by decide +kernel) (by decide +kernel)
set_option maxRecDepth 20000 in
theorem gL_law_X6_fall : GoodIn wsL_law (wsV RL 126 RX6 yX6_fall wsX6_fall) := goodIn_app (goodIn_of _ (by decide +kernel)) ggL_law_X6_fall
set_option maxRecDepth 20000 in
theorem ggL_law_X5_count : GoodIn wsL_law wsX5_count := goodIn_r _ [658, 15, 19, 23, 27, 31, 553, 554, 555, 14, 556, 41, 333, 334, 335, 18, 336, 55, 659, 660, 661, 662, 321, 322, 323, 324, 53, 663, 664, 665, 22, 666, 64, 667, 668, 669, 26, 670, 73, 671, 672, 673, 674, 56, 675, 676, 677, 30, 678, 77, 732, 733, 734, 735, 736, 775, 776, 777, 778, 779, 780, 781, 782, 783, 784, 785, 786, 787, 788, 789, 790, 791, 792, 793, 794, 795, 796, 797] (by decide +kernel) (by decide +kernel)
set_option maxRecDepth 20000 in
theorem gL_law_X5_count : GoodIn wsL_law (wsV RL 127 RX5 yX5_count wsX5_count) := goodIn_app (goodIn_of _ (by decide +kernel)) ggL_law_X5_count
set_option maxRecDepth 20000 in
theorem ggL_law_X6_count : GoodIn wsL_law wsX6_count := goodIn_r _ [682, 143, 305, 397, 509, 90, 683, 684, 685, 5, 686, 97, 687, 688, 689, 690, 635, 636, 637, 638, 108, 737, 738, 739, 740, 741, 742, 743, 744, 745, 746, 747, 748, 749, 750, 751, 752, 753, 754, 755, 756, 757, 758, 759, 760, 761, 762, 763, 764, 765, 766, 767, 768, 769, 770, 771, 772, 773, 774] (by decide +kernel) (by decide +kernel)
set_option maxRecDepth 20000 in
theorem gL_law_X6_count : GoodIn wsL_law (wsV RL 130 RX6 yX6_count wsX6_count) := goodIn_app (goodIn_of _ (by decide +kernel)) ggL_law_X6_count
set_option maxRecDepth 20000 in
theorem ggL_law_X5_digest : GoodIn wsL_law wsX5_digest := goodIn_r _ [694, 695, 15, 19, 27, 23, 31, 696, 656, 657, 2, 658, 553, 554, 555, 14, 556, 41, 333, 334, 335, 18, 336, 55, 659, 660, 661, 662, 321, 322, 323, 324, 53, 663, 664, 665, 22, 666, 64, 667, 668, 669, 26, 670, 73, 671, 672, 673, 674, 56, 675, 676, 677, 30, 678, 77, 697, 698, 699, 700, 701, 702, 703, 704, 37, 38, 705, 706, 707, 708, 39, 160, 161, 162, 163, 40, 262, 263, 264, 265, 50, 709, 710, 711, 712, 69, 70, 713, 714, 715, 716, 717, 718, 719, 720, 61, 62, 63, 721, 722, 723, 724, 68, 352, 353, 354, 355, 356, 357, 358, 359, 615, 616, 617, 618, 619, 620, 621, 622, 623, 624, 625, 626, 732, 733, 734, 735, 736, 775, 776, 777, 778, 779, 780, 781, 782, 783, 784, 785, 786, 787, 788, 789, 790, 791, 792, 793, 794, 795, 796, 797] (by decide +kernel) (by decide +kernel)
set_option maxRecDepth 20000 in
theorem gL_law_X5_digest : GoodIn wsL_law (wsV RL 131 RX5 yX5_digest wsX5_digest) := goodIn_app (goodIn_of _ (by decide +kernel)) ggL_law_X5_digest
set_option maxRecDepth 20000 in
theorem ggL_law_X6_digest : GoodIn wsL_law wsX6_digest := goodIn_r _ [728, 729, 730, 82, 83, 143, 84, 85, 86, 88, 89, 305, 397, 99, 100, 101, 509, 104, 731, 680, 681, 5, 682, 90, 683, 684, 685, 686, 97, 687, 688, 689, 690, 635, 636, 637, 638, 108, 343, 344, 345, 346, 91, 92, 93, 94, 95, 96, 365, 366, 367, 368, 631, 632, 633, 634, 737, 738, 739, 740, 741, 742, 743, 744, 745, 746, 747, 748, 749, 750, 751, 752, 753, 754, 755, 756, 757, 758, 759, 760, 761, 762, 763, 764, 765, 766, 767, 768, 769, 770, 771, 772, 773, 774] (by decide +kernel) (by decide +kernel)
set_option maxRecDepth 20000 in
theorem gL_law_X6_digest : GoodIn wsL_law (wsV RL 135 RX6 yX6_digest wsX6_digest) := goodIn_app (goodIn_of _ (by decide +kernel)) ggL_law_X6_digest
