set_option maxRecDepth 20000 in
theorem ggL_law_X5_fall : GoodIn wsL_law wsX5_fall := goodIn_r _ [643, 287, 31, 288, 289, 2, 290, 113, 114, 115, 644, 645, 646, 30, 647, 648, 649, 650, 651, 620, 621, 622, 623, 77, 624, 625, 626, 627, 733, 734, 735, 736, 737, 798] (by decide +kernel) (by decide +kernel)
set_option maxRecDepth 20000 in
theorem gL_law_X5_fall : GoodIn wsL_law (wsV RL 123 RX5 yX5_fall wsX5_fall) := goodIn_app (goodIn_of _ (by decide +kernel)) ggL_law_X5_fall
set_option maxRecDepth 20000 in
theorem ggL_law_X6_fall : GoodIn wsL_law wsX6_fall := goodIn_r _ [655, 303, 306, 307, 5, 308, 257, 127, 128, 129, 632, 633, 634, 635, 108, 636, 637, 638, 639, 738, 739, 740, 741, 742, 743, 744, 745, 746, 747, 748, 749, 750, 751, 752, 753, 754, 755, 756, 757, 758, 759, 760, 761, 762, 763, 764, 765, 766, 767, 768, 769, 770, 771, 772, 773, 774, 775] (by decide +kernel) (by decide +kernel)
set_option maxRecDepth 20000 in
theorem gL_law_X6_fall : GoodIn wsL_law (wsV RL 126 RX6 yX6_fall wsX6_fall) := goodIn_app (goodIn_of _ (by decide +kernel)) ggL_law_X6_fall
set_option maxRecDepth 20000 in
theorem ggL_law_X5_count : GoodIn wsL_law wsX5_count := goodIn_r _ [659, 15, 19, 23, 27, 31, 554, 555, 556, 14, 557, 41, 333, 334, 335, 18, 336, 55, 660, 661, 662, 663, 321, 322, 323, 324, 53, 664, 665, 666, 22, 667, 64, 668, 669, 670, 26, 671, 73, 672, 673, 674, 675, 56, 676, 677, 678, 30, 679, 77, 733, 734, 735, 736, 737, 776, 777, 778, 779, 780, 781, 782, 783, 784, 785, 786, 787, 788, 789, 790, 791, 792, 793, 794, 795, 796, 797, 798] (by decide +kernel) (by decide +kernel)
set_option maxRecDepth 20000 in
theorem gL_law_X5_count : GoodIn wsL_law (wsV RL 127 RX5 yX5_count wsX5_count) := goodIn_app (goodIn_of _ (by decide +kernel)) ggL_law_X5_count
set_option maxRecDepth 20000 in
theorem ggL_law_X6_count : GoodIn wsL_law wsX6_count := goodIn_r _ [683, 143, 305, 397, 510, 90, 684, 685, 686, 5, 687, 97, 688, 689, 690, 691, 636, 637, 638, 639, 108, 738, 739, 740, 741, 742, 743, 744, 745, 746, 747, 748, 749, 750, 751, 752, 753, 754, 755, 756, 757, 758, 759, 760, 761, 762, 763, 764, 765, 766, 767, 768, 769, 770, 771, 772, 773, 774, 775] (by decide +kernel) (by decide +kernel)
set_option maxRecDepth 20000 in
theorem gL_law_X6_count : GoodIn wsL_law (wsV RL 130 RX6 yX6_count wsX6_count) := goodIn_app (goodIn_of _ (by decide +kernel)) ggL_law_X6_count
set_option maxRecDepth 20000 in
theorem ggL_law_X5_digest : GoodIn wsL_law wsX5_digest := goodIn_r _ [695, 696, 15, 19, 27, 23, 31, 697, 657, 658, 2, 659, 554, 555, 556, 14, 557, 41, 333, 334, 335, 18, 336, 55, 660, 661, 662, 663, 321, 322, 323, 324, 53, 664, 665, 666, 22, 667, 64, 668, 669, 670, 26, 671, 73, 672, 673, 674, 675, 56, 676, 677, 678, 30, 679, 77, 698, 699, 700, 701, 702, 703, 704, 705, 37, 38, 706, 707, 708, 709, 39, 160, 161, 162, 163, 40, 262, 263, 264, 265, 50, 710, 711, 712, 713, 69, 70, 714, 715, 716, 717, 718, 719, 720, 721, 61, 62, 63, 722, 723, 724, 725, 68, 352, 353, 354, 355, 356, 357, 358, 359, 616, 617, 618, 619, 620, 621, 622, 623, 624, 625, 626, 627, 733, 734, 735, 736, 737, 776, 777, 778, 779, 780, 781, 782, 783, 784, 785, 786, 787, 788, 789, 790, 791, 792, 793, 794, 795, 796, 797, 798] (by decide +kernel) (by decide +kernel)
set_option maxRecDepth 20000 in
theorem gL_law_X5_digest : GoodIn wsL_law (wsV RL 131 RX5 yX5_digest wsX5_digest) := goodIn_app (goodIn_of _ (by decide +kernel)) ggL_law_X5_digest
set_option maxRecDepth 20000 in
theorem ggL_law_X6_digest : GoodIn wsL_law wsX6_digest := goodIn_r _ [729, 730, 731, 82, 83, 143, 84, 85, 86, 88, 89, 305, 397, 99, 100, 101, 510, 104, 732, 681, 682, 5, 683, 90, 684, 685, 686, 687, 97, 688, 689, 690, 691, 636, 637, 638, 639, 108, 343, 344, 345, 346, 91, 92, 93, 94, 95, 96, 365, 366, 367, 368, 632, 633, 634, 635, 738, 739, 740, 741, 742, 743, 744, 745, 746, 747, 748, 749, 750, 751, 752, 753, 754, 755, 756, 757, 758, 759, 760, 761, 762, 763, 764, 765, 766, 767, 768, 769, 770, 771, 772, 773, 774, 775] (by decide +kernel) (by decide +kernel)
set_option maxRecDepth 20000 in
theorem gL_law_X6_digest : GoodIn wsL_law (wsV RL 135 RX6 yX6_digest wsX6_digest) := goodIn_app (goodIn_of _ (by decide +kernel)) ggL_law_X6_digest
