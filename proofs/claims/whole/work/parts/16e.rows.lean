set_option maxRecDepth 20000 in
theorem ggL_law_X8_smelt : GoodIn wsL_law wsX8_smelt := goodIn_r _ [706, 543, 526, 527, 528, 5, 529, 117, 440, 173, 174, 175, 446, 447, 448, 449, 530, 531, 532, 533, 450, 451, 452, 453, 141, 338, 339, 340, 341, 142, 143, 342, 343, 344, 345, 119, 399, 400, 401, 402, 395, 396, 397, 398, 476, 477, 478, 479, 839, 840, 841, 842, 843, 844, 845, 846, 847, 848, 849, 850, 851, 852, 853, 854, 855, 856, 857, 858, 859, 860, 861, 862, 863, 864, 865, 866] (by decide +kernel) (by decide +kernel)
set_option maxRecDepth 20000 in
theorem gL_law_X8_smelt : GoodIn wsL_law (wsV RL 106 RX8 yX8_smelt wsX8_smelt) := goodIn_app (goodIn_of _ (by decide +kernel)) ggL_law_X8_smelt
set_option maxRecDepth 20000 in
theorem ggL_law_X7_odds : GoodIn wsL_law wsX7_odds := goodIn_r _ [710, 368, 19, 318, 319, 2, 320, 155, 156, 157, 369, 370, 371, 18, 372, 373, 374, 375, 376, 63, 58, 459, 711, 712, 713, 828, 829, 830, 831, 832, 833, 834, 835, 836, 837, 838, 877, 878, 879] (by decide +kernel) (by decide +kernel)
set_option maxRecDepth 20000 in
theorem gL_law_X7_odds : GoodIn wsL_law (wsV RL 107 RX7 yX7_odds wsX7_odds) := goodIn_app (goodIn_of _ (by decide +kernel)) ggL_law_X7_odds
set_option maxRecDepth 20000 in
theorem ggL_law_X8_odds : GoodIn wsL_law wsX8_odds := goodIn_r _ [717, 390, 334, 335, 5, 336, 337, 173, 174, 175, 395, 396, 397, 398, 117, 391, 392, 393, 394, 839, 840, 841, 842, 843, 844, 845, 846, 847, 848, 849, 850, 851, 852, 853, 854, 855, 856, 857, 858, 859, 860, 861, 862, 863, 864, 865, 866] (by decide +kernel) (by decide +kernel)
set_option maxRecDepth 20000 in
theorem gL_law_X8_odds : GoodIn wsL_law (wsV RL 110 RX8 yX8_odds wsX8_odds) := goodIn_app (goodIn_of _ (by decide +kernel)) ggL_law_X8_odds
set_option maxRecDepth 20000 in
theorem ggL_law_X7_barley : GoodIn wsL_law wsX7_barley := goodIn_r _ [721, 458, 368, 19, 43, 626, 155, 156, 2, 157, 377, 378, 379, 18, 380, 64, 381, 382, 383, 384, 385, 373, 374, 375, 376, 63, 58, 828, 829, 830, 831, 832, 833, 834, 835, 836, 837, 838, 877, 878, 879, 890, 891, 892, 893, 894, 895, 896, 897, 898, 899, 900] (by decide +kernel) (by decide +kernel)
set_option maxRecDepth 20000 in
theorem gL_law_X7_barley : GoodIn wsL_law (wsV RL 111 RX7 yX7_barley wsX7_barley) := goodIn_app (goodIn_of _ (by decide +kernel)) ggL_law_X7_barley
set_option maxRecDepth 20000 in
theorem ggL_law_X8_barley : GoodIn wsL_law wsX8_barley := goodIn_r _ [725, 726, 475, 390, 632, 173, 174, 5, 175, 399, 400, 401, 402, 117, 119, 395, 396, 397, 398, 839, 840, 841, 842, 843, 844, 845, 846, 847, 848, 849, 850, 851, 852, 853, 854, 855, 856, 857, 858, 859, 860, 861, 862, 863, 864, 865, 866] (by decide +kernel) (by decide +kernel)
set_option maxRecDepth 20000 in
theorem gL_law_X8_barley : GoodIn wsL_law (wsV RL 114 RX8 yX8_barley wsX8_barley) := goodIn_app (goodIn_of _ (by decide +kernel)) ggL_law_X8_barley
set_option maxRecDepth 20000 in
theorem ggL_law_X7_rate : GoodIn wsL_law wsX7_rate := goodIn_r _ [730, 731, 39, 43, 19, 365, 318, 319, 2, 320, 155, 156, 157, 732, 733, 734, 38, 735, 736, 737, 738, 739, 740, 741, 742, 743, 744, 745, 746, 747, 748, 749, 750, 751, 752, 753, 754, 755, 756, 757, 758, 759, 760, 761, 762, 763, 764, 765, 766, 767, 768, 769, 828, 829, 830, 831, 832, 833, 834, 835, 836, 837, 838, 877, 878, 879, 889, 890, 891, 892, 893, 894, 895, 896, 897, 898, 899, 900] (by decide +kernel) (by decide +kernel)
set_option maxRecDepth 20000 in
theorem gL_law_X7_rate : GoodIn wsL_law (wsV RL 115 RX7 yX7_rate wsX7_rate) := goodIn_app (goodIn_of _ (by decide +kernel)) ggL_law_X7_rate
set_option maxRecDepth 20000 in
theorem ggL_law_X8_rate : GoodIn wsL_law wsX8_rate := goodIn_r _ [773, 774, 775, 776, 726, 777, 778, 117, 173, 174, 5, 175, 334, 335, 336, 337, 779, 780, 781, 782, 783, 141, 784, 785, 786, 787, 119, 788, 789, 790, 791, 792, 338, 339, 340, 341, 142, 143, 839, 840, 841, 842, 843, 844, 845, 846, 847, 848, 849, 850, 851, 852, 853, 854, 855, 856, 857, 858, 859, 860, 861, 862, 863, 864, 865, 866] (by decide +kernel) (by decide +kernel)
set_option maxRecDepth 20000 in
theorem gL_law_X8_rate : GoodIn wsL_law (wsV RL 118 RX8 yX8_rate wsX8_rate) := goodIn_app (goodIn_of _ (by decide +kernel)) ggL_law_X8_rate
set_option maxRecDepth 20000 in
theorem ggL_law_X7_keep : GoodIn wsL_law wsX7_keep := goodIn_r _ [796, 25, 19, 27, 365, 155, 156, 2, 157, 516, 415, 416, 18, 417, 58, 418, 419, 420, 421, 63, 64, 828, 829, 830, 831, 832, 833, 834, 835, 836, 837, 838, 877, 878, 879] (by decide +kernel) (by decide +kernel)
set_option maxRecDepth 20000 in
theorem gL_law_X7_keep : GoodIn wsL_law (wsV RL 119 RX7 yX7_keep wsX7_keep) := goodIn_app (goodIn_of _ (by decide +kernel)) ggL_law_X7_keep
set_option maxRecDepth 20000 in
theorem ggL_law_X8_keep : GoodIn wsL_law wsX8_keep := goodIn_r _ [800, 118, 117, 173, 174, 5, 175, 446, 447, 448, 449, 839, 840, 841, 842, 843, 844, 845, 846, 847, 848, 849, 850, 851, 852, 853, 854, 855, 856, 857, 858, 859, 860, 861, 862, 863, 864, 865, 866] (by decide +kernel) (by decide +kernel)
set_option maxRecDepth 20000 in
theorem gL_law_X8_keep : GoodIn wsL_law (wsV RL 122 RX8 yX8_keep wsX8_keep) := goodIn_app (goodIn_of _ (by decide +kernel)) ggL_law_X8_keep
set_option maxRecDepth 20000 in
theorem ggL_law_X7_back : GoodIn wsL_law wsX7_back := goodIn_r _ [804, 27, 19, 25, 24, 365, 155, 156, 2, 157, 516, 415, 416, 18, 417, 58, 418, 419, 420, 421, 63, 64, 265, 266, 267, 23, 268, 269, 828, 829, 830, 831, 832, 833, 834, 835, 836, 837, 838, 877, 878, 879, 880, 881, 882] (by decide +kernel) (by decide +kernel)
set_option maxRecDepth 20000 in
theorem gL_law_X7_back : GoodIn wsL_law (wsV RL 123 RX7 yX7_back wsX7_back) := goodIn_app (goodIn_of _ (by decide +kernel)) ggL_law_X7_back
set_option maxRecDepth 20000 in
theorem ggL_law_X8_back : GoodIn wsL_law wsX8_back := goodIn_r _ [808, 118, 146, 117, 173, 174, 5, 175, 446, 447, 448, 449, 839, 840, 841, 842, 843, 844, 845, 846, 847, 848, 849, 850, 851, 852, 853, 854, 855, 856, 857, 858, 859, 860, 861, 862, 863, 864, 865, 866] (by decide +kernel) (by decide +kernel)
set_option maxRecDepth 20000 in
theorem gL_law_X8_back : GoodIn wsL_law (wsV RL 126 RX8 yX8_back wsX8_back) := goodIn_app (goodIn_of _ (by decide +kernel)) ggL_law_X8_back
set_option maxRecDepth 20000 in
theorem ggL_law_X7_count : GoodIn wsL_law wsX7_count := goodIn_r _ [812, 43, 813, 814, 354, 31, 654, 15, 163, 164, 165, 14, 166, 162, 828, 829, 830, 831, 832, 833, 834, 835, 836, 837, 838, 890, 891, 892, 893, 894, 895, 896, 897, 898, 899, 900, 883, 884, 885, 867, 868, 869, 870, 871, 872, 873, 874, 875, 876] (by decide +kernel) (by decide +kernel)
set_option maxRecDepth 20000 in
theorem gL_law_X7_count : GoodIn wsL_law (wsV RL 127 RX7 yX7_count wsX7_count) := goodIn_app (goodIn_of _ (by decide +kernel)) ggL_law_X7_count
set_option maxRecDepth 20000 in
theorem ggL_law_X8_count : GoodIn wsL_law wsX8_count := goodIn_r _ [818, 141, 143, 144, 145, 172, 839, 840, 841, 842, 843, 844, 845, 846, 847, 848, 849, 850, 851, 852, 853, 854, 855, 856, 857, 858, 859, 860, 861, 862, 863, 864, 865, 866] (by decide +kernel) (by decide +kernel)
set_option maxRecDepth 20000 in
theorem gL_law_X8_count : GoodIn wsL_law (wsV RL 130 RX8 yX8_count wsX8_count) := goodIn_app (goodIn_of _ (by decide +kernel)) ggL_law_X8_count
set_option maxRecDepth 20000 in
theorem ggL_law_X7_trace : GoodIn wsL_law wsX7_trace := goodIn_r _ [822, 39, 823, 828, 829, 830, 831, 832, 833, 834, 835, 836, 837, 838, 889] (by decide +kernel) (by decide +kernel)
set_option maxRecDepth 20000 in
theorem gL_law_X7_trace : GoodIn wsL_law (wsV RL 131 RX7 yX7_trace wsX7_trace) := goodIn_app (goodIn_of _ (by decide +kernel)) ggL_law_X7_trace
set_option maxRecDepth 20000 in
theorem ggL_law_X8_trace : GoodIn wsL_law wsX8_trace := goodIn_r _ [827, 776, 839, 840, 841, 842, 843, 844, 845, 846, 847, 848, 849, 850, 851, 852, 853, 854, 855, 856, 857, 858, 859, 860, 861, 862, 863, 864, 865, 866] (by decide +kernel) (by decide +kernel)
set_option maxRecDepth 20000 in
theorem gL_law_X8_trace : GoodIn wsL_law (wsV RL 134 RX8 yX8_trace wsX8_trace) := goodIn_app (goodIn_of _ (by decide +kernel)) ggL_law_X8_trace
