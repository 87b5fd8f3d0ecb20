set_option maxRecDepth 20000 in
theorem ggL_law_X7_met : GoodIn wsL_law wsX7_met := goodIn_r _ [594, 595, 596, 597, 2, 598, 43, 19, 365, 20, 599, 600, 601, 42, 602, 108, 96, 603, 434, 214, 435, 516, 415, 416, 18, 417, 58, 418, 419, 420, 421, 63, 64, 517, 518, 519, 520, 521, 423, 424, 425, 426, 427, 428, 322, 323, 324, 94, 429, 430, 431, 432, 433, 604, 605, 606, 607, 354, 355, 35, 356, 550, 551, 552, 34, 553, 554, 555, 556, 374, 375, 376, 557, 558, 559, 560, 85, 561, 562, 563, 564, 565, 566, 567, 568, 569, 465, 466, 86, 608, 609, 610, 611, 612, 461, 462, 463, 464, 828, 829, 830, 831, 832, 833, 834, 835, 836, 837, 838, 877, 878, 879, 890, 891, 892, 893, 894, 895, 896, 897, 898, 899, 900, 886, 887, 888] (by decide +kernel) (by decide +kernel)
set_option maxRecDepth 20000 in
theorem gL_law_X7_met : GoodIn wsL_law (wsV RL 75 RX7 yX7_met wsX7_met) := goodIn_app (goodIn_of _ (by decide +kernel)) ggL_law_X7_met
set_option maxRecDepth 20000 in
theorem ggL_law_X8_met : GoodIn wsL_law wsX8_met := goodIn_r _ [616, 617, 618, 619, 5, 620, 117, 144, 120, 121, 129, 621, 446, 447, 448, 449, 450, 451, 452, 453, 141, 338, 339, 340, 341, 142, 143, 342, 343, 344, 345, 119, 575, 576, 577, 578, 128, 579, 580, 581, 582, 583, 584, 585, 586, 587, 395, 396, 397, 398, 588, 589, 590, 476, 477, 478, 479, 399, 400, 401, 402, 839, 840, 841, 842, 843, 844, 845, 846, 847, 848, 849, 850, 851, 852, 853, 854, 855, 856, 857, 858, 859, 860, 861, 862, 863, 864, 865, 866] (by decide +kernel) (by decide +kernel)
set_option maxRecDepth 20000 in
theorem gL_law_X8_met : GoodIn wsL_law (wsV RL 78 RX8 yX8_met wsX8_met) := goodIn_app (goodIn_of _ (by decide +kernel)) ggL_law_X8_met
set_option maxRecDepth 20000 in
theorem ggL_law_X7_left : GoodIn wsL_law wsX7_left := goodIn_r _ [625, 20, 43, 626, 595, 596, 597, 2, 598, 19, 365, 599, 600, 601, 42, 602, 108, 96, 603, 434, 214, 435, 516, 415, 416, 18, 417, 58, 418, 419, 420, 421, 63, 64, 517, 518, 519, 520, 521, 423, 424, 425, 426, 427, 428, 322, 323, 324, 94, 429, 430, 431, 432, 433, 604, 605, 606, 607, 354, 355, 35, 356, 550, 551, 552, 34, 553, 554, 555, 556, 374, 375, 376, 557, 558, 559, 560, 85, 561, 562, 563, 564, 565, 566, 567, 568, 569, 465, 466, 86, 608, 609, 610, 611, 612, 461, 462, 463, 464, 627, 382, 383, 384, 385, 373, 828, 829, 830, 831, 832, 833, 834, 835, 836, 837, 838, 877, 878, 879, 890, 891, 892, 893, 894, 895, 896, 897, 898, 899, 900, 886, 887, 888] (by decide +kernel) (by decide +kernel)
set_option maxRecDepth 20000 in
theorem gL_law_X7_left : GoodIn wsL_law (wsV RL 79 RX7 yX7_left wsX7_left) := goodIn_app (goodIn_of _ (by decide +kernel)) ggL_law_X7_left
set_option maxRecDepth 20000 in
theorem ggL_law_X8_left : GoodIn wsL_law wsX8_left := goodIn_r _ [631, 117, 621, 632, 399, 400, 401, 5, 402, 119, 395, 396, 397, 398, 617, 618, 619, 620, 144, 120, 121, 129, 446, 447, 448, 449, 450, 451, 452, 453, 141, 338, 339, 340, 341, 142, 143, 342, 343, 344, 345, 575, 576, 577, 578, 128, 579, 580, 581, 582, 583, 584, 585, 586, 587, 588, 589, 590, 476, 477, 478, 479, 839, 840, 841, 842, 843, 844, 845, 846, 847, 848, 849, 850, 851, 852, 853, 854, 855, 856, 857, 858, 859, 860, 861, 862, 863, 864, 865, 866] (by decide +kernel) (by decide +kernel)
set_option maxRecDepth 20000 in
theorem gL_law_X8_left : GoodIn wsL_law (wsV RL 82 RX8 yX8_left wsX8_left) := goodIn_app (goodIn_of _ (by decide +kernel)) ggL_law_X8_left
set_option maxRecDepth 20000 in
theorem ggL_law_X7_age : GoodIn wsL_law wsX7_age := goodIn_r _ [636, 43, 316, 155, 156, 2, 157, 828, 829, 830, 831, 832, 833, 834, 835, 836, 837, 838, 890, 891, 892, 893, 894, 895, 896, 897, 898, 899, 900] (by decide +kernel) (by decide +kernel)
set_option maxRecDepth 20000 in
theorem gL_law_X7_age : GoodIn wsL_law (wsV RL 83 RX7 yX7_age wsX7_age) := goodIn_app (goodIn_of _ (by decide +kernel)) ggL_law_X7_age
set_option maxRecDepth 20000 in
theorem ggL_law_X8_age : GoodIn wsL_law wsX8_age := goodIn_r _ [640, 641, 119, 173, 174, 5, 175, 839, 840, 841, 842, 843, 844, 845, 846, 847, 848, 849, 850, 851, 852, 853, 854, 855, 856, 857, 858, 859, 860, 861, 862, 863, 864, 865, 866] (by decide +kernel) (by decide +kernel)
set_option maxRecDepth 20000 in
theorem gL_law_X8_age : GoodIn wsL_law (wsV RL 86 RX8 yX8_age wsX8_age) := goodIn_app (goodIn_of _ (by decide +kernel)) ggL_law_X8_age
set_option maxRecDepth 20000 in
theorem ggL_law_X7_first : GoodIn wsL_law wsX7_first := goodIn_r _ [645, 458, 20, 43, 318, 319, 2, 320, 155, 156, 157, 264, 60, 61, 18, 62, 58, 63, 64, 65, 66, 67, 68, 517, 518, 519, 520, 521, 423, 424, 425, 426, 427, 428, 322, 323, 42, 324, 94, 429, 430, 431, 432, 433, 434, 214, 435, 459, 374, 375, 376, 828, 829, 830, 831, 832, 833, 834, 835, 836, 837, 838, 877, 878, 879, 890, 891, 892, 893, 894, 895, 896, 897, 898, 899, 900] (by decide +kernel) (by decide +kernel)
set_option maxRecDepth 20000 in
theorem gL_law_X7_first : GoodIn wsL_law (wsV RL 87 RX7 yX7_first wsX7_first) := goodIn_app (goodIn_of _ (by decide +kernel)) ggL_law_X7_first
set_option maxRecDepth 20000 in
theorem ggL_law_X8_first : GoodIn wsL_law wsX8_first := goodIn_r _ [649, 117, 440, 471, 472, 473, 5, 474, 475, 334, 335, 336, 337, 173, 174, 175, 147, 148, 149, 150, 395, 396, 397, 398, 450, 451, 452, 453, 141, 338, 339, 340, 341, 142, 143, 342, 343, 344, 345, 119, 839, 840, 841, 842, 843, 844, 845, 846, 847, 848, 849, 850, 851, 852, 853, 854, 855, 856, 857, 858, 859, 860, 861, 862, 863, 864, 865, 866] (by decide +kernel) (by decide +kernel)
set_option maxRecDepth 20000 in
theorem gL_law_X8_first : GoodIn wsL_law (wsV RL 90 RX8 yX8_first wsX8_first) := goodIn_app (goodIn_of _ (by decide +kernel)) ggL_law_X8_first
set_option maxRecDepth 20000 in
theorem ggL_law_X7_lay : GoodIn wsL_law wsX7_lay := goodIn_r _ [653, 458, 31, 654, 318, 319, 2, 320, 155, 156, 157, 655, 656, 657, 30, 658, 274, 79, 80, 828, 829, 830, 831, 832, 833, 834, 835, 836, 837, 838, 883, 884, 885] (by decide +kernel) (by decide +kernel)
set_option maxRecDepth 20000 in
theorem gL_law_X7_lay : GoodIn wsL_law (wsV RL 91 RX7 yX7_lay wsX7_lay) := goodIn_app (goodIn_of _ (by decide +kernel)) ggL_law_X7_lay
set_option maxRecDepth 20000 in
theorem ggL_law_X8_lay : GoodIn wsL_law wsX8_lay := goodIn_r _ [662, 475, 145, 122, 123, 334, 335, 5, 336, 337, 173, 174, 175, 839, 840, 841, 842, 843, 844, 845, 846, 847, 848, 849, 850, 851, 852, 853, 854, 855, 856, 857, 858, 859, 860, 861, 862, 863, 864, 865, 866] (by decide +kernel) (by decide +kernel)
set_option maxRecDepth 20000 in
theorem gL_law_X8_lay : GoodIn wsL_law (wsV RL 94 RX8 yX8_lay wsX8_lay) := goodIn_app (goodIn_of _ (by decide +kernel)) ggL_law_X8_lay
set_option maxRecDepth 20000 in
theorem ggL_law_X7_forget : GoodIn wsL_law wsX7_forget := goodIn_r _ [666, 31, 270, 271, 272, 30, 273, 274, 828, 829, 830, 831, 832, 833, 834, 835, 836, 837, 838, 883, 884, 885] (by decide +kernel) (by decide +kernel)
set_option maxRecDepth 20000 in
theorem gL_law_X7_forget : GoodIn wsL_law (wsV RL 95 RX7 yX7_forget wsX7_forget) := goodIn_app (goodIn_of _ (by decide +kernel)) ggL_law_X7_forget
set_option maxRecDepth 20000 in
theorem ggL_law_X8_forget : GoodIn wsL_law wsX8_forget := goodIn_r _ [670, 145, 839, 840, 841, 842, 843, 844, 845, 846, 847, 848, 849, 850, 851, 852, 853, 854, 855, 856, 857, 858, 859, 860, 861, 862, 863, 864, 865, 866] (by decide +kernel) (by decide +kernel)
set_option maxRecDepth 20000 in
theorem gL_law_X8_forget : GoodIn wsL_law (wsV RL 98 RX8 yX8_forget wsX8_forget) := goodIn_app (goodIn_of _ (by decide +kernel)) ggL_law_X8_forget
set_option maxRecDepth 20000 in
theorem ggL_law_X7_mayBe : GoodIn wsL_law wsX7_mayBe := goodIn_r _ [674, 20, 43, 31, 155, 156, 2, 157, 264, 60, 61, 18, 62, 58, 63, 64, 65, 66, 67, 68, 517, 518, 519, 520, 521, 423, 424, 425, 426, 427, 428, 322, 323, 42, 324, 94, 429, 430, 431, 432, 433, 434, 214, 435, 675, 676, 677, 30, 678, 274, 79, 80, 679, 374, 375, 376, 828, 829, 830, 831, 832, 833, 834, 835, 836, 837, 838, 877, 878, 879, 890, 891, 892, 893, 894, 895, 896, 897, 898, 899, 900, 883, 884, 885] (by decide +kernel) (by decide +kernel)
set_option maxRecDepth 20000 in
theorem gL_law_X7_mayBe : GoodIn wsL_law (wsV RL 99 RX7 yX7_mayBe wsX7_mayBe) := goodIn_app (goodIn_of _ (by decide +kernel)) ggL_law_X7_mayBe
set_option maxRecDepth 20000 in
theorem ggL_law_X8_mayBe : GoodIn wsL_law wsX8_mayBe := goodIn_r _ [683, 684, 173, 174, 5, 175, 147, 148, 149, 150, 117, 685, 686, 687, 688, 145, 122, 123, 395, 396, 397, 398, 450, 451, 452, 453, 141, 338, 339, 340, 341, 142, 143, 342, 343, 344, 345, 119, 839, 840, 841, 842, 843, 844, 845, 846, 847, 848, 849, 850, 851, 852, 853, 854, 855, 856, 857, 858, 859, 860, 861, 862, 863, 864, 865, 866] (by decide +kernel) (by decide +kernel)
set_option maxRecDepth 20000 in
theorem gL_law_X8_mayBe : GoodIn wsL_law (wsV RL 102 RX8 yX8_mayBe wsX8_mayBe) := goodIn_app (goodIn_of _ (by decide +kernel)) ggL_law_X8_mayBe
set_option maxRecDepth 20000 in
theorem ggL_law_X7_smelt : GoodIn wsL_law wsX7_smelt := goodIn_r _ [692, 538, 20, 19, 43, 512, 513, 514, 2, 515, 365, 155, 156, 157, 516, 415, 416, 18, 417, 58, 418, 419, 420, 421, 63, 64, 517, 518, 519, 520, 521, 423, 424, 425, 426, 427, 428, 322, 323, 42, 324, 94, 429, 430, 431, 432, 433, 434, 214, 435, 377, 378, 379, 380, 381, 382, 383, 384, 385, 373, 374, 375, 376, 693, 694, 695, 696, 697, 698, 67, 699, 700, 701, 702, 828, 829, 830, 831, 832, 833, 834, 835, 836, 837, 838, 877, 878, 879, 890, 891, 892, 893, 894, 895, 896, 897, 898, 899, 900] (by decide +kernel) (by decide +kernel)
set_option maxRecDepth 20000 in
theorem gL_law_X7_smelt : GoodIn wsL_law (wsV RL 103 RX7 yX7_smelt wsX7_smelt) := goodIn_app (goodIn_of _ (by decide +kernel)) ggL_law_X7_smelt
