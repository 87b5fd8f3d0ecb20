set_option maxRecDepth 20000 in
theorem ggL_law_X8_night : GoodIn wsL_law wsX8_night := goodIn_r _ [439, 117, 440, 441, 442, 443, 444, 5, 445, 146, 446, 447, 448, 449, 450, 451, 452, 453, 141, 338, 339, 340, 341, 142, 143, 342, 343, 344, 345, 119, 839, 840, 841, 842, 843, 844, 845, 846, 847, 848, 849, 850, 851, 852, 853, 854, 855, 856, 857, 858, 859, 860, 861, 862, 863, 864, 865, 866] (by decide +kernel) (by decide +kernel)
set_option maxRecDepth 20000 in
theorem gL_law_X8_night : GoodIn wsL_law (wsV RL 45 RX8 yX8_night wsX8_night) := goodIn_app (goodIn_of _ (by decide +kernel)) ggL_law_X8_night
set_option maxRecDepth 20000 in
theorem ggL_law_X7_swans : GoodIn wsL_law wsX7_swans := goodIn_r _ [457, 458, 368, 19, 407, 24, 43, 316, 318, 319, 2, 320, 155, 156, 157, 459, 374, 375, 18, 376, 63, 58, 408, 409, 410, 23, 411, 74, 412, 269, 413, 213, 214, 215, 414, 415, 416, 417, 418, 419, 420, 421, 64, 460, 461, 462, 463, 464, 465, 466, 828, 829, 830, 831, 832, 833, 834, 835, 836, 837, 838, 890, 891, 892, 893, 894, 895, 896, 897, 898, 899, 900, 877, 878, 879, 880, 881, 882] (by decide +kernel) (by decide +kernel)
set_option maxRecDepth 20000 in
theorem gL_law_X7_swans : GoodIn wsL_law (wsV RL 46 RX7 yX7_swans wsX7_swans) := goodIn_app (goodIn_of _ (by decide +kernel)) ggL_law_X7_swans
set_option maxRecDepth 20000 in
theorem ggL_law_X8_swans : GoodIn wsL_law wsX8_swans := goodIn_r _ [470, 390, 441, 119, 471, 472, 473, 5, 474, 475, 334, 335, 336, 337, 173, 174, 175, 395, 396, 397, 398, 117, 442, 443, 444, 445, 146, 446, 447, 448, 449, 476, 477, 478, 479, 839, 840, 841, 842, 843, 844, 845, 846, 847, 848, 849, 850, 851, 852, 853, 854, 855, 856, 857, 858, 859, 860, 861, 862, 863, 864, 865, 866] (by decide +kernel) (by decide +kernel)
set_option maxRecDepth 20000 in
theorem gL_law_X8_swans : GoodIn wsL_law (wsV RL 50 RX8 yX8_swans wsX8_swans) := goodIn_app (goodIn_of _ (by decide +kernel)) ggL_law_X8_swans
set_option maxRecDepth 20000 in
theorem ggL_law_X7_melts : GoodIn wsL_law wsX7_melts := goodIn_r _ [483, 458, 368, 19, 407, 24, 366, 43, 316, 318, 319, 2, 320, 155, 156, 157, 459, 374, 375, 18, 376, 63, 58, 408, 409, 410, 23, 411, 74, 412, 269, 413, 213, 214, 215, 414, 415, 416, 417, 418, 419, 420, 421, 64, 460, 461, 462, 463, 464, 465, 466, 828, 829, 830, 831, 832, 833, 834, 835, 836, 837, 838, 877, 878, 879, 890, 891, 892, 893, 894, 895, 896, 897, 898, 899, 900, 880, 881, 882] (by decide +kernel) (by decide +kernel)
set_option maxRecDepth 20000 in
theorem gL_law_X7_melts : GoodIn wsL_law (wsV RL 51 RX7 yX7_melts wsX7_melts) := goodIn_app (goodIn_of _ (by decide +kernel)) ggL_law_X7_melts
set_option maxRecDepth 20000 in
theorem ggL_law_X8_melts : GoodIn wsL_law wsX8_melts := goodIn_r _ [487, 390, 441, 117, 119, 471, 472, 473, 5, 474, 475, 334, 335, 336, 337, 173, 174, 175, 395, 396, 397, 398, 442, 443, 444, 445, 146, 446, 447, 448, 449, 476, 477, 478, 479, 839, 840, 841, 842, 843, 844, 845, 846, 847, 848, 849, 850, 851, 852, 853, 854, 855, 856, 857, 858, 859, 860, 861, 862, 863, 864, 865, 866] (by decide +kernel) (by decide +kernel)
set_option maxRecDepth 20000 in
theorem gL_law_X8_melts : GoodIn wsL_law (wsV RL 54 RX8 yX8_melts wsX8_melts) := goodIn_app (goodIn_of _ (by decide +kernel)) ggL_law_X8_melts
set_option maxRecDepth 20000 in
theorem ggL_law_X7_pays : GoodIn wsL_law wsX7_pays := goodIn_r _ [491, 458, 368, 19, 366, 407, 24, 155, 156, 2, 157, 408, 409, 410, 23, 411, 74, 412, 269, 413, 213, 214, 215, 414, 415, 416, 18, 417, 58, 418, 419, 420, 421, 63, 64, 828, 829, 830, 831, 832, 833, 834, 835, 836, 837, 838, 877, 878, 879, 880, 881, 882] (by decide +kernel) (by decide +kernel)
set_option maxRecDepth 20000 in
theorem gL_law_X7_pays : GoodIn wsL_law (wsV RL 55 RX7 yX7_pays wsX7_pays) := goodIn_app (goodIn_of _ (by decide +kernel)) ggL_law_X7_pays
set_option maxRecDepth 20000 in
theorem ggL_law_X8_pays : GoodIn wsL_law wsX8_pays := goodIn_r _ [495, 475, 390, 117, 441, 173, 174, 5, 175, 442, 443, 444, 445, 146, 446, 447, 448, 449, 839, 840, 841, 842, 843, 844, 845, 846, 847, 848, 849, 850, 851, 852, 853, 854, 855, 856, 857, 858, 859, 860, 861, 862, 863, 864, 865, 866] (by decide +kernel) (by decide +kernel)
set_option maxRecDepth 20000 in
theorem gL_law_X8_pays : GoodIn wsL_law (wsV RL 58 RX8 yX8_pays wsX8_pays) := goodIn_app (goodIn_of _ (by decide +kernel)) ggL_law_X8_pays
set_option maxRecDepth 20000 in
theorem ggL_law_X7_undo : GoodIn wsL_law wsX7_undo := goodIn_r _ [499, 24, 19, 367, 500, 501, 502, 23, 503, 269, 412, 74, 414, 415, 416, 18, 417, 58, 418, 419, 420, 421, 63, 64, 828, 829, 830, 831, 832, 833, 834, 835, 836, 837, 838, 880, 881, 882, 877, 878, 879] (by decide +kernel) (by decide +kernel)
set_option maxRecDepth 20000 in
theorem gL_law_X7_undo : GoodIn wsL_law (wsV RL 59 RX7 yX7_undo wsX7_undo) := goodIn_app (goodIn_of _ (by decide +kernel)) ggL_law_X7_undo
set_option maxRecDepth 20000 in
theorem ggL_law_X8_undo : GoodIn wsL_law wsX8_undo := goodIn_r _ [507, 146, 446, 447, 448, 5, 449, 117, 839, 840, 841, 842, 843, 844, 845, 846, 847, 848, 849, 850, 851, 852, 853, 854, 855, 856, 857, 858, 859, 860, 861, 862, 863, 864, 865, 866] (by decide +kernel) (by decide +kernel)
set_option maxRecDepth 20000 in
theorem gL_law_X8_undo : GoodIn wsL_law (wsV RL 62 RX8 yX8_undo wsX8_undo) := goodIn_app (goodIn_of _ (by decide +kernel)) ggL_law_X8_undo
set_option maxRecDepth 20000 in
theorem ggL_law_X7_all : GoodIn wsL_law wsX7_all := goodIn_r _ [511, 368, 20, 19, 43, 512, 513, 514, 2, 515, 365, 155, 156, 157, 516, 415, 416, 18, 417, 58, 418, 419, 420, 421, 63, 64, 517, 518, 519, 520, 521, 423, 424, 425, 426, 427, 428, 322, 323, 42, 324, 94, 429, 430, 431, 432, 433, 434, 214, 435, 377, 378, 379, 380, 381, 382, 383, 384, 385, 373, 374, 375, 376, 369, 370, 371, 372, 459, 828, 829, 830, 831, 832, 833, 834, 835, 836, 837, 838, 877, 878, 879, 890, 891, 892, 893, 894, 895, 896, 897, 898, 899, 900] (by decide +kernel) (by decide +kernel)
set_option maxRecDepth 20000 in
theorem gL_law_X7_all : GoodIn wsL_law (wsV RL 63 RX7 yX7_all wsX7_all) := goodIn_app (goodIn_of _ (by decide +kernel)) ggL_law_X7_all
set_option maxRecDepth 20000 in
theorem ggL_law_X8_all : GoodIn wsL_law wsX8_all := goodIn_r _ [525, 441, 337, 390, 526, 527, 528, 5, 529, 117, 440, 173, 174, 175, 446, 447, 448, 449, 530, 531, 532, 533, 450, 451, 452, 453, 141, 338, 339, 340, 341, 142, 143, 342, 343, 344, 345, 119, 399, 400, 401, 402, 395, 396, 397, 398, 391, 392, 393, 394, 839, 840, 841, 842, 843, 844, 845, 846, 847, 848, 849, 850, 851, 852, 853, 854, 855, 856, 857, 858, 859, 860, 861, 862, 863, 864, 865, 866] (by decide +kernel) (by decide +kernel)
set_option maxRecDepth 20000 in
theorem gL_law_X8_all : GoodIn wsL_law (wsV RL 66 RX8 yX8_all wsX8_all) := goodIn_app (goodIn_of _ (by decide +kernel)) ggL_law_X8_all
set_option maxRecDepth 20000 in
theorem ggL_law_X7_above : GoodIn wsL_law wsX7_above := goodIn_r _ [537, 538, 20, 19, 365, 43, 155, 156, 2, 157, 516, 415, 416, 18, 417, 58, 418, 419, 420, 421, 63, 64, 517, 518, 519, 520, 521, 423, 424, 425, 426, 427, 428, 322, 323, 42, 324, 94, 429, 430, 431, 432, 433, 434, 214, 435, 377, 378, 379, 380, 381, 382, 383, 384, 385, 373, 374, 375, 376, 828, 829, 830, 831, 832, 833, 834, 835, 836, 837, 838, 877, 878, 879, 890, 891, 892, 893, 894, 895, 896, 897, 898, 899, 900] (by decide +kernel) (by decide +kernel)
set_option maxRecDepth 20000 in
theorem gL_law_X7_above : GoodIn wsL_law (wsV RL 67 RX7 yX7_above wsX7_above) := goodIn_app (goodIn_of _ (by decide +kernel)) ggL_law_X7_above
set_option maxRecDepth 20000 in
theorem ggL_law_X8_above : GoodIn wsL_law wsX8_above := goodIn_r _ [542, 543, 117, 440, 173, 174, 5, 175, 446, 447, 448, 449, 399, 400, 401, 402, 119, 395, 396, 397, 398, 450, 451, 452, 453, 141, 338, 339, 340, 341, 142, 143, 342, 343, 344, 345, 839, 840, 841, 842, 843, 844, 845, 846, 847, 848, 849, 850, 851, 852, 853, 854, 855, 856, 857, 858, 859, 860, 861, 862, 863, 864, 865, 866] (by decide +kernel) (by decide +kernel)
set_option maxRecDepth 20000 in
theorem gL_law_X8_above : GoodIn wsL_law (wsV RL 70 RX8 yX8_above wsX8_above) := goodIn_app (goodIn_of _ (by decide +kernel)) ggL_law_X8_above
set_option maxRecDepth 20000 in
theorem ggL_law_X7_least : GoodIn wsL_law wsX7_least := goodIn_r _ [547, 35, 19, 43, 548, 549, 155, 156, 2, 157, 550, 551, 552, 34, 553, 554, 555, 556, 374, 375, 18, 376, 63, 58, 557, 558, 559, 560, 85, 561, 562, 563, 564, 565, 566, 567, 568, 569, 465, 214, 466, 86, 828, 829, 830, 831, 832, 833, 834, 835, 836, 837, 838, 886, 887, 888, 890, 891, 892, 893, 894, 895, 896, 897, 898, 899, 900, 877, 878, 879] (by decide +kernel) (by decide +kernel)
set_option maxRecDepth 20000 in
theorem gL_law_X7_least : GoodIn wsL_law (wsV RL 71 RX7 yX7_least wsX7_least) := goodIn_app (goodIn_of _ (by decide +kernel)) ggL_law_X7_least
set_option maxRecDepth 20000 in
theorem ggL_law_X8_least : GoodIn wsL_law wsX8_least := goodIn_r _ [573, 574, 390, 337, 129, 173, 174, 5, 175, 575, 576, 577, 578, 128, 119, 579, 580, 581, 582, 583, 584, 585, 586, 587, 395, 396, 397, 398, 117, 588, 589, 590, 839, 840, 841, 842, 843, 844, 845, 846, 847, 848, 849, 850, 851, 852, 853, 854, 855, 856, 857, 858, 859, 860, 861, 862, 863, 864, 865, 866] (by decide +kernel) (by decide +kernel)
set_option maxRecDepth 20000 in
theorem gL_law_X8_least : GoodIn wsL_law (wsV RL 74 RX8 yX8_least wsX8_least) := goodIn_app (goodIn_of _ (by decide +kernel)) ggL_law_X8_least
