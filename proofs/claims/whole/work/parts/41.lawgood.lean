set_option maxRecDepth 20000 in
theorem ggL_law_X9_init : GoodIn wsL_law wsX9_init := goodIn_r _ [8, 9, 10, 11, 12, 13, 14, 15, 16, 17, 18, 19, 20, 21, 22, 23, 24, 25, 26, 27, 28, 29, 30, 31, 32, 33, 34, 35, 36, 37, 38, 39, 40, 41, 42, 43, 44, 45, 46, 47, 48, 49, 50, 51, 52, 53, 54, 55, 56, 57, 58, 59, 60, 61, 62, 63, 64, 65, 66, 67, 68, 69, 70, 71, 72, 73, 74, 75, 76, 77, 78, 79, 80, 81, 82, 83, 84, 85, 86, 87, 88, 89, 90, 91, 92, 93, 94, 95, 96, 97, 98, 99, 100, 101, 102, 103, 104, 105, 106, 107, 108, 109, 110, 111, 112, 113, 114, 115, 116, 117, 118, 119, 120, 121, 122, 123, 124, 125, 126, 127, 128, 129, 130, 131, 132, 133, 134, 854, 855, 856, 857, 858, 859, 812, 813, 814, 815, 816, 860, 861, 862, 863, 864, 865, 866, 867, 868, 869, 870, 871, 872, 873, 874, 875, 876, 877, 878, 879, 880, 881, 882, 883, 884, 885, 886, 887, 888, 889, 890, 891, 892, 893, 894, 895, 896, 897, 898, 899, 900, 901, 902, 903] (by decide +kernel) (by decide +kernel)
set_option maxRecDepth 20000 in
theorem gL_law_X9_init : GoodIn wsL_law (wsX9_init) := ggL_law_X9_init
set_option maxRecDepth 20000 in
theorem ggL_law_X10_init : GoodIn wsL_law wsX10_init := goodIn_r _ [137, 138, 10, 11, 35, 139, 140, 141, 142, 143, 144, 145, 146, 147, 148, 149, 150, 151, 152, 153, 154, 155, 156, 157, 158, 159, 160, 161, 162, 163, 164, 165, 166, 167, 168, 817, 818, 819, 820, 821, 822, 823, 824, 825, 826, 827, 828, 829, 830, 831, 832, 833, 834, 835, 836, 837, 838, 839, 840, 841, 842, 843, 844, 845, 846, 847, 848, 849, 850, 851, 852, 853] (by decide +kernel) (by decide +kernel)
set_option maxRecDepth 20000 in
theorem gL_law_X10_init : GoodIn wsL_law (wsX10_init) := ggL_law_X10_init
set_option maxRecDepth 20000 in
theorem ggL_law_X9_house : GoodIn wsL_law wsX9_house := goodIn_r _ [172, 173, 15, 174, 175, 176, 2, 177, 178, 179, 180, 14, 181, 36, 44, 37, 812, 813, 814, 815, 816, 854, 855, 856, 857, 858, 859] (by decide +kernel) (by decide +kernel)
set_option maxRecDepth 20000 in
theorem gL_law_X9_house : GoodIn wsL_law (wsV RL 13 RX9 yX9_house wsX9_house) := goodIn_app (goodIn_of _ (by decide +kernel)) ggL_law_X9_house
set_option maxRecDepth 20000 in
theorem ggL_law_X10_house : GoodIn wsL_law wsX10_house := goodIn_r _ [185, 186, 187, 188, 139, 140, 189, 190, 5, 191, 817, 818, 819, 820, 821, 822, 823, 824, 825, 826, 827, 828, 829, 830, 831, 832, 833, 834, 835, 836, 837, 838, 839, 840, 841, 842, 843, 844, 845, 846, 847, 848, 849, 850, 851, 852, 853] (by decide +kernel) (by decide +kernel)
set_option maxRecDepth 20000 in
theorem gL_law_X10_house : GoodIn wsL_law (wsV RL 17 RX10 yX10_house wsX10_house) := goodIn_app (goodIn_of _ (by decide +kernel)) ggL_law_X10_house
set_option maxRecDepth 20000 in
theorem ggL_law_X9_isOf : GoodIn wsL_law wsX9_isOf := goodIn_r _ [195, 15, 173, 196, 197, 198, 14, 199, 44, 175, 176, 2, 177, 200, 201, 202, 203, 36, 812, 813, 814, 815, 816, 854, 855, 856, 857, 858, 859] (by decide +kernel) (by decide +kernel)
set_option maxRecDepth 20000 in
theorem gL_law_X9_isOf : GoodIn wsL_law (wsV RL 18 RX9 yX9_isOf wsX9_isOf) := goodIn_app (goodIn_of _ (by decide +kernel)) ggL_law_X9_isOf
set_option maxRecDepth 20000 in
theorem ggL_law_X10_isOf : GoodIn wsL_law wsX10_isOf := goodIn_r _ [207, 186, 139, 208, 209, 210, 5, 211, 187, 189, 190, 191, 212, 213, 214, 215, 817, 818, 819, 820, 821, 822, 823, 824, 825, 826, 827, 828, 829, 830, 831, 832, 833, 834, 835, 836, 837, 838, 839, 840, 841, 842, 843, 844, 845, 846, 847, 848, 849, 850, 851, 852, 853] (by decide +kernel) (by decide +kernel)
set_option maxRecDepth 20000 in
theorem gL_law_X10_isOf : GoodIn wsL_law (wsV RL 21 RX10 yX10_isOf wsX10_isOf) := goodIn_app (goodIn_of _ (by decide +kernel)) ggL_law_X10_isOf
set_option maxRecDepth 20000 in
theorem ggL_law_X9_way : GoodIn wsL_law wsX9_way := goodIn_r _ [219, 15, 173, 220, 221, 222, 14, 223, 224, 197, 198, 199, 44, 175, 176, 2, 177, 225, 226, 227, 42, 228, 49, 229, 230, 231, 232, 812, 813, 814, 815, 816, 854, 855, 856, 857, 858, 859, 884] (by decide +kernel) (by decide +kernel)
set_option maxRecDepth 20000 in
theorem gL_law_X9_way : GoodIn wsL_law (wsV RL 22 RX9 yX9_way wsX9_way) := goodIn_app (goodIn_of _ (by decide +kernel)) ggL_law_X9_way
set_option maxRecDepth 20000 in
theorem ggL_law_X10_way : GoodIn wsL_law wsX10_way := goodIn_r _ [236, 186, 143, 208, 209, 210, 5, 211, 187, 189, 190, 191, 817, 818, 819, 820, 821, 822, 823, 824, 825, 826, 827, 828, 829, 830, 831, 832, 833, 834, 835, 836, 837, 838, 839, 840, 841, 842, 843, 844, 845, 846, 847, 848, 849, 850, 851, 852, 853] (by decide +kernel) (by decide +kernel)
set_option maxRecDepth 20000 in
theorem gL_law_X10_way : GoodIn wsL_law (wsV RL 26 RX10 yX10_way wsX10_way) := goodIn_app (goodIn_of _ (by decide +kernel)) ggL_law_X10_way
set_option maxRecDepth 20000 in
theorem ggL_law_X9_slack : GoodIn wsL_law wsX9_slack := goodIn_r _ [240, 15, 173, 196, 197, 198, 14, 199, 44, 175, 176, 2, 177, 812, 813, 814, 815, 816, 854, 855, 856, 857, 858, 859] (by decide +kernel) (by decide +kernel)
set_option maxRecDepth 20000 in
theorem gL_law_X9_slack : GoodIn wsL_law (wsV RL 27 RX9 yX9_slack wsX9_slack) := goodIn_app (goodIn_of _ (by decide +kernel)) ggL_law_X9_slack
set_option maxRecDepth 20000 in
theorem ggL_law_X10_slack : GoodIn wsL_law wsX10_slack := goodIn_r _ [244, 186, 141, 208, 209, 210, 5, 211, 187, 189, 190, 191, 817, 818, 819, 820, 821, 822, 823, 824, 825, 826, 827, 828, 829, 830, 831, 832, 833, 834, 835, 836, 837, 838, 839, 840, 841, 842, 843, 844, 845, 846, 847, 848, 849, 850, 851, 852, 853] (by decide +kernel) (by decide +kernel)
set_option maxRecDepth 20000 in
theorem gL_law_X10_slack : GoodIn wsL_law (wsV RL 30 RX10 yX10_slack wsX10_slack) := goodIn_app (goodIn_of _ (by decide +kernel)) ggL_law_X10_slack
set_option maxRecDepth 20000 in
theorem ggL_law_X9_reel : GoodIn wsL_law wsX9_reel := goodIn_r _ [248, 173, 19, 174, 23, 175, 176, 2, 177, 249, 250, 251, 22, 252, 62, 253, 254, 255, 18, 256, 53, 55, 812, 813, 814, 815, 816, 860, 861, 862, 863, 864, 865, 866, 867, 868, 869, 870, 871, 872, 873] (by decide +kernel) (by decide +kernel)
set_option maxRecDepth 20000 in
theorem gL_law_X9_reel : GoodIn wsL_law (wsV RL 31 RX9 yX9_reel wsX9_reel) := goodIn_app (goodIn_of _ (by decide +kernel)) ggL_law_X9_reel
set_option maxRecDepth 20000 in
theorem ggL_law_X10_reel : GoodIn wsL_law wsX10_reel := goodIn_r _ [260, 186, 261, 188, 145, 146, 262, 189, 190, 5, 191, 817, 818, 819, 820, 821, 822, 823, 824, 825, 826, 827, 828, 829, 830, 831, 832, 833, 834, 835, 836, 837, 838, 839, 840, 841, 842, 843, 844, 845, 846, 847, 848, 849, 850, 851, 852, 853] (by decide +kernel) (by decide +kernel)
set_option maxRecDepth 20000 in
theorem gL_law_X10_reel : GoodIn wsL_law (wsV RL 35 RX10 yX10_reel wsX10_reel) := goodIn_app (goodIn_of _ (by decide +kernel)) ggL_law_X10_reel
set_option maxRecDepth 20000 in
theorem ggL_law_X9_mend : GoodIn wsL_law wsX9_mend := goodIn_r _ [266, 19, 173, 267, 268, 269, 18, 270, 55, 175, 176, 2, 177, 271, 272, 273, 274, 53, 275, 276, 277, 278, 54, 812, 813, 814, 815, 816, 860, 861, 862] (by decide +kernel) (by decide +kernel)
set_option maxRecDepth 20000 in
theorem gL_law_X9_mend : GoodIn wsL_law (wsV RL 36 RX9 yX9_mend wsX9_mend) := goodIn_app (goodIn_of _ (by decide +kernel)) ggL_law_X9_mend
set_option maxRecDepth 20000 in
theorem ggL_law_X10_mend : GoodIn wsL_law wsX10_mend := goodIn_r _ [282, 186, 145, 146, 283, 284, 285, 5, 286, 261, 189, 190, 191, 817, 818, 819, 820, 821, 822, 823, 824, 825, 826, 827, 828, 829, 830, 831, 832, 833, 834, 835, 836, 837, 838, 839, 840, 841, 842, 843, 844, 845, 846, 847, 848, 849, 850, 851, 852, 853] (by decide +kernel) (by decide +kernel)
set_option maxRecDepth 20000 in
theorem gL_law_X10_mend : GoodIn wsL_law (wsV RL 39 RX10 yX10_mend wsX10_mend) := goodIn_app (goodIn_of _ (by decide +kernel)) ggL_law_X10_mend
set_option maxRecDepth 20000 in
theorem ggL_law_X9_told : GoodIn wsL_law wsX9_told := goodIn_r _ [290, 19, 173, 267, 268, 269, 18, 270, 55, 291, 292, 293, 294, 53, 275, 276, 277, 278, 812, 813, 814, 815, 816, 860, 861, 862] (by decide +kernel) (by decide +kernel)
set_option maxRecDepth 20000 in
theorem gL_law_X9_told : GoodIn wsL_law (wsV RL 40 RX9 yX9_told wsX9_told) := goodIn_app (goodIn_of _ (by decide +kernel)) ggL_law_X9_told
set_option maxRecDepth 20000 in
theorem ggL_law_X10_told : GoodIn wsL_law wsX10_told := goodIn_r _ [298, 186, 145, 146, 283, 284, 285, 5, 286, 261, 189, 190, 191, 299, 300, 301, 302, 817, 818, 819, 820, 821, 822, 823, 824, 825, 826, 827, 828, 829, 830, 831, 832, 833, 834, 835, 836, 837, 838, 839, 840, 841, 842, 843, 844, 845, 846, 847, 848, 849, 850, 851, 852, 853] (by decide +kernel) (by decide +kernel)
set_option maxRecDepth 20000 in
theorem gL_law_X10_told : GoodIn wsL_law (wsV RL 43 RX10 yX10_told wsX10_told) := goodIn_app (goodIn_of _ (by decide +kernel)) ggL_law_X10_told
set_option maxRecDepth 20000 in
theorem ggL_law_X9_order : GoodIn wsL_law wsX9_order := goodIn_r _ [306, 23, 173, 19, 307, 308, 309, 310, 22, 311, 68, 312, 197, 198, 14, 199, 44, 313, 314, 315, 316, 62, 60, 61, 317, 105, 106, 107, 812, 813, 814, 815, 816, 860, 861, 862, 863, 864, 865, 866, 867, 868, 869, 870, 871, 872, 873, 854, 855, 856, 857, 858, 859] (by decide +kernel) (by decide +kernel)
set_option maxRecDepth 20000 in
theorem gL_law_X9_order : GoodIn wsL_law (wsV RL 44 RX9 yX9_order wsX9_order) := goodIn_app (goodIn_of _ (by decide +kernel)) ggL_law_X9_order
set_option maxRecDepth 20000 in
theorem ggL_law_X10_order : GoodIn wsL_law wsX10_order := goodIn_r _ [321, 186, 157, 261, 322, 262, 147, 148, 208, 209, 210, 5, 211, 187, 189, 190, 191, 817, 818, 819, 820, 821, 822, 823, 824, 825, 826, 827, 828, 829, 830, 831, 832, 833, 834, 835, 836, 837, 838, 839, 840, 841, 842, 843, 844, 845, 846, 847, 848, 849, 850, 851, 852, 853] (by decide +kernel) (by decide +kernel)
set_option maxRecDepth 20000 in
theorem gL_law_X10_order : GoodIn wsL_law (wsV RL 47 RX10 yX10_order wsX10_order) := goodIn_app (goodIn_of _ (by decide +kernel)) ggL_law_X10_order
set_option maxRecDepth 20000 in
theorem ggL_law_X9_start : GoodIn wsL_law wsX9_start := goodIn_r _ [326, 23, 173, 327, 328, 329, 22, 330, 62, 331, 332, 333, 334, 69, 63, 335, 336, 337, 18, 338, 55, 275, 276, 277, 278, 339, 292, 293, 294, 53, 340, 341, 342, 343, 68, 60, 344, 230, 231, 42, 232, 49, 812, 813, 814, 815, 816, 863, 864, 865, 866, 867, 868, 869, 870, 871, 872, 873, 860, 861, 862, 854, 855, 856, 857, 858, 859, 884] (by decide +kernel) (by decide +kernel)
set_option maxRecDepth 20000 in
theorem gL_law_X9_start : GoodIn wsL_law (wsV RL 48 RX9 yX9_start wsX9_start) := goodIn_app (goodIn_of _ (by decide +kernel)) ggL_law_X9_start
set_option maxRecDepth 20000 in
theorem ggL_law_X10_start : GoodIn wsL_law wsX10_start := goodIn_r _ [348, 186, 349, 350, 351, 5, 352, 262, 189, 190, 191, 353, 354, 355, 356, 357, 358, 359, 360, 261, 299, 300, 301, 302, 145, 361, 362, 363, 364, 143, 147, 817, 818, 819, 820, 821, 822, 823, 824, 825, 826, 827, 828, 829, 830, 831, 832, 833, 834, 835, 836, 837, 838, 839, 840, 841, 842, 843, 844, 845, 846, 847, 848, 849, 850, 851, 852, 853] (by decide +kernel) (by decide +kernel)
set_option maxRecDepth 20000 in
theorem gL_law_X10_start : GoodIn wsL_law (wsV RL 51 RX10 yX10_start wsX10_start) := goodIn_app (goodIn_of _ (by decide +kernel)) ggL_law_X10_start
set_option maxRecDepth 20000 in
theorem ggL_law_X9_ride : GoodIn wsL_law wsX9_ride := goodIn_r _ [368, 23, 173, 369, 370, 371, 22, 372, 373, 374, 375, 376, 62, 69, 377, 378, 379, 380, 73, 63, 60, 381, 332, 333, 334, 335, 336, 337, 18, 338, 55, 275, 276, 277, 278, 339, 292, 293, 294, 53, 340, 341, 342, 343, 68, 344, 230, 231, 42, 232, 49, 382, 383, 384, 72, 385, 85, 386, 387, 388, 389, 390, 78, 79, 80, 81, 82, 86, 391, 812, 813, 814, 815, 816, 885, 886, 887, 888, 889, 890, 891, 892, 893, 863, 864, 865, 866, 867, 868, 869, 870, 871, 872, 873, 860, 861, 862, 854, 855, 856, 857, 858, 859, 884] (by decide +kernel) (by decide +kernel)
set_option maxRecDepth 20000 in
theorem gL_law_X9_ride : GoodIn wsL_law (wsV RL 52 RX9 yX9_ride wsX9_ride) := goodIn_app (goodIn_of _ (by decide +kernel)) ggL_law_X9_ride
set_option maxRecDepth 20000 in
theorem ggL_law_X10_ride : GoodIn wsL_law wsX10_ride := goodIn_r _ [395, 186, 261, 147, 396, 397, 398, 5, 399, 400, 401, 402, 403, 262, 189, 190, 191, 404, 405, 406, 407, 408, 409, 410, 411, 353, 354, 355, 356, 357, 358, 359, 360, 299, 300, 301, 302, 145, 361, 362, 363, 364, 143, 412, 413, 414, 415, 817, 818, 819, 820, 821, 822, 823, 824, 825, 826, 827, 828, 829, 830, 831, 832, 833, 834, 835, 836, 837, 838, 839, 840, 841, 842, 843, 844, 845, 846, 847, 848, 849, 850, 851, 852, 853] (by decide +kernel) (by decide +kernel)
set_option maxRecDepth 20000 in
theorem gL_law_X10_ride : GoodIn wsL_law (wsV RL 55 RX10 yX10_ride wsX10_ride) := goodIn_app (goodIn_of _ (by decide +kernel)) ggL_law_X10_ride
set_option maxRecDepth 20000 in
theorem ggL_law_X9_riders : GoodIn wsL_law wsX9_riders := goodIn_r _ [419, 23, 377, 378, 379, 22, 380, 73, 62, 63, 69, 60, 381, 332, 333, 334, 335, 336, 337, 18, 338, 55, 275, 276, 277, 278, 339, 292, 293, 294, 53, 340, 341, 342, 343, 68, 344, 230, 231, 42, 232, 49, 382, 383, 384, 72, 385, 85, 386, 387, 388, 389, 390, 78, 79, 80, 81, 82, 86, 391, 420, 421, 422, 423, 83, 424, 84, 425, 105, 106, 107, 426, 427, 428, 429, 430, 431, 432, 812, 813, 814, 815, 816, 863, 864, 865, 866, 867, 868, 869, 870, 871, 872, 873, 860, 861, 862, 854, 855, 856, 857, 858, 859, 884, 885, 886, 887, 888, 889, 890, 891, 892, 893] (by decide +kernel) (by decide +kernel)
set_option maxRecDepth 20000 in
theorem gL_law_X9_riders : GoodIn wsL_law (wsV RL 56 RX9 yX9_riders wsX9_riders) := goodIn_app (goodIn_of _ (by decide +kernel)) ggL_law_X9_riders
set_option maxRecDepth 20000 in
theorem ggL_law_X10_riders : GoodIn wsL_law wsX10_riders := goodIn_r _ [436, 158, 160, 400, 401, 402, 5, 403, 262, 261, 437, 438, 439, 440, 147, 161, 143, 404, 405, 406, 407, 408, 409, 410, 411, 353, 354, 355, 356, 357, 358, 359, 360, 299, 300, 301, 302, 145, 361, 362, 363, 364, 412, 413, 414, 415, 441, 442, 443, 444, 817, 818, 819, 820, 821, 822, 823, 824, 825, 826, 827, 828, 829, 830, 831, 832, 833, 834, 835, 836, 837, 838, 839, 840, 841, 842, 843, 844, 845, 846, 847, 848, 849, 850, 851, 852, 853] (by decide +kernel) (by decide +kernel)
set_option maxRecDepth 20000 in
theorem gL_law_X10_riders : GoodIn wsL_law (wsV RL 60 RX10 yX10_riders wsX10_riders) := goodIn_app (goodIn_of _ (by decide +kernel)) ggL_law_X10_riders
set_option maxRecDepth 20000 in
theorem ggL_law_X9_late : GoodIn wsL_law wsX9_late := goodIn_r _ [448, 23, 173, 369, 370, 371, 22, 372, 373, 374, 375, 376, 62, 69, 175, 176, 2, 177, 812, 813, 814, 815, 816, 863, 864, 865, 866, 867, 868, 869, 870, 871, 872, 873, 860, 861, 862] (by decide +kernel) (by decide +kernel)
set_option maxRecDepth 20000 in
theorem gL_law_X9_late : GoodIn wsL_law (wsV RL 61 RX9 yX9_late wsX9_late) := goodIn_app (goodIn_of _ (by decide +kernel)) ggL_law_X9_late
set_option maxRecDepth 20000 in
theorem ggL_law_X10_late : GoodIn wsL_law wsX10_late := goodIn_r _ [452, 186, 148, 396, 397, 398, 5, 399, 400, 401, 402, 403, 262, 261, 189, 190, 191, 817, 818, 819, 820, 821, 822, 823, 824, 825, 826, 827, 828, 829, 830, 831, 832, 833, 834, 835, 836, 837, 838, 839, 840, 841, 842, 843, 844, 845, 846, 847, 848, 849, 850, 851, 852, 853] (by decide +kernel) (by decide +kernel)
set_option maxRecDepth 20000 in
theorem gL_law_X10_late : GoodIn wsL_law (wsV RL 64 RX10 yX10_late wsX10_late) := goodIn_app (goodIn_of _ (by decide +kernel)) ggL_law_X10_late
set_option maxRecDepth 20000 in
theorem ggL_law_X9_begins : GoodIn wsL_law wsX9_begins := goodIn_r _ [456, 23, 19, 173, 327, 328, 329, 22, 330, 62, 267, 268, 269, 18, 270, 55, 457, 458, 459, 460, 381, 332, 333, 334, 69, 63, 335, 336, 337, 338, 275, 276, 277, 278, 339, 292, 293, 294, 53, 340, 341, 342, 343, 68, 60, 344, 230, 231, 42, 232, 49, 461, 462, 463, 464, 64, 65, 465, 66, 67, 466, 467, 468, 469, 470, 471, 472, 61, 473, 474, 475, 476, 386, 477, 478, 479, 480, 481, 482, 483, 484, 485, 486, 812, 813, 814, 815, 816, 863, 864, 865, 866, 867, 868, 869, 870, 871, 872, 873, 860, 861, 862, 854, 855, 856, 857, 858, 859, 884] (by decide +kernel) (by decide +kernel)
set_option maxRecDepth 20000 in
theorem gL_law_X9_begins : GoodIn wsL_law (wsV RL 65 RX9 yX9_begins wsX9_begins) := goodIn_app (goodIn_of _ (by decide +kernel)) ggL_law_X9_begins
set_option maxRecDepth 20000 in
theorem ggL_law_X10_begins : GoodIn wsL_law wsX10_begins := goodIn_r _ [490, 186, 163, 349, 350, 351, 5, 352, 262, 189, 190, 191, 283, 284, 285, 286, 261, 491, 492, 493, 494, 162, 148, 164, 353, 354, 355, 356, 357, 358, 359, 360, 299, 300, 301, 302, 145, 361, 362, 363, 364, 143, 147, 817, 818, 819, 820, 821, 822, 823, 824, 825, 826, 827, 828, 829, 830, 831, 832, 833, 834, 835, 836, 837, 838, 839, 840, 841, 842, 843, 844, 845, 846, 847, 848, 849, 850, 851, 852, 853] (by decide +kernel) (by decide +kernel)
set_option maxRecDepth 20000 in
theorem gL_law_X10_begins : GoodIn wsL_law (wsV RL 68 RX10 yX10_begins wsX10_begins) := goodIn_app (goodIn_of _ (by decide +kernel)) ggL_law_X10_begins
set_option maxRecDepth 20000 in
theorem ggL_law_X9_waited : GoodIn wsL_law wsX9_waited := goodIn_r _ [498, 23, 173, 327, 328, 329, 22, 330, 62, 457, 458, 459, 460, 381, 332, 333, 334, 69, 63, 335, 336, 337, 18, 338, 55, 275, 276, 277, 278, 339, 292, 293, 294, 53, 340, 341, 342, 343, 68, 60, 344, 230, 231, 42, 232, 49, 461, 462, 463, 464, 64, 65, 465, 66, 67, 466, 467, 468, 469, 470, 471, 472, 61, 473, 474, 475, 476, 386, 477, 478, 479, 480, 481, 482, 483, 484, 485, 499, 500, 501, 502, 812, 813, 814, 815, 816, 863, 864, 865, 866, 867, 868, 869, 870, 871, 872, 873, 860, 861, 862, 854, 855, 856, 857, 858, 859, 884] (by decide +kernel) (by decide +kernel)
set_option maxRecDepth 20000 in
theorem gL_law_X9_waited : GoodIn wsL_law (wsV RL 69 RX9 yX9_waited wsX9_waited) := goodIn_app (goodIn_of _ (by decide +kernel)) ggL_law_X9_waited
set_option maxRecDepth 20000 in
theorem ggL_law_X10_waited : GoodIn wsL_law wsX10_waited := goodIn_r _ [506, 186, 261, 164, 141, 147, 349, 350, 351, 5, 352, 262, 189, 190, 191, 491, 492, 493, 494, 162, 163, 148, 353, 354, 355, 356, 357, 358, 359, 360, 299, 300, 301, 302, 145, 361, 362, 363, 364, 143, 817, 818, 819, 820, 821, 822, 823, 824, 825, 826, 827, 828, 829, 830, 831, 832, 833, 834, 835, 836, 837, 838, 839, 840, 841, 842, 843, 844, 845, 846, 847, 848, 849, 850, 851, 852, 853] (by decide +kernel) (by decide +kernel)
set_option maxRecDepth 20000 in
theorem gL_law_X10_waited : GoodIn wsL_law (wsV RL 72 RX10 yX10_waited wsX10_waited) := goodIn_app (goodIn_of _ (by decide +kernel)) ggL_law_X10_waited
set_option maxRecDepth 20000 in
theorem ggL_law_X9_cause : GoodIn wsL_law wsX9_cause := goodIn_r _ [510, 23, 19, 173, 327, 328, 329, 22, 330, 62, 267, 268, 269, 18, 270, 55, 457, 458, 459, 460, 381, 332, 333, 334, 69, 63, 335, 336, 337, 338, 275, 276, 277, 278, 339, 292, 293, 294, 53, 340, 341, 342, 343, 68, 60, 344, 230, 231, 42, 232, 49, 461, 462, 463, 464, 64, 65, 465, 66, 67, 466, 467, 468, 469, 470, 471, 472, 61, 473, 474, 475, 476, 386, 477, 478, 479, 480, 481, 482, 483, 484, 485, 486, 812, 813, 814, 815, 816, 863, 864, 865, 866, 867, 868, 869, 870, 871, 872, 873, 860, 861, 862, 854, 855, 856, 857, 858, 859, 884] (by decide +kernel) (by decide +kernel)
set_option maxRecDepth 20000 in
theorem gL_law_X9_cause : GoodIn wsL_law (wsV RL 73 RX9 yX9_cause wsX9_cause) := goodIn_app (goodIn_of _ (by decide +kernel)) ggL_law_X9_cause
set_option maxRecDepth 20000 in
theorem ggL_law_X10_cause : GoodIn wsL_law wsX10_cause := goodIn_r _ [514, 186, 165, 515, 349, 350, 351, 5, 352, 262, 189, 190, 191, 283, 284, 285, 286, 261, 491, 492, 493, 494, 162, 163, 148, 164, 353, 354, 355, 356, 357, 358, 359, 360, 299, 300, 301, 302, 145, 361, 362, 363, 364, 143, 147, 516, 517, 518, 519, 817, 818, 819, 820, 821, 822, 823, 824, 825, 826, 827, 828, 829, 830, 831, 832, 833, 834, 835, 836, 837, 838, 839, 840, 841, 842, 843, 844, 845, 846, 847, 848, 849, 850, 851, 852, 853] (by decide +kernel) (by decide +kernel)
set_option maxRecDepth 20000 in
theorem gL_law_X10_cause : GoodIn wsL_law (wsV RL 76 RX10 yX10_cause wsX10_cause) := goodIn_app (goodIn_of _ (by decide +kernel)) ggL_law_X10_cause
set_option maxRecDepth 20000 in
theorem ggL_law_X9_where : GoodIn wsL_law wsX9_where := goodIn_r _ [523, 19, 173, 23, 524, 267, 268, 269, 18, 270, 55, 175, 176, 2, 177, 457, 458, 459, 22, 460, 62, 381, 332, 333, 334, 69, 63, 335, 336, 337, 338, 275, 276, 277, 278, 339, 292, 293, 294, 53, 340, 341, 342, 343, 68, 60, 344, 230, 231, 42, 232, 49, 461, 462, 463, 464, 64, 65, 465, 66, 67, 466, 467, 468, 469, 470, 471, 472, 61, 473, 474, 475, 476, 386, 477, 478, 479, 480, 481, 482, 483, 484, 485, 525, 526, 527, 528, 812, 813, 814, 815, 816, 863, 864, 865, 866, 867, 868, 869, 870, 871, 872, 873, 860, 861, 862, 854, 855, 856, 857, 858, 859, 884] (by decide +kernel) (by decide +kernel)
set_option maxRecDepth 20000 in
theorem gL_law_X9_where : GoodIn wsL_law (wsV RL 77 RX9 yX9_where wsX9_where) := goodIn_app (goodIn_of _ (by decide +kernel)) ggL_law_X9_where
set_option maxRecDepth 20000 in
theorem ggL_law_X10_where : GoodIn wsL_law wsX10_where := goodIn_r _ [532, 186, 262, 515, 163, 162, 261, 147, 283, 284, 285, 5, 286, 189, 190, 191, 491, 492, 493, 494, 148, 164, 353, 354, 355, 356, 357, 358, 359, 360, 299, 300, 301, 302, 145, 361, 362, 363, 364, 143, 817, 818, 819, 820, 821, 822, 823, 824, 825, 826, 827, 828, 829, 830, 831, 832, 833, 834, 835, 836, 837, 838, 839, 840, 841, 842, 843, 844, 845, 846, 847, 848, 849, 850, 851, 852, 853] (by decide +kernel) (by decide +kernel)
set_option maxRecDepth 20000 in
theorem gL_law_X10_where : GoodIn wsL_law (wsV RL 80 RX10 yX10_where wsX10_where) := goodIn_app (goodIn_of _ (by decide +kernel)) ggL_law_X10_where
set_option maxRecDepth 20000 in
theorem ggL_law_X9_film : GoodIn wsL_law wsX9_film := goodIn_r _ [536, 27, 174, 537, 538, 539, 26, 540, 96, 812, 813, 814, 815, 816, 874, 875, 876, 877, 878, 879, 880] (by decide +kernel) (by decide +kernel)
set_option maxRecDepth 20000 in
theorem gL_law_X9_film : GoodIn wsL_law (wsV RL 81 RX9 yX9_film wsX9_film) := goodIn_app (goodIn_of _ (by decide +kernel)) ggL_law_X9_film
set_option maxRecDepth 20000 in
theorem ggL_law_X10_film : GoodIn wsL_law wsX10_film := goodIn_r _ [544, 545, 188, 817, 818, 819, 820, 821, 822, 823, 824, 825, 826, 827, 828, 829, 830, 831, 832, 833, 834, 835, 836, 837, 838, 839, 840, 841, 842, 843, 844, 845, 846, 847, 848, 849, 850, 851, 852, 853] (by decide +kernel) (by decide +kernel)
set_option maxRecDepth 20000 in
theorem gL_law_X10_film : GoodIn wsL_law (wsV RL 84 RX10 yX10_film wsX10_film) := goodIn_app (goodIn_of _ (by decide +kernel)) ggL_law_X10_film
set_option maxRecDepth 20000 in
theorem ggL_law_X9_worth : GoodIn wsL_law wsX9_worth := goodIn_r _ [549, 27, 15, 173, 550, 551, 552, 26, 553, 96, 196, 197, 198, 14, 199, 44, 175, 176, 2, 177, 554, 555, 556, 812, 813, 814, 815, 816, 874, 875, 876, 877, 878, 879, 880, 854, 855, 856, 857, 858, 859] (by decide +kernel) (by decide +kernel)
set_option maxRecDepth 20000 in
theorem gL_law_X9_worth : GoodIn wsL_law (wsV RL 85 RX9 yX9_worth wsX9_worth) := goodIn_app (goodIn_of _ (by decide +kernel)) ggL_law_X9_worth
set_option maxRecDepth 20000 in
theorem ggL_law_X10_worth : GoodIn wsL_law wsX10_worth := goodIn_r _ [560, 186, 149, 561, 562, 563, 5, 564, 545, 189, 190, 191, 208, 209, 210, 211, 187, 817, 818, 819, 820, 821, 822, 823, 824, 825, 826, 827, 828, 829, 830, 831, 832, 833, 834, 835, 836, 837, 838, 839, 840, 841, 842, 843, 844, 845, 846, 847, 848, 849, 850, 851, 852, 853] (by decide +kernel) (by decide +kernel)
set_option maxRecDepth 20000 in
theorem gL_law_X10_worth : GoodIn wsL_law (wsV RL 88 RX10 yX10_worth wsX10_worth) := goodIn_app (goodIn_of _ (by decide +kernel)) ggL_law_X10_worth
set_option maxRecDepth 20000 in
theorem ggL_law_X9_bar : GoodIn wsL_law wsX9_bar := goodIn_r _ [568, 15, 173, 27, 220, 221, 222, 14, 223, 224, 197, 198, 199, 44, 175, 176, 2, 177, 225, 226, 227, 42, 228, 49, 229, 230, 231, 232, 812, 813, 814, 815, 816, 874, 875, 876, 877, 878, 879, 880, 854, 855, 856, 857, 858, 859, 884] (by decide +kernel) (by decide +kernel)
set_option maxRecDepth 20000 in
theorem gL_law_X9_bar : GoodIn wsL_law (wsV RL 89 RX9 yX9_bar wsX9_bar) := goodIn_app (goodIn_of _ (by decide +kernel)) ggL_law_X9_bar
set_option maxRecDepth 20000 in
theorem ggL_law_X10_bar : GoodIn wsL_law wsX10_bar := goodIn_r _ [572, 186, 144, 208, 209, 210, 5, 211, 187, 189, 190, 191, 817, 818, 819, 820, 821, 822, 823, 824, 825, 826, 827, 828, 829, 830, 831, 832, 833, 834, 835, 836, 837, 838, 839, 840, 841, 842, 843, 844, 845, 846, 847, 848, 849, 850, 851, 852, 853] (by decide +kernel) (by decide +kernel)
set_option maxRecDepth 20000 in
theorem gL_law_X10_bar : GoodIn wsL_law (wsV RL 92 RX10 yX10_bar wsX10_bar) := goodIn_app (goodIn_of _ (by decide +kernel)) ggL_law_X10_bar
set_option maxRecDepth 20000 in
theorem ggL_law_X9_pin : GoodIn wsL_law wsX9_pin := goodIn_r _ [576, 524, 27, 15, 173, 550, 551, 552, 26, 553, 96, 196, 197, 198, 14, 199, 44, 577, 578, 2, 579, 175, 176, 177, 580, 581, 582, 812, 813, 814, 815, 816, 874, 875, 876, 877, 878, 879, 880, 854, 855, 856, 857, 858, 859] (by decide +kernel) (by decide +kernel)
set_option maxRecDepth 20000 in
theorem gL_law_X9_pin : GoodIn wsL_law (wsV RL 93 RX9 yX9_pin wsX9_pin) := goodIn_app (goodIn_of _ (by decide +kernel)) ggL_law_X9_pin
set_option maxRecDepth 20000 in
theorem ggL_law_X10_pin : GoodIn wsL_law wsX10_pin := goodIn_r _ [586, 515, 186, 150, 561, 562, 563, 5, 564, 545, 189, 190, 191, 208, 209, 210, 211, 187, 587, 588, 589, 817, 818, 819, 820, 821, 822, 823, 824, 825, 826, 827, 828, 829, 830, 831, 832, 833, 834, 835, 836, 837, 838, 839, 840, 841, 842, 843, 844, 845, 846, 847, 848, 849, 850, 851, 852, 853] (by decide +kernel) (by decide +kernel)
set_option maxRecDepth 20000 in
theorem gL_law_X10_pin : GoodIn wsL_law (wsV RL 96 RX10 yX10_pin wsX10_pin) := goodIn_app (goodIn_of _ (by decide +kernel)) ggL_law_X10_pin
set_option maxRecDepth 20000 in
theorem ggL_law_X9_plan : GoodIn wsL_law wsX9_plan := goodIn_r _ [593, 173, 27, 577, 578, 2, 579, 175, 176, 177, 594, 595, 596, 26, 597, 102, 598, 599, 95, 600, 601, 602, 603, 604, 605, 606, 101, 607, 111, 608, 113, 114, 115, 116, 117, 118, 609, 105, 106, 107, 610, 611, 612, 613, 614, 615, 581, 582, 616, 197, 198, 14, 199, 44, 617, 618, 619, 620, 112, 621, 622, 623, 624, 625, 626, 627, 628, 629, 97, 92, 630, 276, 277, 278, 631, 555, 556, 632, 230, 231, 42, 232, 49, 633, 812, 813, 814, 815, 816, 874, 875, 876, 877, 878, 879, 880, 894, 895, 896, 897, 898, 899, 900, 901, 854, 855, 856, 857, 858, 859, 884] (by decide +kernel) (by decide +kernel)
set_option maxRecDepth 20000 in
theorem gL_law_X9_plan : GoodIn wsL_law (wsV RL 97 RX9 yX9_plan wsX9_plan) := goodIn_app (goodIn_of _ (by decide +kernel)) ggL_law_X9_plan
set_option maxRecDepth 20000 in
theorem ggL_law_X10_plan : GoodIn wsL_law wsX10_plan := goodIn_r _ [637, 186, 166, 638, 639, 640, 641, 642, 322, 151, 167, 587, 588, 5, 589, 189, 190, 191, 643, 644, 645, 646, 187, 545, 150, 647, 648, 649, 650, 144, 651, 652, 653, 654, 149, 817, 818, 819, 820, 821, 822, 823, 824, 825, 826, 827, 828, 829, 830, 831, 832, 833, 834, 835, 836, 837, 838, 839, 840, 841, 842, 843, 844, 845, 846, 847, 848, 849, 850, 851, 852, 853] (by decide +kernel) (by decide +kernel)
set_option maxRecDepth 20000 in
theorem gL_law_X10_plan : GoodIn wsL_law (wsV RL 100 RX10 yX10_plan wsX10_plan) := goodIn_app (goodIn_of _ (by decide +kernel)) ggL_law_X10_plan
set_option maxRecDepth 20000 in
theorem ggL_law_X9_planned : GoodIn wsL_law wsX9_planned := goodIn_r _ [658, 15, 173, 27, 196, 197, 198, 14, 199, 44, 577, 578, 2, 579, 175, 176, 177, 580, 581, 582, 812, 813, 814, 815, 816, 874, 875, 876, 877, 878, 879, 880, 854, 855, 856, 857, 858, 859] (by decide +kernel) (by decide +kernel)
set_option maxRecDepth 20000 in
theorem gL_law_X9_planned : GoodIn wsL_law (wsV RL 101 RX9 yX9_planned wsX9_planned) := goodIn_app (goodIn_of _ (by decide +kernel)) ggL_law_X9_planned
set_option maxRecDepth 20000 in
theorem ggL_law_X10_planned : GoodIn wsL_law wsX10_planned := goodIn_r _ [662, 186, 151, 515, 208, 209, 210, 5, 211, 187, 189, 190, 191, 587, 588, 589, 817, 818, 819, 820, 821, 822, 823, 824, 825, 826, 827, 828, 829, 830, 831, 832, 833, 834, 835, 836, 837, 838, 839, 840, 841, 842, 843, 844, 845, 846, 847, 848, 849, 850, 851, 852, 853] (by decide +kernel) (by decide +kernel)
set_option maxRecDepth 20000 in
theorem gL_law_X10_planned : GoodIn wsL_law (wsV RL 104 RX10 yX10_planned wsX10_planned) := goodIn_app (goodIn_of _ (by decide +kernel)) ggL_law_X10_planned
set_option maxRecDepth 20000 in
theorem ggL_law_X9_rule : GoodIn wsL_law wsX9_rule := goodIn_r _ [666, 31, 173, 667, 668, 669, 30, 670, 176, 2, 177, 812, 813, 814, 815, 816, 881, 882, 883] (by decide +kernel) (by decide +kernel)
set_option maxRecDepth 20000 in
theorem gL_law_X9_rule : GoodIn wsL_law (wsV RL 105 RX9 yX9_rule wsX9_rule) := goodIn_app (goodIn_of _ (by decide +kernel)) ggL_law_X9_rule
set_option maxRecDepth 20000 in
theorem ggL_law_X10_rule : GoodIn wsL_law wsX10_rule := goodIn_r _ [674, 186, 152, 153, 154, 189, 190, 5, 191, 817, 818, 819, 820, 821, 822, 823, 824, 825, 826, 827, 828, 829, 830, 831, 832, 833, 834, 835, 836, 837, 838, 839, 840, 841, 842, 843, 844, 845, 846, 847, 848, 849, 850, 851, 852, 853] (by decide +kernel) (by decide +kernel)
set_option maxRecDepth 20000 in
theorem gL_law_X10_rule : GoodIn wsL_law (wsV RL 108 RX10 yX10_rule wsX10_rule) := goodIn_app (goodIn_of _ (by decide +kernel)) ggL_law_X10_rule
set_option maxRecDepth 20000 in
theorem ggL_law_X9_least : GoodIn wsL_law wsX9_least := goodIn_r _ [678, 15, 173, 307, 196, 197, 198, 14, 199, 44, 175, 176, 2, 177, 200, 201, 202, 203, 36, 812, 813, 814, 815, 816, 854, 855, 856, 857, 858, 859] (by decide +kernel) (by decide +kernel)
set_option maxRecDepth 20000 in
theorem gL_law_X9_least : GoodIn wsL_law (wsV RL 109 RX9 yX9_least wsX9_least) := goodIn_app (goodIn_of _ (by decide +kernel)) ggL_law_X9_least
set_option maxRecDepth 20000 in
theorem ggL_law_X10_least : GoodIn wsL_law wsX10_least := goodIn_r _ [682, 186, 322, 142, 208, 209, 210, 5, 211, 187, 189, 190, 191, 212, 213, 214, 215, 139, 817, 818, 819, 820, 821, 822, 823, 824, 825, 826, 827, 828, 829, 830, 831, 832, 833, 834, 835, 836, 837, 838, 839, 840, 841, 842, 843, 844, 845, 846, 847, 848, 849, 850, 851, 852, 853] (by decide +kernel) (by decide +kernel)
set_option maxRecDepth 20000 in
theorem gL_law_X10_least : GoodIn wsL_law (wsV RL 112 RX10 yX10_least wsX10_least) := goodIn_app (goodIn_of _ (by decide +kernel)) ggL_law_X10_least
set_option maxRecDepth 20000 in
theorem ggL_law_X9_share : GoodIn wsL_law wsX9_share := goodIn_r _ [686, 15, 173, 31, 196, 197, 198, 14, 199, 44, 175, 176, 2, 177, 687, 688, 689, 30, 690, 128, 123, 691, 276, 277, 278, 812, 813, 814, 815, 816, 854, 855, 856, 857, 858, 859, 881, 882, 883] (by decide +kernel) (by decide +kernel)
set_option maxRecDepth 20000 in
theorem gL_law_X9_share : GoodIn wsL_law (wsV RL 113 RX9 yX9_share wsX9_share) := goodIn_app (goodIn_of _ (by decide +kernel)) ggL_law_X9_share
set_option maxRecDepth 20000 in
theorem ggL_law_X10_share : GoodIn wsL_law wsX10_share := goodIn_r _ [695, 140, 186, 208, 209, 210, 5, 211, 187, 189, 190, 191, 696, 697, 698, 699, 139, 152, 142, 817, 818, 819, 820, 821, 822, 823, 824, 825, 826, 827, 828, 829, 830, 831, 832, 833, 834, 835, 836, 837, 838, 839, 840, 841, 842, 843, 844, 845, 846, 847, 848, 849, 850, 851, 852, 853] (by decide +kernel) (by decide +kernel)
set_option maxRecDepth 20000 in
theorem gL_law_X10_share : GoodIn wsL_law (wsV RL 116 RX10 yX10_share wsX10_share) := goodIn_app (goodIn_of _ (by decide +kernel)) ggL_law_X10_share
set_option maxRecDepth 20000 in
theorem ggL_law_X9_shares : GoodIn wsL_law wsX9_shares := goodIn_r _ [703, 173, 31, 704, 577, 578, 2, 579, 175, 176, 177, 705, 706, 707, 126, 708, 134, 709, 710, 711, 30, 712, 128, 713, 714, 715, 716, 127, 581, 582, 717, 718, 719, 720, 721, 688, 689, 690, 123, 691, 276, 277, 278, 812, 813, 814, 815, 816, 881, 882, 883, 902, 903, 854, 855, 856, 857, 858, 859] (by decide +kernel) (by decide +kernel)
set_option maxRecDepth 20000 in
theorem gL_law_X9_shares : GoodIn wsL_law (wsV RL 117 RX9 yX9_shares wsX9_shares) := goodIn_app (goodIn_of _ (by decide +kernel)) ggL_law_X9_shares
set_option maxRecDepth 20000 in
theorem ggL_law_X10_shares : GoodIn wsL_law wsX10_shares := goodIn_r _ [725, 186, 155, 726, 187, 156, 140, 587, 588, 5, 589, 189, 190, 191, 696, 697, 698, 699, 139, 152, 142, 817, 818, 819, 820, 821, 822, 823, 824, 825, 826, 827, 828, 829, 830, 831, 832, 833, 834, 835, 836, 837, 838, 839, 840, 841, 842, 843, 844, 845, 846, 847, 848, 849, 850, 851, 852, 853] (by decide +kernel) (by decide +kernel)
set_option maxRecDepth 20000 in
theorem gL_law_X10_shares : GoodIn wsL_law (wsV RL 120 RX10 yX10_shares wsX10_shares) := goodIn_app (goodIn_of _ (by decide +kernel)) ggL_law_X10_shares
set_option maxRecDepth 20000 in
theorem ggL_law_X9_checked : GoodIn wsL_law wsX9_checked := goodIn_r _ [730, 31, 173, 577, 578, 2, 579, 175, 176, 177, 731, 732, 733, 30, 734, 123, 128, 735, 736, 581, 582, 812, 813, 814, 815, 816, 881, 882, 883, 854, 855, 856, 857, 858, 859] (by decide +kernel) (by decide +kernel)
set_option maxRecDepth 20000 in
theorem gL_law_X9_checked : GoodIn wsL_law (wsV RL 121 RX9 yX9_checked wsX9_checked) := goodIn_app (goodIn_of _ (by decide +kernel)) ggL_law_X9_checked
set_option maxRecDepth 20000 in
theorem ggL_law_X10_checked : GoodIn wsL_law wsX10_checked := goodIn_r _ [740, 186, 187, 154, 741, 742, 153, 587, 588, 5, 589, 189, 190, 191, 817, 818, 819, 820, 821, 822, 823, 824, 825, 826, 827, 828, 829, 830, 831, 832, 833, 834, 835, 836, 837, 838, 839, 840, 841, 842, 843, 844, 845, 846, 847, 848, 849, 850, 851, 852, 853] (by decide +kernel) (by decide +kernel)
set_option maxRecDepth 20000 in
theorem gL_law_X10_checked : GoodIn wsL_law (wsV RL 124 RX10 yX10_checked wsX10_checked) := goodIn_app (goodIn_of _ (by decide +kernel)) ggL_law_X10_checked
set_option maxRecDepth 20000 in
theorem ggL_law_X9_sheet : GoodIn wsL_law wsX9_sheet := goodIn_r _ [746, 173, 747, 31, 748, 749, 2, 750, 175, 176, 177, 751, 752, 753, 126, 754, 133, 134, 755, 756, 106, 757, 812, 813, 814, 815, 816, 881, 882, 883, 902, 903] (by decide +kernel) (by decide +kernel)
set_option maxRecDepth 20000 in
theorem gL_law_X9_sheet : GoodIn wsL_law (wsV RL 125 RX9 yX9_sheet wsX9_sheet) := goodIn_app (goodIn_of _ (by decide +kernel)) ggL_law_X9_sheet
set_option maxRecDepth 20000 in
theorem ggL_law_X10_sheet : GoodIn wsL_law wsX10_sheet := goodIn_r _ [761, 186, 762, 155, 156, 763, 764, 5, 765, 189, 190, 191, 817, 818, 819, 820, 821, 822, 823, 824, 825, 826, 827, 828, 829, 830, 831, 832, 833, 834, 835, 836, 837, 838, 839, 840, 841, 842, 843, 844, 845, 846, 847, 848, 849, 850, 851, 852, 853] (by decide +kernel) (by decide +kernel)
set_option maxRecDepth 20000 in
theorem gL_law_X10_sheet : GoodIn wsL_law (wsV RL 128 RX10 yX10_sheet wsX10_sheet) := goodIn_app (goodIn_of _ (by decide +kernel)) ggL_law_X10_sheet
set_option maxRecDepth 20000 in
theorem ggL_law_X9_mark : GoodIn wsL_law wsX9_mark := goodIn_r _ [769, 173, 31, 704, 770, 748, 749, 2, 750, 175, 176, 177, 705, 706, 707, 126, 708, 134, 771, 718, 719, 720, 772, 773, 774, 775, 133, 812, 813, 814, 815, 816, 881, 882, 883, 902, 903] (by decide +kernel) (by decide +kernel)
set_option maxRecDepth 20000 in
theorem gL_law_X9_mark : GoodIn wsL_law (wsV RL 129 RX9 yX9_mark wsX9_mark) := goodIn_app (goodIn_of _ (by decide +kernel)) ggL_law_X9_mark
set_option maxRecDepth 20000 in
theorem ggL_law_X10_mark : GoodIn wsL_law wsX10_mark := goodIn_r _ [779, 186, 155, 726, 780, 156, 763, 764, 5, 765, 189, 190, 191, 817, 818, 819, 820, 821, 822, 823, 824, 825, 826, 827, 828, 829, 830, 831, 832, 833, 834, 835, 836, 837, 838, 839, 840, 841, 842, 843, 844, 845, 846, 847, 848, 849, 850, 851, 852, 853] (by decide +kernel) (by decide +kernel)
set_option maxRecDepth 20000 in
theorem gL_law_X10_mark : GoodIn wsL_law (wsV RL 132 RX10 yX10_mark wsX10_mark) := goodIn_app (goodIn_of _ (by decide +kernel)) ggL_law_X10_mark
set_option maxRecDepth 20000 in
theorem ggL_law_X9_copy : GoodIn wsL_law wsX9_copy := goodIn_r _ [784, 173, 31, 704, 770, 785, 601, 602, 603, 748, 749, 2, 750, 175, 176, 177, 705, 706, 707, 126, 708, 134, 786, 787, 788, 789, 812, 813, 814, 815, 816, 881, 882, 883, 902, 903] (by decide +kernel) (by decide +kernel)
set_option maxRecDepth 20000 in
theorem gL_law_X9_copy : GoodIn wsL_law (wsV RL 133 RX9 yX9_copy wsX9_copy) := goodIn_app (goodIn_of _ (by decide +kernel)) ggL_law_X9_copy
set_option maxRecDepth 20000 in
theorem ggL_law_X10_copy : GoodIn wsL_law wsX10_copy := goodIn_r _ [793, 186, 155, 726, 780, 168, 156, 763, 764, 5, 765, 189, 190, 191, 817, 818, 819, 820, 821, 822, 823, 824, 825, 826, 827, 828, 829, 830, 831, 832, 833, 834, 835, 836, 837, 838, 839, 840, 841, 842, 843, 844, 845, 846, 847, 848, 849, 850, 851, 852, 853] (by decide +kernel) (by decide +kernel)
set_option maxRecDepth 20000 in
theorem gL_law_X10_copy : GoodIn wsL_law (wsV RL 137 RX10 yX10_copy wsX10_copy) := goodIn_app (goodIn_of _ (by decide +kernel)) ggL_law_X10_copy
set_option maxRecDepth 20000 in
theorem ggL_law_X9_count : GoodIn wsL_law wsX9_count := goodIn_r _ [797, 15, 19, 23, 27, 31, 173, 798, 374, 375, 22, 376, 62, 69, 799, 800, 801, 18, 802, 55, 53, 803, 804, 805, 30, 806, 127, 807, 706, 707, 126, 708, 134, 812, 813, 814, 815, 816, 854, 855, 856, 857, 858, 859, 860, 861, 862, 863, 864, 865, 866, 867, 868, 869, 870, 871, 872, 873, 874, 875, 876, 877, 878, 879, 880, 881, 882, 883, 902, 903] (by decide +kernel) (by decide +kernel)
set_option maxRecDepth 20000 in
theorem gL_law_X9_count : GoodIn wsL_law (wsV RL 138 RX9 yX9_count wsX9_count) := goodIn_app (goodIn_of _ (by decide +kernel)) ggL_law_X9_count
set_option maxRecDepth 20000 in
theorem ggL_law_X10_count : GoodIn wsL_law wsX10_count := goodIn_r _ [811, 187, 261, 262, 545, 145, 155, 186, 400, 401, 402, 5, 403, 817, 818, 819, 820, 821, 822, 823, 824, 825, 826, 827, 828, 829, 830, 831, 832, 833, 834, 835, 836, 837, 838, 839, 840, 841, 842, 843, 844, 845, 846, 847, 848, 849, 850, 851, 852, 853] (by decide +kernel) (by decide +kernel)
set_option maxRecDepth 20000 in
theorem gL_law_X10_count : GoodIn wsL_law (wsV RL 141 RX10 yX10_count wsX10_count) := goodIn_app (goodIn_of _ (by decide +kernel)) ggL_law_X10_count
