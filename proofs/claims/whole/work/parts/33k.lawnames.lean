set_option maxRecDepth 20000 in
theorem ggL_law_X9_init : GoodIn wsL_law wsX9_init := goodIn_r _ [9, 10, 11, 12, 13, 14, 15, 16, 17, 18, 19, 20, 21, 22, 23, 24, 25, 26, 27, 28, 29, 30, 31, 32, 33, 34, 35, 36, 37, 38, 39, 40, 41, 42, 43, 44, 45, 46, 47, 48, 49, 50, 51, 52, 53, 54, 55, 56, 57, 58, 59, 60, 61, 62, 63, 64, 65, 66, 67, 68, 69, 70, 71, 72, 73, 74, 75, 76, 77, 78, 79, 80, 81, 82, 83, 84, 85, 86, 87, 88, 89, 90, 91, 92, 93, 94, 95, 96, 97, 98, 99, 841, 842, 843, 844, 845, 803, 804, 805, 806, 807, 808, 809, 810, 846, 847, 848, 849, 850, 851, 852, 853, 854, 855, 856, 857, 858, 859, 860, 861, 862, 863, 864, 865, 866, 867, 868, 869, 870, 871, 872, 873, 874, 875, 876, 877] (by decide +kernel) (by decide +kernel)
set_option maxRecDepth 20000 in
theorem gL_law_X9_init : GoodIn wsL_law (wsX9_init) := ggL_law_X9_init
set_option maxRecDepth 20000 in
theorem ggL_law_X10_init : GoodIn wsL_law wsX10_init := goodIn_r _ [102, 103, 11, 12, 43, 104, 105, 106, 107, 108, 109, 110, 111, 112, 113, 114, 115, 116, 117, 98, 118, 119, 811, 812, 813, 814, 815, 816, 817, 818, 819, 820, 821, 822, 823, 824, 825, 826, 827, 828, 829, 830, 831, 832, 833, 834, 835, 836, 837, 838, 839, 840] (by decide +kernel) (by decide +kernel)
set_option maxRecDepth 20000 in
theorem gL_law_X10_init : GoodIn wsL_law (wsX10_init) := ggL_law_X10_init
set_option maxRecDepth 20000 in
theorem ggL_law_X9_type : GoodIn wsL_law wsX9_type := goodIn_r _ [123, 16, 124, 125, 15, 126, 127, 128, 129, 130, 131, 132, 133, 134, 42, 803, 804, 805, 806, 807, 808, 809, 810, 841, 842, 843, 844, 845] (by decide +kernel) (by decide +kernel)
set_option maxRecDepth 20000 in
theorem gL_law_X9_type : GoodIn wsL_law (wsV RL 15 RX9 yX9_type wsX9_type) := goodIn_app (goodIn_of _ (by decide +kernel)) ggL_law_X9_type
set_option maxRecDepth 20000 in
theorem ggL_law_X10_type : GoodIn wsL_law wsX10_type := goodIn_r _ [138, 139, 140, 141, 142, 143, 110, 144, 145, 5, 146, 811, 812, 813, 814, 815, 816, 817, 818, 819, 820, 821, 822, 823, 824, 825, 826, 827, 828, 829, 830, 831, 832, 833, 834, 835, 836, 837, 838, 839, 840] (by decide +kernel) (by decide +kernel)
set_option maxRecDepth 20000 in
theorem gL_law_X10_type : GoodIn wsL_law (wsV RL 19 RX10 yX10_type wsX10_type) := goodIn_app (goodIn_of _ (by decide +kernel)) ggL_law_X10_type
set_option maxRecDepth 20000 in
theorem ggL_law_X9_marsh : GoodIn wsL_law wsX9_marsh := goodIn_r _ [150, 16, 20, 151, 152, 153, 154, 155, 156, 157, 15, 158, 159, 160, 134, 42, 161, 162, 163, 164, 165, 166, 167, 168, 169, 2, 170, 171, 172, 173, 174, 44, 175, 176, 177, 178, 179, 180, 181, 50, 182, 183, 184, 59, 185, 186, 187, 54, 188, 189, 65, 803, 804, 805, 806, 807, 808, 809, 810, 846, 847, 848, 841, 842, 843, 844, 845, 866, 867, 868, 869, 870, 871, 872, 873, 874] (by decide +kernel) (by decide +kernel)
set_option maxRecDepth 20000 in
theorem gL_law_X9_marsh : GoodIn wsL_law (wsV RL 20 RX9 yX9_marsh wsX9_marsh) := goodIn_app (goodIn_of _ (by decide +kernel)) ggL_law_X9_marsh
set_option maxRecDepth 20000 in
theorem ggL_law_X10_marsh : GoodIn wsL_law wsX10_marsh := goodIn_r _ [193, 194, 111, 143, 195, 196, 104, 197, 107, 198, 199, 200, 5, 201, 110, 811, 812, 813, 814, 815, 816, 817, 818, 819, 820, 821, 822, 823, 824, 825, 826, 827, 828, 829, 830, 831, 832, 833, 834, 835, 836, 837, 838, 839, 840] (by decide +kernel) (by decide +kernel)
set_option maxRecDepth 20000 in
theorem gL_law_X10_marsh : GoodIn wsL_law (wsV RL 24 RX10 yX10_marsh wsX10_marsh) := goodIn_app (goodIn_of _ (by decide +kernel)) ggL_law_X10_marsh
set_option maxRecDepth 20000 in
theorem ggL_law_X9_drain : GoodIn wsL_law wsX9_drain := goodIn_r _ [205, 20, 151, 206, 207, 208, 209, 2, 210, 211, 212, 213, 214, 215, 216, 50, 217, 183, 169, 170, 218, 803, 804, 805, 806, 807, 808, 809, 810, 846, 847, 848, 866, 867, 868, 869] (by decide +kernel) (by decide +kernel)
set_option maxRecDepth 20000 in
theorem gL_law_X9_drain : GoodIn wsL_law (wsV RL 25 RX9 yX9_drain wsX9_drain) := goodIn_app (goodIn_of _ (by decide +kernel)) ggL_law_X9_drain
set_option maxRecDepth 20000 in
theorem ggL_law_X10_drain : GoodIn wsL_law wsX10_drain := goodIn_r _ [222, 195, 223, 224, 225, 5, 226, 227, 144, 145, 146, 228, 229, 230, 811, 812, 813, 814, 815, 816, 817, 818, 819, 820, 821, 822, 823, 824, 825, 826, 827, 828, 829, 830, 831, 832, 833, 834, 835, 836, 837, 838, 839, 840] (by decide +kernel) (by decide +kernel)
set_option maxRecDepth 20000 in
theorem gL_law_X10_drain : GoodIn wsL_law (wsV RL 29 RX10 yX10_drain wsX10_drain) := goodIn_app (goodIn_of _ (by decide +kernel)) ggL_law_X10_drain
set_option maxRecDepth 20000 in
theorem ggL_law_X9_tuft : GoodIn wsL_law wsX9_tuft := goodIn_r _ [234, 20, 151, 235, 236, 208, 209, 2, 210, 211, 212, 213, 803, 804, 805, 806, 807, 808, 809, 810, 846, 847, 848, 866, 867, 868, 869] (by decide +kernel) (by decide +kernel)
set_option maxRecDepth 20000 in
theorem gL_law_X9_tuft : GoodIn wsL_law (wsV RL 30 RX9 yX9_tuft wsX9_tuft) := goodIn_app (goodIn_of _ (by decide +kernel)) ggL_law_X9_tuft
set_option maxRecDepth 20000 in
theorem ggL_law_X10_tuft : GoodIn wsL_law wsX10_tuft := goodIn_r _ [240, 196, 104, 224, 225, 5, 226, 227, 144, 145, 146, 811, 812, 813, 814, 815, 816, 817, 818, 819, 820, 821, 822, 823, 824, 825, 826, 827, 828, 829, 830, 831, 832, 833, 834, 835, 836, 837, 838, 839, 840] (by decide +kernel) (by decide +kernel)
set_option maxRecDepth 20000 in
theorem gL_law_X10_tuft : GoodIn wsL_law (wsV RL 34 RX10 yX10_tuft wsX10_tuft) := goodIn_app (goodIn_of _ (by decide +kernel)) ggL_law_X10_tuft
set_option maxRecDepth 20000 in
theorem ggL_law_X9_plant : GoodIn wsL_law wsX9_plant := goodIn_r _ [244, 20, 151, 236, 245, 246, 247, 2, 248, 235, 211, 212, 213, 208, 209, 210, 803, 804, 805, 806, 807, 808, 809, 810, 846, 847, 848, 866, 867, 868, 869] (by decide +kernel) (by decide +kernel)
set_option maxRecDepth 20000 in
theorem gL_law_X9_plant : GoodIn wsL_law (wsV RL 35 RX9 yX9_plant wsX9_plant) := goodIn_app (goodIn_of _ (by decide +kernel)) ggL_law_X9_plant
set_option maxRecDepth 20000 in
theorem ggL_law_X10_plant : GoodIn wsL_law wsX10_plant := goodIn_r _ [252, 104, 253, 254, 255, 5, 256, 196, 144, 145, 146, 224, 225, 226, 227, 811, 812, 813, 814, 815, 816, 817, 818, 819, 820, 821, 822, 823, 824, 825, 826, 827, 828, 829, 830, 831, 832, 833, 834, 835, 836, 837, 838, 839, 840] (by decide +kernel) (by decide +kernel)
set_option maxRecDepth 20000 in
theorem gL_law_X10_plant : GoodIn wsL_law (wsV RL 39 RX10 yX10_plant wsX10_plant) := goodIn_app (goodIn_of _ (by decide +kernel)) ggL_law_X10_plant
set_option maxRecDepth 20000 in
theorem ggL_law_X9_person : GoodIn wsL_law wsX9_person := goodIn_r _ [260, 20, 154, 261, 211, 212, 2, 213, 262, 263, 264, 54, 265, 189, 63, 66, 266, 267, 268, 269, 64, 65, 803, 804, 805, 806, 807, 808, 809, 810, 846, 847, 848, 870, 871, 872, 873, 874] (by decide +kernel) (by decide +kernel)
set_option maxRecDepth 20000 in
theorem gL_law_X9_person : GoodIn wsL_law (wsV RL 40 RX9 yX9_person wsX9_person) := goodIn_app (goodIn_of _ (by decide +kernel)) ggL_law_X9_person
set_option maxRecDepth 20000 in
theorem ggL_law_X10_person : GoodIn wsL_law wsX10_person := goodIn_r _ [273, 274, 197, 105, 107, 106, 108, 144, 145, 5, 146, 811, 812, 813, 814, 815, 816, 817, 818, 819, 820, 821, 822, 823, 824, 825, 826, 827, 828, 829, 830, 831, 832, 833, 834, 835, 836, 837, 838, 839, 840] (by decide +kernel) (by decide +kernel)
set_option maxRecDepth 20000 in
theorem gL_law_X10_person : GoodIn wsL_law (wsV RL 43 RX10 yX10_person wsX10_person) := goodIn_app (goodIn_of _ (by decide +kernel)) ggL_law_X10_person
set_option maxRecDepth 20000 in
theorem ggL_law_X9_sit : GoodIn wsL_law wsX9_sit := goodIn_r _ [278, 20, 154, 279, 280, 281, 282, 2, 283, 261, 211, 212, 213, 208, 209, 210, 284, 267, 268, 54, 269, 64, 65, 803, 804, 805, 806, 807, 808, 809, 810, 846, 847, 848, 870, 871, 872, 873, 874] (by decide +kernel) (by decide +kernel)
set_option maxRecDepth 20000 in
theorem gL_law_X9_sit : GoodIn wsL_law (wsV RL 44 RX9 yX9_sit wsX9_sit) := goodIn_app (goodIn_of _ (by decide +kernel)) ggL_law_X9_sit
set_option maxRecDepth 20000 in
theorem ggL_law_X10_sit : GoodIn wsL_law wsX10_sit := goodIn_r _ [288, 289, 107, 106, 290, 291, 292, 5, 293, 197, 144, 145, 146, 224, 225, 226, 227, 811, 812, 813, 814, 815, 816, 817, 818, 819, 820, 821, 822, 823, 824, 825, 826, 827, 828, 829, 830, 831, 832, 833, 834, 835, 836, 837, 838, 839, 840] (by decide +kernel) (by decide +kernel)
set_option maxRecDepth 20000 in
theorem gL_law_X10_sit : GoodIn wsL_law (wsV RL 48 RX10 yX10_sit wsX10_sit) := goodIn_app (goodIn_of _ (by decide +kernel)) ggL_law_X10_sit
set_option maxRecDepth 20000 in
theorem ggL_law_X9_told : GoodIn wsL_law wsX9_told := goodIn_r _ [297, 20, 154, 298, 299, 279, 300, 280, 281, 282, 2, 283, 261, 211, 212, 213, 301, 302, 303, 54, 304, 65, 803, 804, 805, 806, 807, 808, 809, 810, 846, 847, 848, 870, 871, 872, 873, 874] (by decide +kernel) (by decide +kernel)
set_option maxRecDepth 20000 in
theorem gL_law_X9_told : GoodIn wsL_law (wsV RL 49 RX9 yX9_told wsX9_told) := goodIn_app (goodIn_of _ (by decide +kernel)) ggL_law_X9_told
set_option maxRecDepth 20000 in
theorem ggL_law_X10_told : GoodIn wsL_law wsX10_told := goodIn_r _ [308, 274, 105, 107, 106, 108, 290, 291, 292, 5, 293, 197, 144, 145, 146, 811, 812, 813, 814, 815, 816, 817, 818, 819, 820, 821, 822, 823, 824, 825, 826, 827, 828, 829, 830, 831, 832, 833, 834, 835, 836, 837, 838, 839, 840] (by decide +kernel) (by decide +kernel)
set_option maxRecDepth 20000 in
theorem gL_law_X10_told : GoodIn wsL_law (wsV RL 52 RX10 yX10_told wsX10_told) := goodIn_app (goodIn_of _ (by decide +kernel)) ggL_law_X10_told
set_option maxRecDepth 20000 in
theorem ggL_law_X9_of : GoodIn wsL_law wsX9_of := goodIn_r _ [312, 20, 151, 154, 208, 209, 2, 210, 211, 212, 213, 214, 215, 216, 50, 217, 183, 169, 170, 313, 314, 315, 316, 184, 59, 317, 318, 319, 320, 321, 322, 323, 324, 325, 326, 218, 327, 328, 329, 54, 330, 189, 64, 331, 302, 303, 304, 65, 332, 333, 334, 335, 63, 803, 804, 805, 806, 807, 808, 809, 810, 846, 847, 848, 866, 867, 868, 869, 870, 871, 872, 873, 874] (by decide +kernel) (by decide +kernel)
set_option maxRecDepth 20000 in
theorem gL_law_X9_of : GoodIn wsL_law (wsV RL 53 RX9 yX9_of wsX9_of) := goodIn_app (goodIn_of _ (by decide +kernel)) ggL_law_X9_of
set_option maxRecDepth 20000 in
theorem ggL_law_X10_of : GoodIn wsL_law wsX10_of := goodIn_r _ [339, 274, 196, 104, 195, 340, 341, 109, 224, 225, 5, 226, 227, 144, 145, 146, 342, 343, 344, 345, 197, 106, 107, 346, 347, 348, 349, 105, 228, 229, 230, 350, 351, 352, 353, 354, 811, 812, 813, 814, 815, 816, 817, 818, 819, 820, 821, 822, 823, 824, 825, 826, 827, 828, 829, 830, 831, 832, 833, 834, 835, 836, 837, 838, 839, 840] (by decide +kernel) (by decide +kernel)
set_option maxRecDepth 20000 in
theorem gL_law_X10_of : GoodIn wsL_law (wsV RL 56 RX10 yX10_of wsX10_of) := goodIn_app (goodIn_of _ (by decide +kernel)) ggL_law_X10_of
set_option maxRecDepth 20000 in
theorem ggL_law_X9_frost : GoodIn wsL_law wsX9_frost := goodIn_r _ [358, 20, 151, 359, 211, 212, 2, 213, 803, 804, 805, 806, 807, 808, 809, 810, 846, 847, 848, 866, 867, 868, 869] (by decide +kernel) (by decide +kernel)
set_option maxRecDepth 20000 in
theorem gL_law_X9_frost : GoodIn wsL_law (wsV RL 57 RX9 yX9_frost wsX9_frost) := goodIn_app (goodIn_of _ (by decide +kernel)) ggL_law_X9_frost
set_option maxRecDepth 20000 in
theorem ggL_law_X10_frost : GoodIn wsL_law wsX10_frost := goodIn_r _ [363, 364, 340, 144, 145, 5, 146, 811, 812, 813, 814, 815, 816, 817, 818, 819, 820, 821, 822, 823, 824, 825, 826, 827, 828, 829, 830, 831, 832, 833, 834, 835, 836, 837, 838, 839, 840] (by decide +kernel) (by decide +kernel)
set_option maxRecDepth 20000 in
theorem gL_law_X10_frost : GoodIn wsL_law (wsV RL 60 RX10 yX10_frost wsX10_frost) := goodIn_app (goodIn_of _ (by decide +kernel)) ggL_law_X10_frost
set_option maxRecDepth 20000 in
theorem ggL_law_X9_count : GoodIn wsL_law wsX9_count := goodIn_r _ [368, 20, 151, 235, 154, 261, 206, 369, 359, 370, 371, 372, 373, 374, 375, 376, 377, 378, 379, 54, 380, 189, 66, 803, 804, 805, 806, 807, 808, 809, 810, 846, 847, 848, 866, 867, 868, 869, 870, 871, 872, 873, 874] (by decide +kernel) (by decide +kernel)
set_option maxRecDepth 20000 in
theorem gL_law_X9_count : GoodIn wsL_law (wsV RL 61 RX9 yX9_count wsX9_count) := goodIn_app (goodIn_of _ (by decide +kernel)) ggL_law_X9_count
set_option maxRecDepth 20000 in
theorem ggL_law_X10_count : GoodIn wsL_law wsX10_count := goodIn_r _ [384, 195, 197, 108, 196, 385, 340, 228, 229, 5, 230, 811, 812, 813, 814, 815, 816, 817, 818, 819, 820, 821, 822, 823, 824, 825, 826, 827, 828, 829, 830, 831, 832, 833, 834, 835, 836, 837, 838, 839, 840] (by decide +kernel) (by decide +kernel)
set_option maxRecDepth 20000 in
theorem gL_law_X10_count : GoodIn wsL_law (wsV RL 64 RX10 yX10_count wsX10_count) := goodIn_app (goodIn_of _ (by decide +kernel)) ggL_law_X10_count
set_option maxRecDepth 20000 in
theorem ggL_law_X9_moss : GoodIn wsL_law wsX9_moss := goodIn_r _ [389, 20, 151, 236, 245, 246, 247, 2, 248, 235, 211, 212, 213, 803, 804, 805, 806, 807, 808, 809, 810, 846, 847, 848, 866, 867, 868, 869] (by decide +kernel) (by decide +kernel)
set_option maxRecDepth 20000 in
theorem gL_law_X9_moss : GoodIn wsL_law (wsV RL 65 RX9 yX9_moss wsX9_moss) := goodIn_app (goodIn_of _ (by decide +kernel)) ggL_law_X9_moss
set_option maxRecDepth 20000 in
theorem ggL_law_X10_moss : GoodIn wsL_law wsX10_moss := goodIn_r _ [393, 104, 253, 254, 255, 5, 256, 196, 144, 145, 146, 811, 812, 813, 814, 815, 816, 817, 818, 819, 820, 821, 822, 823, 824, 825, 826, 827, 828, 829, 830, 831, 832, 833, 834, 835, 836, 837, 838, 839, 840] (by decide +kernel) (by decide +kernel)
set_option maxRecDepth 20000 in
theorem gL_law_X10_moss : GoodIn wsL_law (wsV RL 68 RX10 yX10_moss wsX10_moss) := goodIn_app (goodIn_of _ (by decide +kernel)) ggL_law_X10_moss
set_option maxRecDepth 20000 in
theorem ggL_law_X9_pull : GoodIn wsL_law wsX9_pull := goodIn_r _ [397, 20, 154, 151, 236, 208, 209, 2, 210, 211, 212, 213, 245, 246, 247, 248, 235, 398, 399, 400, 54, 401, 189, 64, 331, 302, 303, 304, 65, 327, 328, 329, 330, 332, 333, 334, 335, 63, 402, 403, 404, 803, 804, 805, 806, 807, 808, 809, 810, 846, 847, 848, 866, 867, 868, 869, 870, 871, 872, 873, 874] (by decide +kernel) (by decide +kernel)
set_option maxRecDepth 20000 in
theorem gL_law_X9_pull : GoodIn wsL_law (wsV RL 69 RX9 yX9_pull wsX9_pull) := goodIn_app (goodIn_of _ (by decide +kernel)) ggL_law_X9_pull
set_option maxRecDepth 20000 in
theorem ggL_law_X10_pull : GoodIn wsL_law wsX10_pull := goodIn_r _ [408, 341, 224, 225, 5, 226, 227, 144, 145, 146, 253, 254, 255, 256, 196, 342, 343, 344, 345, 197, 109, 106, 107, 346, 347, 348, 349, 105, 228, 229, 230, 409, 410, 411, 412, 104, 413, 414, 415, 811, 812, 813, 814, 815, 816, 817, 818, 819, 820, 821, 822, 823, 824, 825, 826, 827, 828, 829, 830, 831, 832, 833, 834, 835, 836, 837, 838, 839, 840] (by decide +kernel) (by decide +kernel)
set_option maxRecDepth 20000 in
theorem gL_law_X10_pull : GoodIn wsL_law (wsV RL 72 RX10 yX10_pull wsX10_pull) := goodIn_app (goodIn_of _ (by decide +kernel)) ggL_law_X10_pull
set_option maxRecDepth 20000 in
theorem ggL_law_X9_year : GoodIn wsL_law wsX9_year := goodIn_r _ [419, 20, 369, 25, 420, 421, 422, 423, 19, 424, 55, 51, 425, 426, 427, 428, 429, 54, 430, 189, 64, 66, 331, 302, 303, 304, 65, 169, 2, 170, 431, 432, 433, 50, 434, 184, 325, 59, 183, 435, 436, 437, 438, 439, 440, 441, 76, 442, 443, 444, 445, 446, 447, 333, 334, 335, 63, 448, 449, 450, 451, 83, 84, 452, 453, 454, 455, 403, 404, 456, 457, 458, 459, 460, 461, 462, 463, 186, 187, 188, 803, 804, 805, 806, 807, 808, 809, 810, 846, 847, 848, 849, 850, 851, 852, 853, 854, 855, 866, 867, 868, 869, 870, 871, 872, 873, 874, 875, 876, 877] (by decide +kernel) (by decide +kernel)
set_option maxRecDepth 20000 in
theorem gL_law_X9_year : GoodIn wsL_law (wsV RL 73 RX9 yX9_year wsX9_year) := goodIn_app (goodIn_of _ (by decide +kernel)) ggL_law_X9_year
set_option maxRecDepth 20000 in
theorem ggL_law_X10_year : GoodIn wsL_law wsX10_year := goodIn_r _ [467, 385, 197, 108, 107, 195, 106, 196, 104, 112, 468, 469, 340, 470, 471, 472, 5, 473, 341, 105, 342, 343, 344, 345, 109, 346, 347, 348, 349, 228, 229, 230, 409, 410, 411, 412, 413, 414, 415, 474, 475, 476, 811, 812, 813, 814, 815, 816, 817, 818, 819, 820, 821, 822, 823, 824, 825, 826, 827, 828, 829, 830, 831, 832, 833, 834, 835, 836, 837, 838, 839, 840] (by decide +kernel) (by decide +kernel)
set_option maxRecDepth 20000 in
theorem gL_law_X10_year : GoodIn wsL_law (wsV RL 76 RX10 yX10_year wsX10_year) := goodIn_app (goodIn_of _ (by decide +kernel)) ggL_law_X10_year
set_option maxRecDepth 20000 in
theorem ggL_law_X9_way : GoodIn wsL_law wsX9_way := goodIn_r _ [480, 20, 151, 208, 209, 2, 210, 211, 212, 213, 317, 318, 319, 50, 320, 321, 322, 323, 324, 325, 326, 183, 184, 59, 169, 170, 481, 482, 483, 218, 484, 485, 486, 487, 488, 489, 803, 804, 805, 806, 807, 808, 809, 810, 846, 847, 848, 866, 867, 868, 869] (by decide +kernel) (by decide +kernel)
set_option maxRecDepth 20000 in
theorem gL_law_X9_way : GoodIn wsL_law (wsV RL 77 RX9 yX9_way wsX9_way) := goodIn_app (goodIn_of _ (by decide +kernel)) ggL_law_X9_way
set_option maxRecDepth 20000 in
theorem ggL_law_X10_way : GoodIn wsL_law wsX10_way := goodIn_r _ [493, 224, 225, 5, 226, 227, 144, 145, 146, 494, 495, 496, 497, 195, 340, 104, 350, 351, 352, 353, 196, 354, 498, 499, 500, 228, 229, 230, 501, 502, 503, 504, 505, 811, 812, 813, 814, 815, 816, 817, 818, 819, 820, 821, 822, 823, 824, 825, 826, 827, 828, 829, 830, 831, 832, 833, 834, 835, 836, 837, 838, 839, 840] (by decide +kernel) (by decide +kernel)
set_option maxRecDepth 20000 in
theorem gL_law_X10_way : GoodIn wsL_law (wsV RL 80 RX10 yX10_way wsX10_way) := goodIn_app (goodIn_of _ (by decide +kernel)) ggL_law_X10_way
set_option maxRecDepth 20000 in
theorem ggL_law_X9_route : GoodIn wsL_law wsX9_route := goodIn_r _ [509, 33, 20, 151, 510, 208, 209, 2, 210, 211, 212, 213, 511, 512, 513, 32, 514, 515, 516, 517, 518, 519, 94, 520, 318, 319, 50, 320, 321, 322, 323, 324, 325, 326, 183, 184, 59, 169, 170, 521, 522, 523, 524, 525, 526, 527, 528, 529, 530, 531, 532, 533, 534, 535, 536, 537, 538, 539, 540, 541, 542, 543, 544, 545, 546, 803, 804, 805, 806, 807, 808, 809, 810, 846, 847, 848, 859, 860, 861, 866, 867, 868, 869] (by decide +kernel) (by decide +kernel)
set_option maxRecDepth 20000 in
theorem gL_law_X9_route : GoodIn wsL_law (wsV RL 81 RX9 yX9_route wsX9_route) := goodIn_app (goodIn_of _ (by decide +kernel)) ggL_law_X9_route
set_option maxRecDepth 20000 in
theorem ggL_law_X10_route : GoodIn wsL_law wsX10_route := goodIn_r _ [550, 223, 551, 113, 224, 225, 5, 226, 227, 144, 145, 146, 494, 495, 496, 497, 195, 340, 104, 350, 351, 352, 353, 196, 354, 552, 553, 554, 555, 228, 229, 230, 556, 557, 558, 559, 560, 561, 562, 563, 811, 812, 813, 814, 815, 816, 817, 818, 819, 820, 821, 822, 823, 824, 825, 826, 827, 828, 829, 830, 831, 832, 833, 834, 835, 836, 837, 838, 839, 840] (by decide +kernel) (by decide +kernel)
set_option maxRecDepth 20000 in
theorem gL_law_X10_route : GoodIn wsL_law (wsV RL 84 RX10 yX10_route wsX10_route) := goodIn_app (goodIn_of _ (by decide +kernel)) ggL_law_X10_route
set_option maxRecDepth 20000 in
theorem ggL_law_X9_parts : GoodIn wsL_law wsX9_parts := goodIn_r _ [567, 20, 151, 207, 317, 318, 319, 50, 320, 321, 322, 323, 324, 325, 326, 183, 184, 59, 169, 2, 170, 218, 568, 569, 570, 484, 485, 486, 487, 488, 489, 803, 804, 805, 806, 807, 808, 809, 810, 846, 847, 848, 866, 867, 868, 869] (by decide +kernel) (by decide +kernel)
set_option maxRecDepth 20000 in
theorem gL_law_X9_parts : GoodIn wsL_law (wsV RL 85 RX9 yX9_parts wsX9_parts) := goodIn_app (goodIn_of _ (by decide +kernel)) ggL_law_X9_parts
set_option maxRecDepth 20000 in
theorem ggL_law_X10_parts : GoodIn wsL_law wsX10_parts := goodIn_r _ [574, 223, 494, 495, 496, 5, 497, 195, 340, 104, 350, 351, 352, 353, 196, 354, 501, 502, 503, 504, 505, 811, 812, 813, 814, 815, 816, 817, 818, 819, 820, 821, 822, 823, 824, 825, 826, 827, 828, 829, 830, 831, 832, 833, 834, 835, 836, 837, 838, 839, 840] (by decide +kernel) (by decide +kernel)
set_option maxRecDepth 20000 in
theorem gL_law_X10_parts : GoodIn wsL_law (wsV RL 88 RX10 yX10_parts wsX10_parts) := goodIn_app (goodIn_of _ (by decide +kernel)) ggL_law_X10_parts
set_option maxRecDepth 20000 in
theorem ggL_law_X9_least : GoodIn wsL_law wsX9_least := goodIn_r _ [578, 280, 281, 282, 2, 283, 20, 154, 261, 211, 212, 213, 208, 209, 210, 579, 580, 581, 582, 25, 583, 584, 585, 586, 24, 587, 73, 588, 589, 590, 591, 54, 592, 189, 63, 64, 65, 66, 284, 267, 268, 269, 593, 594, 595, 596, 71, 79, 597, 598, 599, 600, 601, 602, 603, 604, 77, 605, 606, 607, 50, 608, 183, 59, 184, 325, 609, 180, 181, 182, 610, 432, 433, 434, 435, 436, 437, 438, 439, 440, 441, 76, 442, 443, 444, 445, 446, 302, 303, 304, 447, 333, 334, 335, 448, 449, 450, 451, 83, 84, 452, 453, 454, 455, 403, 404, 456, 457, 458, 459, 460, 461, 462, 331, 169, 170, 611, 318, 319, 320, 321, 322, 323, 324, 326, 482, 483, 218, 484, 485, 486, 487, 488, 489, 803, 804, 805, 806, 807, 808, 809, 810, 846, 847, 848, 870, 871, 872, 873, 874, 849, 850, 851, 852, 853, 854, 855, 866, 867, 868, 869, 875, 876, 877] (by decide +kernel) (by decide +kernel)
set_option maxRecDepth 20000 in
theorem gL_law_X9_least : GoodIn wsL_law (wsV RL 89 RX9 yX9_least wsX9_least) := goodIn_app (goodIn_of _ (by decide +kernel)) ggL_law_X9_least
set_option maxRecDepth 20000 in
theorem ggL_law_X10_least : GoodIn wsL_law wsX10_least := goodIn_r _ [615, 106, 107, 290, 291, 292, 5, 293, 197, 144, 145, 146, 224, 225, 226, 227, 616, 617, 618, 619, 620, 621, 622, 623, 624, 625, 468, 469, 112, 470, 471, 472, 473, 196, 341, 104, 340, 195, 105, 342, 343, 344, 345, 109, 346, 347, 348, 349, 228, 229, 230, 409, 410, 411, 412, 413, 414, 415, 474, 475, 476, 350, 351, 352, 353, 354, 498, 499, 500, 501, 502, 503, 504, 505, 626, 627, 628, 629, 811, 812, 813, 814, 815, 816, 817, 818, 819, 820, 821, 822, 823, 824, 825, 826, 827, 828, 829, 830, 831, 832, 833, 834, 835, 836, 837, 838, 839, 840] (by decide +kernel) (by decide +kernel)
set_option maxRecDepth 20000 in
theorem gL_law_X10_least : GoodIn wsL_law (wsV RL 93 RX10 yX10_least wsX10_least) := goodIn_app (goodIn_of _ (by decide +kernel)) ggL_law_X10_least
set_option maxRecDepth 20000 in
theorem ggL_law_X9_game : GoodIn wsL_law wsX9_game := goodIn_r _ [633, 25, 20, 583, 29, 634, 280, 281, 282, 2, 283, 154, 261, 211, 212, 213, 635, 636, 637, 208, 209, 210, 584, 585, 586, 24, 587, 73, 588, 589, 590, 591, 54, 592, 189, 63, 64, 65, 66, 284, 267, 268, 269, 593, 594, 595, 596, 71, 79, 597, 598, 599, 600, 601, 602, 603, 604, 77, 605, 606, 607, 50, 608, 183, 59, 184, 325, 609, 180, 181, 182, 610, 432, 433, 434, 435, 436, 437, 438, 439, 440, 441, 76, 442, 443, 444, 445, 446, 302, 303, 304, 447, 333, 334, 335, 448, 449, 450, 451, 83, 84, 452, 453, 454, 455, 403, 404, 456, 457, 458, 459, 460, 461, 462, 331, 169, 170, 611, 318, 319, 320, 321, 322, 323, 324, 326, 482, 483, 218, 484, 485, 486, 487, 488, 489, 638, 639, 640, 28, 641, 89, 90, 88, 642, 643, 644, 645, 646, 647, 648, 649, 650, 651, 652, 653, 654, 655, 656, 657, 803, 804, 805, 806, 807, 808, 809, 810, 849, 850, 851, 852, 853, 854, 855, 856, 857, 858, 846, 847, 848, 870, 871, 872, 873, 874, 866, 867, 868, 869, 875, 876, 877] (by decide +kernel) (by decide +kernel)
set_option maxRecDepth 20000 in
theorem gL_law_X9_game : GoodIn wsL_law (wsV RL 94 RX9 yX9_game wsX9_game) := goodIn_app (goodIn_of _ (by decide +kernel)) ggL_law_X9_game
set_option maxRecDepth 20000 in
theorem ggL_law_X10_game : GoodIn wsL_law wsX10_game := goodIn_r _ [661, 289, 106, 107, 114, 290, 291, 292, 5, 293, 197, 144, 145, 146, 224, 225, 226, 227, 616, 617, 618, 619, 620, 621, 622, 623, 624, 625, 468, 469, 112, 470, 471, 472, 473, 196, 341, 104, 340, 195, 105, 342, 343, 344, 345, 109, 346, 347, 348, 349, 228, 229, 230, 409, 410, 411, 412, 413, 414, 415, 474, 475, 476, 350, 351, 352, 353, 354, 498, 499, 500, 501, 502, 503, 504, 505, 626, 627, 628, 629, 811, 812, 813, 814, 815, 816, 817, 818, 819, 820, 821, 822, 823, 824, 825, 826, 827, 828, 829, 830, 831, 832, 833, 834, 835, 836, 837, 838, 839, 840] (by decide +kernel) (by decide +kernel)
set_option maxRecDepth 20000 in
theorem gL_law_X10_game : GoodIn wsL_law (wsV RL 98 RX10 yX10_game wsX10_game) := goodIn_app (goodIn_of _ (by decide +kernel)) ggL_law_X10_game
set_option maxRecDepth 20000 in
theorem ggL_law_X9_pilots : GoodIn wsL_law wsX9_pilots := goodIn_r _ [665, 20, 151, 235, 208, 209, 2, 210, 211, 212, 213, 317, 318, 319, 50, 320, 321, 322, 323, 324, 325, 326, 183, 184, 59, 169, 170, 481, 482, 483, 218, 484, 485, 486, 487, 488, 489, 666, 803, 804, 805, 806, 807, 808, 809, 810, 846, 847, 848, 866, 867, 868, 869] (by decide +kernel) (by decide +kernel)
set_option maxRecDepth 20000 in
theorem gL_law_X9_pilots : GoodIn wsL_law (wsV RL 99 RX9 yX9_pilots wsX9_pilots) := goodIn_app (goodIn_of _ (by decide +kernel)) ggL_law_X9_pilots
set_option maxRecDepth 20000 in
theorem ggL_law_X10_pilots : GoodIn wsL_law wsX10_pilots := goodIn_r _ [670, 196, 195, 340, 104, 224, 225, 5, 226, 227, 144, 145, 146, 494, 495, 496, 497, 350, 351, 352, 353, 354, 498, 499, 500, 228, 229, 230, 501, 502, 503, 504, 505, 811, 812, 813, 814, 815, 816, 817, 818, 819, 820, 821, 822, 823, 824, 825, 826, 827, 828, 829, 830, 831, 832, 833, 834, 835, 836, 837, 838, 839, 840] (by decide +kernel) (by decide +kernel)
set_option maxRecDepth 20000 in
theorem gL_law_X10_pilots : GoodIn wsL_law (wsV RL 102 RX10 yX10_pilots wsX10_pilots) := goodIn_app (goodIn_of _ (by decide +kernel)) ggL_law_X10_pilots
set_option maxRecDepth 20000 in
theorem ggL_law_X9_image : GoodIn wsL_law wsX9_image := goodIn_r _ [674, 21, 20, 675, 676, 677, 678, 19, 679, 51, 55, 426, 680, 606, 607, 50, 608, 183, 59, 184, 325, 609, 180, 181, 182, 681, 590, 591, 54, 592, 189, 63, 64, 65, 66, 803, 804, 805, 806, 807, 808, 809, 810, 846, 847, 848, 866, 867, 868, 869, 870, 871, 872, 873, 874] (by decide +kernel) (by decide +kernel)
set_option maxRecDepth 20000 in
theorem gL_law_X9_image : GoodIn wsL_law (wsV RL 103 RX9 yX9_image wsX9_image) := goodIn_app (goodIn_of _ (by decide +kernel)) ggL_law_X9_image
set_option maxRecDepth 20000 in
theorem ggL_law_X10_image : GoodIn wsL_law wsX10_image := goodIn_r _ [685, 104, 105, 106, 107, 108, 115, 196, 197, 340, 385, 195, 686, 687, 688, 689, 690, 5, 691, 811, 812, 813, 814, 815, 816, 817, 818, 819, 820, 821, 822, 823, 824, 825, 826, 827, 828, 829, 830, 831, 832, 833, 834, 835, 836, 837, 838, 839, 840] (by decide +kernel) (by decide +kernel)
set_option maxRecDepth 20000 in
theorem gL_law_X10_image : GoodIn wsL_law (wsV RL 106 RX10 yX10_image wsX10_image) := goodIn_app (goodIn_of _ (by decide +kernel)) ggL_law_X10_image
set_option maxRecDepth 20000 in
theorem ggL_law_X9_restore : GoodIn wsL_law wsX9_restore := goodIn_r _ [695, 675, 20, 21, 676, 677, 678, 19, 679, 51, 55, 426, 680, 606, 607, 50, 608, 183, 59, 184, 325, 609, 180, 181, 182, 681, 590, 591, 54, 592, 189, 63, 64, 65, 66, 803, 804, 805, 806, 807, 808, 809, 810, 846, 847, 848, 866, 867, 868, 869, 870, 871, 872, 873, 874] (by decide +kernel) (by decide +kernel)
set_option maxRecDepth 20000 in
theorem gL_law_X9_restore : GoodIn wsL_law (wsV RL 107 RX9 yX9_restore wsX9_restore) := goodIn_app (goodIn_of _ (by decide +kernel)) ggL_law_X9_restore
set_option maxRecDepth 20000 in
theorem ggL_law_X10_restore : GoodIn wsL_law wsX10_restore := goodIn_r _ [699, 687, 104, 105, 106, 107, 108, 115, 196, 197, 340, 385, 686, 195, 700, 701, 702, 5, 703, 811, 812, 813, 814, 815, 816, 817, 818, 819, 820, 821, 822, 823, 824, 825, 826, 827, 828, 829, 830, 831, 832, 833, 834, 835, 836, 837, 838, 839, 840] (by decide +kernel) (by decide +kernel)
set_option maxRecDepth 20000 in
theorem gL_law_X10_restore : GoodIn wsL_law (wsV RL 110 RX10 yX10_restore wsX10_restore) := goodIn_app (goodIn_of _ (by decide +kernel)) ggL_law_X10_restore
set_option maxRecDepth 20000 in
theorem ggL_law_X9_sat : GoodIn wsL_law wsX9_sat := goodIn_r _ [707, 207, 37, 20, 151, 235, 25, 583, 708, 280, 281, 282, 2, 283, 154, 261, 211, 212, 213, 635, 636, 637, 709, 710, 711, 36, 712, 713, 714, 715, 716, 717, 718, 719, 584, 585, 586, 24, 587, 73, 588, 589, 590, 591, 54, 592, 189, 63, 64, 65, 66, 284, 267, 268, 269, 720, 601, 602, 603, 71, 604, 77, 605, 606, 607, 50, 608, 183, 59, 184, 325, 609, 180, 181, 182, 610, 432, 433, 434, 435, 436, 437, 438, 439, 440, 441, 76, 442, 443, 444, 445, 446, 302, 303, 304, 447, 333, 334, 335, 448, 449, 450, 451, 83, 84, 452, 453, 454, 455, 403, 404, 456, 457, 458, 459, 460, 461, 462, 331, 169, 170, 721, 722, 723, 724, 725, 99, 726, 218, 803, 804, 805, 806, 807, 808, 809, 810, 846, 847, 848, 866, 867, 868, 869, 849, 850, 851, 852, 853, 854, 855, 870, 871, 872, 873, 874, 862, 863, 864, 865, 875, 876, 877] (by decide +kernel) (by decide +kernel)
set_option maxRecDepth 20000 in
theorem gL_law_X9_sat : GoodIn wsL_law (wsV RL 111 RX9 yX9_sat wsX9_sat) := goodIn_app (goodIn_of _ (by decide +kernel)) ggL_law_X9_sat
set_option maxRecDepth 20000 in
theorem ggL_law_X10_sat : GoodIn wsL_law wsX10_sat := goodIn_r _ [730, 289, 223, 196, 106, 107, 112, 118, 290, 291, 292, 5, 293, 197, 144, 145, 146, 731, 732, 733, 274, 734, 735, 736, 737, 738, 739, 740, 741, 116, 117, 616, 617, 618, 619, 620, 621, 470, 471, 472, 473, 341, 104, 340, 195, 468, 105, 469, 342, 343, 344, 345, 109, 346, 347, 348, 349, 228, 229, 230, 409, 410, 411, 412, 413, 414, 415, 474, 475, 476, 626, 627, 628, 629, 811, 812, 813, 814, 815, 816, 817, 818, 819, 820, 821, 822, 823, 824, 825, 826, 827, 828, 829, 830, 831, 832, 833, 834, 835, 836, 837, 838, 839, 840] (by decide +kernel) (by decide +kernel)
set_option maxRecDepth 20000 in
theorem gL_law_X10_sat : GoodIn wsL_law (wsV RL 115 RX10 yX10_sat wsX10_sat) := goodIn_app (goodIn_of _ (by decide +kernel)) ggL_law_X10_sat
set_option maxRecDepth 20000 in
theorem ggL_law_X9_film : GoodIn wsL_law wsX9_film := goodIn_r _ [745, 20, 151, 37, 235, 746, 236, 211, 212, 2, 213, 709, 710, 711, 36, 712, 713, 714, 715, 716, 717, 718, 719, 803, 804, 805, 806, 807, 808, 809, 810, 846, 847, 848, 866, 867, 868, 869, 862, 863, 864, 865] (by decide +kernel) (by decide +kernel)
set_option maxRecDepth 20000 in
theorem gL_law_X9_film : GoodIn wsL_law (wsV RL 116 RX9 yX9_film wsX9_film) := goodIn_app (goodIn_of _ (by decide +kernel)) ggL_law_X9_film
set_option maxRecDepth 20000 in
theorem ggL_law_X10_film : GoodIn wsL_law wsX10_film := goodIn_r _ [750, 196, 104, 731, 732, 5, 733, 274, 144, 145, 146, 734, 735, 736, 737, 738, 739, 740, 741, 116, 117, 751, 752, 753, 754, 118, 811, 812, 813, 814, 815, 816, 817, 818, 819, 820, 821, 822, 823, 824, 825, 826, 827, 828, 829, 830, 831, 832, 833, 834, 835, 836, 837, 838, 839, 840] (by decide +kernel) (by decide +kernel)
set_option maxRecDepth 20000 in
theorem gL_law_X10_film : GoodIn wsL_law (wsV RL 119 RX10 yX10_film wsX10_film) := goodIn_app (goodIn_of _ (by decide +kernel)) ggL_law_X10_film
set_option maxRecDepth 20000 in
theorem ggL_law_X9_sheet : GoodIn wsL_law wsX9_sheet := goodIn_r _ [758, 37, 211, 212, 2, 213, 759, 760, 761, 36, 762, 713, 714, 719, 99, 803, 804, 805, 806, 807, 808, 809, 810, 862, 863, 864, 865] (by decide +kernel) (by decide +kernel)
set_option maxRecDepth 20000 in
theorem gL_law_X9_sheet : GoodIn wsL_law (wsV RL 120 RX9 yX9_sheet wsX9_sheet) := goodIn_app (goodIn_of _ (by decide +kernel)) ggL_law_X9_sheet
set_option maxRecDepth 20000 in
theorem ggL_law_X10_sheet : GoodIn wsL_law wsX10_sheet := goodIn_r _ [766, 116, 117, 118, 731, 732, 5, 733, 274, 144, 145, 146, 734, 735, 736, 737, 811, 812, 813, 814, 815, 816, 817, 818, 819, 820, 821, 822, 823, 824, 825, 826, 827, 828, 829, 830, 831, 832, 833, 834, 835, 836, 837, 838, 839, 840] (by decide +kernel) (by decide +kernel)
set_option maxRecDepth 20000 in
theorem gL_law_X10_sheet : GoodIn wsL_law (wsV RL 123 RX10 yX10_sheet wsX10_sheet) := goodIn_app (goodIn_of _ (by decide +kernel)) ggL_law_X10_sheet
set_option maxRecDepth 20000 in
theorem ggL_law_X9_drop : GoodIn wsL_law wsX9_drop := goodIn_r _ [770, 37, 771, 772, 211, 212, 2, 213, 803, 804, 805, 806, 807, 808, 809, 810, 862, 863, 864, 865] (by decide +kernel) (by decide +kernel)
set_option maxRecDepth 20000 in
theorem gL_law_X9_drop : GoodIn wsL_law (wsV RL 124 RX9 yX9_drop wsX9_drop) := goodIn_app (goodIn_of _ (by decide +kernel)) ggL_law_X9_drop
set_option maxRecDepth 20000 in
theorem ggL_law_X10_drop : GoodIn wsL_law wsX10_drop := goodIn_r _ [776, 116, 117, 731, 732, 5, 733, 274, 144, 145, 146, 811, 812, 813, 814, 815, 816, 817, 818, 819, 820, 821, 822, 823, 824, 825, 826, 827, 828, 829, 830, 831, 832, 833, 834, 835, 836, 837, 838, 839, 840] (by decide +kernel) (by decide +kernel)
set_option maxRecDepth 20000 in
theorem gL_law_X10_drop : GoodIn wsL_law (wsV RL 127 RX10 yX10_drop wsX10_drop) := goodIn_app (goodIn_of _ (by decide +kernel)) ggL_law_X10_drop
set_option maxRecDepth 20000 in
theorem ggL_law_X9_item : GoodIn wsL_law wsX9_item := goodIn_r _ [780, 37, 211, 212, 2, 213, 709, 710, 711, 36, 712, 713, 714, 715, 716, 717, 718, 719, 781, 782, 783, 784, 99, 803, 804, 805, 806, 807, 808, 809, 810, 862, 863, 864, 865] (by decide +kernel) (by decide +kernel)
set_option maxRecDepth 20000 in
theorem gL_law_X9_item : GoodIn wsL_law (wsV RL 128 RX9 yX9_item wsX9_item) := goodIn_app (goodIn_of _ (by decide +kernel)) ggL_law_X9_item
set_option maxRecDepth 20000 in
theorem ggL_law_X10_item : GoodIn wsL_law wsX10_item := goodIn_r _ [788, 731, 732, 5, 733, 274, 144, 145, 146, 734, 735, 736, 737, 738, 739, 740, 741, 116, 117, 751, 752, 753, 754, 118, 811, 812, 813, 814, 815, 816, 817, 818, 819, 820, 821, 822, 823, 824, 825, 826, 827, 828, 829, 830, 831, 832, 833, 834, 835, 836, 837, 838, 839, 840] (by decide +kernel) (by decide +kernel)
set_option maxRecDepth 20000 in
theorem gL_law_X10_item : GoodIn wsL_law (wsV RL 132 RX10 yX10_item wsX10_item) := goodIn_app (goodIn_of _ (by decide +kernel)) ggL_law_X10_item
set_option maxRecDepth 20000 in
theorem ggL_law_X9_copy : GoodIn wsL_law wsX9_copy := goodIn_r _ [792, 37, 771, 793, 746, 794, 795, 796, 797, 211, 212, 2, 213, 798, 716, 717, 36, 718, 719, 803, 804, 805, 806, 807, 808, 809, 810, 862, 863, 864, 865] (by decide +kernel) (by decide +kernel)
set_option maxRecDepth 20000 in
theorem gL_law_X9_copy : GoodIn wsL_law (wsV RL 133 RX9 yX9_copy wsX9_copy) := goodIn_app (goodIn_of _ (by decide +kernel)) ggL_law_X9_copy
set_option maxRecDepth 20000 in
theorem ggL_law_X10_copy : GoodIn wsL_law wsX10_copy := goodIn_r _ [802, 116, 119, 118, 731, 732, 5, 733, 274, 144, 145, 146, 738, 739, 740, 741, 117, 811, 812, 813, 814, 815, 816, 817, 818, 819, 820, 821, 822, 823, 824, 825, 826, 827, 828, 829, 830, 831, 832, 833, 834, 835, 836, 837, 838, 839, 840] (by decide +kernel) (by decide +kernel)
set_option maxRecDepth 20000 in
theorem gL_law_X10_copy : GoodIn wsL_law (wsV RL 137 RX10 yX10_copy wsX10_copy) := goodIn_app (goodIn_of _ (by decide +kernel)) ggL_law_X10_copy
