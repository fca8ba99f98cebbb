set_option maxRecDepth 20000 in
theorem ggL_law_X4_init : GoodIn wsL_law wsX4_init := goodIn_r _ [9, 10, 11, 12, 13, 14, 15, 16, 17, 18, 19, 20, 21, 22, 23, 24, 25, 26, 27, 28, 29, 30, 31, 32, 33, 34, 35, 36, 37, 38, 39, 40, 41, 42, 43, 44, 45, 46, 47, 48, 49, 50, 51, 52, 53, 54, 55, 56, 57, 58, 59, 838, 839, 840, 841, 842, 816, 817, 818, 819, 820, 821, 822, 843, 844, 845, 846, 847, 848, 849, 850, 851, 852, 853, 854, 855, 856, 857, 858, 859, 860] (by decide +kernel) (by decide +kernel)
theorem gL_law_X4_init : GoodIn wsL_law (wsX4_init) := ggL_law_X4_init
set_option maxRecDepth 20000 in
theorem ggL_law_X5_init : GoodIn wsL_law wsX5_init := goodIn_r _ [62, 63, 11, 12, 33, 64, 65, 66, 67, 68, 69, 70, 71, 72, 73, 823, 824, 825, 826, 827, 828, 829, 830, 831, 832, 833, 834, 835, 836, 837] (by decide +kernel) (by decide +kernel)
theorem gL_law_X5_init : GoodIn wsL_law (wsX5_init) := ggL_law_X5_init
set_option maxRecDepth 20000 in
theorem ggL_law_X4_picture : GoodIn wsL_law wsX4_picture := goodIn_r _ [77, 20, 16, 78, 79, 2, 80, 81, 82, 83, 84, 85, 86, 87, 88, 19, 89, 44, 90, 91, 92, 93, 94, 95, 96, 97, 98, 15, 99, 37, 38, 34, 100, 101, 102, 103, 35, 36, 104, 105, 106, 107, 108, 109, 110, 111, 816, 817, 818, 819, 820, 821, 822, 843, 844, 845, 838, 839, 840, 841, 842] (by decide +kernel) (by decide +kernel)
set_option maxRecDepth 20000 in
theorem gL_law_X4_picture : GoodIn wsL_law (wsV RL 13 RX4 yX4_picture wsX4_picture) := goodIn_app (goodIn_r _ [74, 75, 76, 2] (by decide +kernel) (by decide +kernel)) ggL_law_X4_picture
set_option maxRecDepth 20000 in
theorem ggL_law_X5_picture : GoodIn wsL_law wsX5_picture := goodIn_r _ [115, 64, 116, 117, 5, 118, 119, 120, 121, 122, 66, 123, 124, 125, 126, 127, 65, 128, 129, 130, 131, 132, 133, 134, 823, 824, 825, 826, 827, 828, 829, 830, 831, 832, 833, 834, 835, 836, 837] (by decide +kernel) (by decide +kernel)
set_option maxRecDepth 20000 in
theorem gL_law_X5_picture : GoodIn wsL_law (wsV RL 17 RX5 yX5_picture wsX5_picture) := goodIn_app (goodIn_r _ [112, 113, 114, 5] (by decide +kernel) (by decide +kernel)) ggL_law_X5_picture
set_option maxRecDepth 20000 in
theorem ggL_law_X4_shade : GoodIn wsL_law wsX4_shade := goodIn_r _ [138, 16, 20, 139, 140, 141, 142, 15, 143, 37, 38, 78, 79, 2, 80, 81, 82, 83, 84, 85, 86, 87, 88, 19, 89, 44, 90, 91, 92, 93, 94, 95, 96, 97, 98, 99, 34, 100, 101, 102, 103, 35, 36, 144, 145, 146, 147, 816, 817, 818, 819, 820, 821, 822, 838, 839, 840, 841, 842, 843, 844, 845] (by decide +kernel) (by decide +kernel)
set_option maxRecDepth 20000 in
theorem gL_law_X4_shade : GoodIn wsL_law (wsV RL 18 RX4 yX4_shade wsX4_shade) := goodIn_app (goodIn_r _ [135, 136, 137, 2] (by decide +kernel) (by decide +kernel)) ggL_law_X4_shade
set_option maxRecDepth 20000 in
theorem ggL_law_X5_shade : GoodIn wsL_law wsX5_shade := goodIn_r _ [151, 64, 152, 153, 154, 5, 155, 116, 117, 118, 119, 120, 121, 122, 66, 123, 124, 125, 126, 127, 65, 128, 129, 130, 156, 157, 158, 159, 823, 824, 825, 826, 827, 828, 829, 830, 831, 832, 833, 834, 835, 836, 837] (by decide +kernel) (by decide +kernel)
set_option maxRecDepth 20000 in
theorem gL_law_X5_shade : GoodIn wsL_law (wsV RL 22 RX5 yX5_shade wsX5_shade) := goodIn_app (goodIn_r _ [148, 149, 150, 5] (by decide +kernel) (by decide +kernel)) ggL_law_X5_shade
set_option maxRecDepth 20000 in
theorem ggL_law_X4_draws : GoodIn wsL_law wsX4_draws := goodIn_r _ [163, 164, 20, 16, 165, 166, 167, 139, 168, 78, 79, 2, 80, 81, 82, 83, 84, 85, 86, 87, 88, 19, 89, 44, 90, 91, 92, 93, 94, 95, 96, 97, 98, 15, 99, 37, 38, 34, 100, 101, 102, 103, 35, 36, 108, 109, 110, 111, 816, 817, 818, 819, 820, 821, 822, 838, 839, 840, 841, 842, 843, 844, 845] (by decide +kernel) (by decide +kernel)
set_option maxRecDepth 20000 in
theorem gL_law_X4_draws : GoodIn wsL_law (wsV RL 23 RX4 yX4_draws wsX4_draws) := goodIn_app (goodIn_r _ [160, 161, 162, 2] (by decide +kernel) (by decide +kernel)) ggL_law_X4_draws
set_option maxRecDepth 20000 in
theorem ggL_law_X5_draws : GoodIn wsL_law wsX5_draws := goodIn_r _ [172, 173, 174, 175, 176, 177, 64, 116, 117, 5, 118, 119, 120, 121, 122, 66, 123, 124, 125, 126, 127, 65, 128, 129, 130, 131, 132, 133, 134, 823, 824, 825, 826, 827, 828, 829, 830, 831, 832, 833, 834, 835, 836, 837] (by decide +kernel) (by decide +kernel)
set_option maxRecDepth 20000 in
theorem gL_law_X5_draws : GoodIn wsL_law (wsV RL 26 RX5 yX5_draws wsX5_draws) := goodIn_app (goodIn_r _ [169, 170, 171, 5] (by decide +kernel) (by decide +kernel)) ggL_law_X5_draws
set_option maxRecDepth 20000 in
theorem ggL_law_X4_blot : GoodIn wsL_law wsX4_blot := goodIn_r _ [181, 16, 20, 140, 141, 142, 15, 143, 37, 38, 78, 79, 2, 80, 81, 82, 83, 84, 85, 86, 87, 88, 19, 89, 44, 90, 91, 92, 93, 94, 95, 96, 97, 98, 99, 34, 100, 101, 102, 103, 35, 36, 182, 183, 184, 185, 186, 187, 188, 189, 145, 146, 147, 816, 817, 818, 819, 820, 821, 822, 838, 839, 840, 841, 842, 843, 844, 845] (by decide +kernel) (by decide +kernel)
set_option maxRecDepth 20000 in
theorem gL_law_X4_blot : GoodIn wsL_law (wsV RL 27 RX4 yX4_blot wsX4_blot) := goodIn_app (goodIn_r _ [178, 179, 180, 2] (by decide +kernel) (by decide +kernel)) ggL_law_X4_blot
set_option maxRecDepth 20000 in
theorem ggL_law_X5_blot : GoodIn wsL_law wsX5_blot := goodIn_r _ [193, 64, 152, 153, 154, 5, 155, 116, 117, 118, 119, 120, 121, 122, 66, 123, 124, 125, 126, 127, 65, 128, 129, 130, 131, 132, 133, 134, 194, 195, 196, 823, 824, 825, 826, 827, 828, 829, 830, 831, 832, 833, 834, 835, 836, 837] (by decide +kernel) (by decide +kernel)
set_option maxRecDepth 20000 in
theorem gL_law_X5_blot : GoodIn wsL_law (wsV RL 31 RX5 yX5_blot wsX5_blot) := goodIn_app (goodIn_r _ [190, 191, 192, 5] (by decide +kernel) (by decide +kernel)) ggL_law_X5_blot
set_option maxRecDepth 20000 in
theorem ggL_law_X4_mark : GoodIn wsL_law wsX4_mark := goodIn_r _ [200, 16, 20, 201, 140, 141, 142, 15, 143, 37, 38, 78, 79, 2, 80, 81, 82, 83, 84, 85, 86, 87, 88, 19, 89, 44, 90, 91, 92, 93, 94, 95, 96, 97, 98, 99, 34, 100, 101, 102, 103, 35, 36, 144, 145, 146, 147, 816, 817, 818, 819, 820, 821, 822, 838, 839, 840, 841, 842, 843, 844, 845] (by decide +kernel) (by decide +kernel)
set_option maxRecDepth 20000 in
theorem gL_law_X4_mark : GoodIn wsL_law (wsV RL 32 RX4 yX4_mark wsX4_mark) := goodIn_app (goodIn_r _ [197, 198, 199, 2] (by decide +kernel) (by decide +kernel)) ggL_law_X4_mark
set_option maxRecDepth 20000 in
theorem ggL_law_X5_mark : GoodIn wsL_law wsX5_mark := goodIn_r _ [205, 64, 152, 153, 154, 5, 155, 116, 117, 118, 119, 120, 121, 122, 66, 123, 124, 125, 126, 127, 65, 128, 129, 130, 156, 157, 158, 159, 823, 824, 825, 826, 827, 828, 829, 830, 831, 832, 833, 834, 835, 836, 837] (by decide +kernel) (by decide +kernel)
set_option maxRecDepth 20000 in
theorem gL_law_X5_mark : GoodIn wsL_law (wsV RL 35 RX5 yX5_mark wsX5_mark) := goodIn_app (goodIn_r _ [202, 203, 204, 5] (by decide +kernel) (by decide +kernel)) ggL_law_X5_mark
set_option maxRecDepth 20000 in
theorem ggL_law_X4_stroke : GoodIn wsL_law wsX4_stroke := goodIn_r _ [209, 16, 20, 78, 79, 2, 80, 140, 141, 142, 15, 143, 37, 38, 81, 82, 83, 84, 85, 86, 87, 88, 19, 89, 44, 90, 91, 92, 93, 94, 95, 96, 97, 98, 99, 34, 100, 101, 102, 103, 35, 36, 210, 211, 212, 213, 186, 187, 188, 214, 215, 216, 189, 145, 146, 147, 217, 218, 219, 220, 221, 222, 223, 224, 225, 109, 110, 111, 226, 227, 816, 817, 818, 819, 820, 821, 822, 838, 839, 840, 841, 842, 843, 844, 845] (by decide +kernel) (by decide +kernel)
set_option maxRecDepth 20000 in
theorem gL_law_X4_stroke : GoodIn wsL_law (wsV RL 36 RX4 yX4_stroke wsX4_stroke) := goodIn_app (goodIn_r _ [206, 207, 208, 2] (by decide +kernel) (by decide +kernel)) ggL_law_X4_stroke
set_option maxRecDepth 20000 in
theorem ggL_law_X5_stroke : GoodIn wsL_law wsX5_stroke := goodIn_r _ [231, 116, 117, 5, 118, 152, 153, 154, 155, 64, 119, 120, 121, 122, 66, 123, 124, 125, 126, 127, 65, 128, 129, 130, 232, 233, 234, 235, 194, 195, 196, 236, 237, 238, 156, 157, 158, 159, 823, 824, 825, 826, 827, 828, 829, 830, 831, 832, 833, 834, 835, 836, 837] (by decide +kernel) (by decide +kernel)
set_option maxRecDepth 20000 in
theorem gL_law_X5_stroke : GoodIn wsL_law (wsV RL 40 RX5 yX5_stroke wsX5_stroke) := goodIn_app (goodIn_r _ [228, 229, 230, 5] (by decide +kernel) (by decide +kernel)) ggL_law_X5_stroke
set_option maxRecDepth 20000 in
theorem ggL_law_X4_sets : GoodIn wsL_law wsX4_sets := goodIn_r _ [242, 20, 16, 243, 244, 245, 2, 246, 247, 248, 78, 79, 80, 81, 82, 83, 84, 85, 86, 87, 88, 19, 89, 44, 90, 91, 92, 93, 94, 95, 96, 97, 98, 15, 99, 37, 38, 34, 100, 101, 102, 103, 35, 36, 816, 817, 818, 819, 820, 821, 822, 838, 839, 840, 841, 842, 843, 844, 845] (by decide +kernel) (by decide +kernel)
set_option maxRecDepth 20000 in
theorem gL_law_X4_sets : GoodIn wsL_law (wsV RL 41 RX4 yX4_sets wsX4_sets) := goodIn_app (goodIn_r _ [239, 240, 241, 2] (by decide +kernel) (by decide +kernel)) ggL_law_X4_sets
set_option maxRecDepth 20000 in
theorem ggL_law_X5_sets : GoodIn wsL_law wsX5_sets := goodIn_r _ [252, 64, 253, 254, 5, 255, 116, 117, 118, 119, 120, 121, 122, 66, 123, 124, 125, 126, 127, 65, 128, 129, 130, 823, 824, 825, 826, 827, 828, 829, 830, 831, 832, 833, 834, 835, 836, 837] (by decide +kernel) (by decide +kernel)
set_option maxRecDepth 20000 in
theorem gL_law_X5_sets : GoodIn wsL_law (wsV RL 44 RX5 yX5_sets wsX5_sets) := goodIn_app (goodIn_r _ [249, 250, 251, 5] (by decide +kernel) (by decide +kernel)) ggL_law_X5_sets
set_option maxRecDepth 20000 in
theorem ggL_law_X4_dot : GoodIn wsL_law wsX4_dot := goodIn_r _ [259, 16, 139, 201, 140, 141, 142, 15, 143, 37, 38, 81, 82, 83, 2, 84, 85, 144, 145, 146, 147, 260, 261, 262, 263, 34, 35, 186, 187, 94, 188, 816, 817, 818, 819, 820, 821, 822, 838, 839, 840, 841, 842] (by decide +kernel) (by decide +kernel)
set_option maxRecDepth 20000 in
theorem gL_law_X4_dot : GoodIn wsL_law (wsV RL 45 RX4 yX4_dot wsX4_dot) := goodIn_app (goodIn_r _ [256, 257, 258, 2] (by decide +kernel) (by decide +kernel)) ggL_law_X4_dot
set_option maxRecDepth 20000 in
theorem ggL_law_X5_dot : GoodIn wsL_law wsX5_dot := goodIn_r _ [267, 64, 152, 153, 154, 5, 155, 116, 117, 118, 119, 120, 121, 122, 66, 156, 157, 158, 159, 268, 269, 270, 271, 194, 195, 196, 823, 824, 825, 826, 827, 828, 829, 830, 831, 832, 833, 834, 835, 836, 837] (by decide +kernel) (by decide +kernel)
set_option maxRecDepth 20000 in
theorem gL_law_X5_dot : GoodIn wsL_law (wsV RL 48 RX5 yX5_dot wsX5_dot) := goodIn_app (goodIn_r _ [264, 265, 266, 5] (by decide +kernel) (by decide +kernel)) ggL_law_X5_dot
set_option maxRecDepth 20000 in
theorem ggL_law_X4_link : GoodIn wsL_law wsX4_link := goodIn_r _ [275, 16, 276, 277, 278, 2, 279, 140, 141, 142, 15, 143, 37, 38, 78, 79, 80, 81, 82, 83, 84, 85, 280, 281, 282, 283, 34, 284, 189, 145, 146, 147, 144, 285, 286, 287, 288, 35, 186, 187, 94, 188, 214, 215, 216, 816, 817, 818, 819, 820, 821, 822, 838, 839, 840, 841, 842] (by decide +kernel) (by decide +kernel)
set_option maxRecDepth 20000 in
theorem gL_law_X4_link : GoodIn wsL_law (wsV RL 49 RX4 yX4_link wsX4_link) := goodIn_app (goodIn_r _ [272, 273, 274, 2] (by decide +kernel) (by decide +kernel)) ggL_law_X4_link
set_option maxRecDepth 20000 in
theorem ggL_law_X5_link : GoodIn wsL_law wsX5_link := goodIn_r _ [292, 293, 294, 295, 5, 296, 152, 153, 154, 155, 64, 116, 117, 118, 119, 120, 121, 122, 66, 156, 157, 158, 159, 297, 298, 299, 300, 301, 302, 303, 304, 68, 305, 194, 195, 196, 823, 824, 825, 826, 827, 828, 829, 830, 831, 832, 833, 834, 835, 836, 837] (by decide +kernel) (by decide +kernel)
set_option maxRecDepth 20000 in
theorem gL_law_X5_link : GoodIn wsL_law (wsV RL 52 RX5 yX5_link wsX5_link) := goodIn_app (goodIn_r _ [289, 290, 291, 5] (by decide +kernel) (by decide +kernel)) ggL_law_X5_link
set_option maxRecDepth 20000 in
theorem ggL_law_X4_cost : GoodIn wsL_law wsX4_cost := goodIn_r _ [309, 24, 16, 310, 311, 312, 23, 313, 314, 315, 316, 317, 318, 51, 319, 320, 321, 322, 109, 110, 15, 111, 37, 38, 323, 145, 146, 147, 324, 325, 326, 327, 49, 328, 50, 329, 261, 262, 263, 34, 35, 186, 187, 94, 188, 330, 281, 282, 283, 284, 141, 142, 143, 189, 331, 286, 287, 288, 214, 215, 216, 332, 333, 334, 335, 52, 336, 337, 338, 339, 340, 341, 342, 53, 343, 344, 345, 346, 347, 54, 348, 349, 350, 351, 352, 353, 354, 355, 93, 95, 356, 357, 358, 359, 816, 817, 818, 819, 820, 821, 822, 846, 847, 848, 849, 850, 851, 852, 853, 838, 839, 840, 841, 842] (by decide +kernel) (by decide +kernel)
set_option maxRecDepth 20000 in
theorem gL_law_X4_cost : GoodIn wsL_law (wsV RL 53 RX4 yX4_cost wsX4_cost) := goodIn_app (goodIn_r _ [306, 307, 308, 2] (by decide +kernel) (by decide +kernel)) ggL_law_X4_cost
set_option maxRecDepth 20000 in
theorem ggL_law_X5_cost : GoodIn wsL_law wsX5_cost := goodIn_r _ [363, 364, 365, 366, 5, 367, 368, 369, 370, 371, 64, 69, 128, 129, 130, 372, 373, 374, 375, 70, 376, 71, 131, 132, 133, 134, 377, 378, 379, 380, 381, 382, 383, 384, 268, 269, 270, 271, 194, 195, 196, 385, 386, 387, 388, 301, 302, 303, 304, 68, 305, 297, 298, 299, 300, 152, 153, 154, 155, 116, 117, 118, 156, 157, 158, 159, 823, 824, 825, 826, 827, 828, 829, 830, 831, 832, 833, 834, 835, 836, 837] (by decide +kernel) (by decide +kernel)
set_option maxRecDepth 20000 in
theorem gL_law_X5_cost : GoodIn wsL_law (wsV RL 57 RX5 yX5_cost wsX5_cost) := goodIn_app (goodIn_r _ [360, 361, 362, 5] (by decide +kernel) (by decide +kernel)) ggL_law_X5_cost
set_option maxRecDepth 20000 in
theorem ggL_law_X4_side : GoodIn wsL_law wsX4_side := goodIn_r _ [392, 24, 16, 78, 79, 2, 80, 81, 82, 83, 84, 85, 310, 311, 312, 23, 313, 314, 315, 316, 317, 318, 51, 319, 320, 321, 322, 109, 110, 15, 111, 37, 38, 323, 145, 146, 147, 324, 325, 326, 327, 49, 328, 50, 329, 261, 262, 263, 34, 35, 186, 187, 94, 188, 330, 281, 282, 283, 284, 141, 142, 143, 189, 331, 286, 287, 288, 214, 215, 216, 332, 333, 334, 335, 52, 336, 337, 338, 339, 340, 341, 342, 53, 343, 344, 345, 346, 347, 54, 348, 349, 350, 351, 352, 353, 354, 355, 93, 95, 356, 357, 358, 359, 393, 394, 395, 396, 397, 398, 399, 400, 226, 227, 401, 402, 403, 404, 816, 817, 818, 819, 820, 821, 822, 846, 847, 848, 849, 850, 851, 852, 853, 838, 839, 840, 841, 842] (by decide +kernel) (by decide +kernel)
set_option maxRecDepth 20000 in
theorem gL_law_X4_side : GoodIn wsL_law (wsV RL 58 RX4 yX4_side wsX4_side) := goodIn_app (goodIn_r _ [389, 390, 391, 2] (by decide +kernel) (by decide +kernel)) ggL_law_X4_side
set_option maxRecDepth 20000 in
theorem ggL_law_X5_side : GoodIn wsL_law wsX5_side := goodIn_r _ [408, 116, 117, 5, 118, 409, 410, 411, 412, 364, 365, 366, 367, 368, 369, 370, 371, 64, 69, 128, 129, 130, 372, 373, 374, 375, 70, 376, 71, 131, 132, 133, 134, 377, 378, 379, 380, 381, 382, 383, 384, 268, 269, 270, 271, 194, 195, 196, 385, 386, 387, 388, 301, 302, 303, 304, 68, 305, 297, 298, 299, 300, 152, 153, 154, 155, 156, 157, 158, 159, 413, 414, 415, 416, 417, 418, 419, 420, 119, 120, 121, 122, 66, 823, 824, 825, 826, 827, 828, 829, 830, 831, 832, 833, 834, 835, 836, 837] (by decide +kernel) (by decide +kernel)
set_option maxRecDepth 20000 in
theorem gL_law_X5_side : GoodIn wsL_law (wsV RL 62 RX5 yX5_side wsX5_side) := goodIn_app (goodIn_r _ [405, 406, 407, 5] (by decide +kernel) (by decide +kernel)) ggL_law_X5_side
set_option maxRecDepth 20000 in
theorem ggL_law_X4_sure : GoodIn wsL_law wsX4_sure := goodIn_r _ [424, 16, 24, 140, 141, 142, 15, 143, 37, 38, 81, 82, 83, 2, 84, 85, 310, 311, 312, 23, 313, 314, 315, 316, 317, 318, 51, 319, 320, 321, 322, 109, 110, 111, 323, 145, 146, 147, 324, 325, 326, 327, 49, 328, 50, 329, 261, 262, 263, 34, 35, 186, 187, 94, 188, 330, 281, 282, 283, 284, 189, 331, 286, 287, 288, 214, 215, 216, 332, 333, 334, 335, 52, 336, 337, 338, 339, 340, 341, 342, 53, 343, 344, 345, 346, 347, 54, 348, 349, 350, 351, 352, 353, 354, 355, 93, 95, 356, 357, 358, 359, 144, 393, 394, 395, 396, 397, 398, 399, 400, 226, 227, 425, 401, 402, 403, 404, 816, 817, 818, 819, 820, 821, 822, 838, 839, 840, 841, 842, 846, 847, 848, 849, 850, 851, 852, 853] (by decide +kernel) (by decide +kernel)
set_option maxRecDepth 20000 in
theorem gL_law_X4_sure : GoodIn wsL_law (wsV RL 63 RX4 yX4_sure wsX4_sure) := goodIn_app (goodIn_r _ [421, 422, 423, 2] (by decide +kernel) (by decide +kernel)) ggL_law_X4_sure
set_option maxRecDepth 20000 in
theorem ggL_law_X5_sure : GoodIn wsL_law wsX5_sure := goodIn_r _ [429, 152, 153, 154, 5, 155, 64, 116, 117, 118, 119, 120, 121, 122, 66, 364, 365, 366, 367, 368, 369, 370, 371, 69, 128, 129, 130, 372, 373, 374, 375, 70, 376, 71, 131, 132, 133, 134, 377, 378, 379, 380, 381, 382, 383, 384, 268, 269, 270, 271, 194, 195, 196, 385, 386, 387, 388, 301, 302, 303, 304, 68, 305, 297, 298, 299, 300, 156, 157, 158, 159, 413, 414, 415, 416, 417, 418, 419, 420, 823, 824, 825, 826, 827, 828, 829, 830, 831, 832, 833, 834, 835, 836, 837] (by decide +kernel) (by decide +kernel)
set_option maxRecDepth 20000 in
theorem gL_law_X5_sure : GoodIn wsL_law (wsV RL 66 RX5 yX5_sure wsX5_sure) := goodIn_app (goodIn_r _ [426, 427, 428, 5] (by decide +kernel) (by decide +kernel)) ggL_law_X5_sure
set_option maxRecDepth 20000 in
theorem ggL_law_X4_were : GoodIn wsL_law wsX4_were := goodIn_r _ [433, 16, 24, 140, 141, 142, 15, 143, 37, 38, 78, 79, 2, 80, 81, 82, 83, 84, 85, 434, 315, 316, 23, 317, 318, 51, 319, 320, 321, 322, 109, 110, 111, 323, 145, 146, 147, 324, 325, 326, 327, 49, 328, 50, 329, 261, 262, 263, 34, 35, 186, 187, 94, 188, 330, 281, 282, 283, 284, 189, 331, 286, 287, 288, 214, 215, 216, 332, 333, 334, 335, 52, 336, 337, 338, 144, 435, 436, 340, 341, 342, 53, 343, 344, 345, 346, 347, 54, 348, 349, 350, 351, 352, 353, 354, 355, 93, 95, 356, 357, 358, 359, 816, 817, 818, 819, 820, 821, 822, 838, 839, 840, 841, 842, 846, 847, 848, 849, 850, 851, 852, 853] (by decide +kernel) (by decide +kernel)
set_option maxRecDepth 20000 in
theorem gL_law_X4_were : GoodIn wsL_law (wsV RL 67 RX4 yX4_were wsX4_were) := goodIn_app (goodIn_r _ [430, 431, 432, 2] (by decide +kernel) (by decide +kernel)) ggL_law_X4_were
