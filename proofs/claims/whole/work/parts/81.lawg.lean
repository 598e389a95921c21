set_option maxRecDepth 20000 in
theorem ggL_law_X6_init : GoodIn wsL_law wsX6_init := goodIn_r _ [9, 10, 11, 12, 13, 14, 15, 16, 17, 18, 19, 20, 21, 22, 23, 24, 25, 26, 27, 28, 29, 30, 31, 32, 33, 34, 35, 36, 37, 38, 39, 40, 41, 42, 43, 44, 45, 46, 47, 48, 49, 50, 51, 52, 53, 54, 55, 56, 57, 58, 59, 60, 61, 62, 63, 64, 65, 66, 67, 68, 69, 70, 71, 72, 73, 74, 75, 76, 77, 78, 79, 80, 81, 82, 83, 84, 85, 86, 87, 919, 920, 921, 922, 923, 924, 925, 926, 927, 928, 883, 884, 885, 886, 887, 888, 889, 890, 929, 930, 931, 932, 933, 934, 935, 936, 937, 938, 939, 940, 941, 942, 943, 944, 945, 946, 947] (by decide +kernel) (by decide +kernel)
set_option maxRecDepth 20000 in
theorem gL_law_X6_init : GoodIn wsL_law (wsX6_init) := ggL_law_X6_init
set_option maxRecDepth 20000 in
theorem ggL_law_X7_init : GoodIn wsL_law wsX7_init := goodIn_r _ [90, 91, 11, 12, 42, 92, 93, 94, 95, 96, 97, 98, 99, 100, 101, 102, 103, 104, 52, 105, 106, 107, 108, 109, 110, 111, 112, 113, 114, 115, 891, 892, 893, 894, 895, 896, 897, 898, 899, 900, 901, 902, 903, 904, 905, 906, 907, 908, 909, 910, 911, 912, 913, 914, 915, 916, 917, 918] (by decide +kernel) (by decide +kernel)
set_option maxRecDepth 20000 in
theorem gL_law_X7_init : GoodIn wsL_law (wsX7_init) := ggL_law_X7_init
set_option maxRecDepth 20000 in
theorem ggL_law_X6_lives : GoodIn wsL_law wsX6_lives := goodIn_r _ [119, 120, 121, 16, 122, 123, 124, 2, 125, 883, 884, 885, 886, 887, 888, 889, 890, 919, 920, 921, 922, 923, 924, 925, 926, 927, 928] (by decide +kernel) (by decide +kernel)
set_option maxRecDepth 20000 in
theorem gL_law_X6_lives : GoodIn wsL_law (wsV RL 13 RX6 yX6_lives wsX6_lives) := goodIn_app (goodIn_r _ [116, 117, 118, 2] (by decide +kernel) (by decide +kernel)) ggL_law_X6_lives
set_option maxRecDepth 20000 in
theorem ggL_law_X7_lives : GoodIn wsL_law wsX7_lives := goodIn_r _ [129, 130, 131, 92, 132, 133, 5, 134, 891, 892, 893, 894, 895, 896, 897, 898, 899, 900, 901, 902, 903, 904, 905, 906, 907, 908, 909, 910, 911, 912, 913, 914, 915, 916, 917, 918] (by decide +kernel) (by decide +kernel)
set_option maxRecDepth 20000 in
theorem gL_law_X7_lives : GoodIn wsL_law (wsV RL 17 RX7 yX7_lives wsX7_lives) := goodIn_app (goodIn_r _ [126, 127, 128, 5] (by decide +kernel) (by decide +kernel)) ggL_law_X7_lives
set_option maxRecDepth 20000 in
theorem ggL_law_X6_set : GoodIn wsL_law wsX6_set := goodIn_r _ [138, 139, 16, 140, 141, 142, 123, 124, 2, 125, 883, 884, 885, 886, 887, 888, 889, 890, 919, 920, 921, 922, 923, 924, 925, 926, 927, 928] (by decide +kernel) (by decide +kernel)
set_option maxRecDepth 20000 in
theorem gL_law_X6_set : GoodIn wsL_law (wsV RL 18 RX6 yX6_set wsX6_set) := goodIn_app (goodIn_r _ [135, 136, 137, 2] (by decide +kernel) (by decide +kernel)) ggL_law_X6_set
set_option maxRecDepth 20000 in
theorem ggL_law_X7_set : GoodIn wsL_law wsX7_set := goodIn_r _ [146, 147, 148, 94, 149, 132, 133, 5, 134, 891, 892, 893, 894, 895, 896, 897, 898, 899, 900, 901, 902, 903, 904, 905, 906, 907, 908, 909, 910, 911, 912, 913, 914, 915, 916, 917, 918] (by decide +kernel) (by decide +kernel)
set_option maxRecDepth 20000 in
theorem gL_law_X7_set : GoodIn wsL_law (wsV RL 21 RX7 yX7_set wsX7_set) := goodIn_app (goodIn_r _ [143, 144, 145, 5] (by decide +kernel) (by decide +kernel)) ggL_law_X7_set
set_option maxRecDepth 20000 in
theorem ggL_law_X6_will : GoodIn wsL_law wsX6_will := goodIn_r _ [153, 120, 154, 16, 155, 156, 157, 158, 2, 159, 160, 123, 124, 125, 161, 162, 163, 32, 164, 165, 166, 167, 168, 169, 66, 67, 68, 69, 170, 883, 884, 885, 886, 887, 888, 889, 890, 919, 920, 921, 922, 923, 924, 925, 926, 927, 928, 940, 941, 942, 943, 944] (by decide +kernel) (by decide +kernel)
set_option maxRecDepth 20000 in
theorem gL_law_X6_will : GoodIn wsL_law (wsV RL 22 RX6 yX6_will wsX6_will) := goodIn_app (goodIn_r _ [150, 151, 152, 2] (by decide +kernel) (by decide +kernel)) ggL_law_X6_will
set_option maxRecDepth 20000 in
theorem ggL_law_X7_will : GoodIn wsL_law wsX7_will := goodIn_r _ [174, 130, 175, 176, 177, 178, 5, 179, 180, 132, 133, 134, 181, 182, 183, 184, 95, 96, 97, 98, 891, 892, 893, 894, 895, 896, 897, 898, 899, 900, 901, 902, 903, 904, 905, 906, 907, 908, 909, 910, 911, 912, 913, 914, 915, 916, 917, 918] (by decide +kernel) (by decide +kernel)
set_option maxRecDepth 20000 in
theorem gL_law_X7_will : GoodIn wsL_law (wsV RL 26 RX7 yX7_will wsX7_will) := goodIn_app (goodIn_r _ [171, 172, 173, 5] (by decide +kernel) (by decide +kernel)) ggL_law_X7_will
set_option maxRecDepth 20000 in
theorem ggL_law_X6_had : GoodIn wsL_law wsX6_had := goodIn_r _ [188, 16, 155, 189, 154, 190, 191, 192, 193, 32, 194, 165, 123, 124, 2, 125, 883, 884, 885, 886, 887, 888, 889, 890, 919, 920, 921, 922, 923, 924, 925, 926, 927, 928, 940, 941, 942, 943, 944] (by decide +kernel) (by decide +kernel)
set_option maxRecDepth 20000 in
theorem gL_law_X6_had : GoodIn wsL_law (wsV RL 27 RX6 yX6_had wsX6_had) := goodIn_app (goodIn_r _ [185, 186, 187, 2] (by decide +kernel) (by decide +kernel)) ggL_law_X6_had
set_option maxRecDepth 20000 in
theorem ggL_law_X7_had : GoodIn wsL_law wsX7_had := goodIn_r _ [198, 199, 175, 98, 200, 201, 202, 5, 203, 176, 132, 133, 134, 891, 892, 893, 894, 895, 896, 897, 898, 899, 900, 901, 902, 903, 904, 905, 906, 907, 908, 909, 910, 911, 912, 913, 914, 915, 916, 917, 918] (by decide +kernel) (by decide +kernel)
set_option maxRecDepth 20000 in
theorem gL_law_X7_had : GoodIn wsL_law (wsV RL 31 RX7 yX7_had wsX7_had) := goodIn_app (goodIn_r _ [195, 196, 197, 5] (by decide +kernel) (by decide +kernel)) ggL_law_X7_had
set_option maxRecDepth 20000 in
theorem ggL_law_X6_told : GoodIn wsL_law wsX6_told := goodIn_r _ [207, 16, 155, 208, 209, 210, 191, 192, 193, 32, 194, 165, 211, 212, 213, 15, 214, 47, 215, 49, 216, 217, 218, 219, 220, 221, 222, 223, 224, 225, 226, 227, 228, 229, 230, 231, 232, 233, 234, 235, 43, 236, 237, 238, 239, 240, 45, 241, 242, 243, 244, 245, 246, 883, 884, 885, 886, 887, 888, 889, 890, 919, 920, 921, 922, 923, 924, 925, 926, 927, 928, 940, 941, 942, 943, 944, 936, 937, 938, 939] (by decide +kernel) (by decide +kernel)
set_option maxRecDepth 20000 in
theorem gL_law_X6_told : GoodIn wsL_law (wsV RL 32 RX6 yX6_told wsX6_told) := goodIn_app (goodIn_r _ [204, 205, 206, 2] (by decide +kernel) (by decide +kernel)) ggL_law_X6_told
set_option maxRecDepth 20000 in
theorem ggL_law_X7_told : GoodIn wsL_law wsX7_told := goodIn_r _ [250, 180, 95, 96, 97, 200, 201, 202, 5, 203, 176, 132, 133, 134, 251, 252, 253, 254, 102, 98, 255, 256, 257, 258, 100, 101, 259, 260, 261, 262, 99, 263, 264, 265, 266, 94, 149, 92, 267, 268, 269, 270, 891, 892, 893, 894, 895, 896, 897, 898, 899, 900, 901, 902, 903, 904, 905, 906, 907, 908, 909, 910, 911, 912, 913, 914, 915, 916, 917, 918] (by decide +kernel) (by decide +kernel)
set_option maxRecDepth 20000 in
theorem gL_law_X7_told : GoodIn wsL_law (wsV RL 35 RX7 yX7_told wsX7_told) := goodIn_app (goodIn_r _ [247, 248, 249, 5] (by decide +kernel) (by decide +kernel)) ggL_law_X7_told
set_option maxRecDepth 20000 in
theorem ggL_law_X6_burn : GoodIn wsL_law wsX6_burn := goodIn_r _ [274, 16, 155, 156, 191, 192, 193, 32, 194, 165, 275, 276, 277, 278, 279, 280, 281, 282, 283, 66, 284, 285, 286, 287, 67, 68, 69, 883, 884, 885, 886, 887, 888, 889, 890, 919, 920, 921, 922, 923, 924, 925, 926, 927, 928, 940, 941, 942, 943, 944] (by decide +kernel) (by decide +kernel)
set_option maxRecDepth 20000 in
theorem gL_law_X6_burn : GoodIn wsL_law (wsV RL 36 RX6 yX6_burn wsX6_burn) := goodIn_app (goodIn_r _ [271, 272, 273, 2] (by decide +kernel) (by decide +kernel)) ggL_law_X6_burn
set_option maxRecDepth 20000 in
theorem ggL_law_X7_burn : GoodIn wsL_law wsX7_burn := goodIn_r _ [291, 176, 95, 96, 97, 98, 200, 201, 202, 5, 203, 132, 133, 134, 891, 892, 893, 894, 895, 896, 897, 898, 899, 900, 901, 902, 903, 904, 905, 906, 907, 908, 909, 910, 911, 912, 913, 914, 915, 916, 917, 918] (by decide +kernel) (by decide +kernel)
set_option maxRecDepth 20000 in
theorem gL_law_X7_burn : GoodIn wsL_law (wsV RL 40 RX7 yX7_burn wsX7_burn) := goodIn_app (goodIn_r _ [288, 289, 290, 5] (by decide +kernel) (by decide +kernel)) ggL_law_X7_burn
set_option maxRecDepth 20000 in
theorem ggL_law_X6_type : GoodIn wsL_law wsX6_type := goodIn_r _ [295, 296, 297, 298, 25, 299, 123, 124, 2, 125, 300, 301, 302, 303, 304, 305, 306, 24, 307, 308, 309, 310, 311, 312, 79, 313, 883, 884, 885, 886, 887, 888, 889, 890, 933, 934, 935] (by decide +kernel) (by decide +kernel)
set_option maxRecDepth 20000 in
theorem gL_law_X6_type : GoodIn wsL_law (wsV RL 43 RX6 yX6_type wsX6_type) := goodIn_app (goodIn_r _ [292, 293, 294, 2] (by decide +kernel) (by decide +kernel)) ggL_law_X6_type
set_option maxRecDepth 20000 in
theorem ggL_law_X7_type : GoodIn wsL_law wsX7_type := goodIn_r _ [317, 318, 319, 320, 321, 322, 107, 132, 133, 5, 134, 891, 892, 893, 894, 895, 896, 897, 898, 899, 900, 901, 902, 903, 904, 905, 906, 907, 908, 909, 910, 911, 912, 913, 914, 915, 916, 917, 918] (by decide +kernel) (by decide +kernel)
set_option maxRecDepth 20000 in
theorem gL_law_X7_type : GoodIn wsL_law (wsV RL 47 RX7 yX7_type wsX7_type) := goodIn_app (goodIn_r _ [314, 315, 316, 5] (by decide +kernel) (by decide +kernel)) ggL_law_X7_type
set_option maxRecDepth 20000 in
theorem ggL_law_X6_rules : GoodIn wsL_law wsX6_rules := goodIn_r _ [326, 29, 16, 327, 25, 328, 329, 330, 28, 331, 59, 332, 285, 286, 287, 60, 61, 62, 333, 334, 335, 24, 336, 337, 338, 339, 340, 341, 342, 343, 344, 345, 346, 347, 348, 349, 350, 308, 79, 124, 2, 125, 351, 352, 353, 354, 355, 356, 357, 358, 359, 360, 361, 362, 363, 364, 365, 366, 367, 368, 369, 370, 371, 372, 373, 374, 375, 376, 377, 378, 379, 380, 883, 884, 885, 886, 887, 888, 889, 890, 919, 920, 921, 922, 923, 924, 925, 926, 927, 928, 936, 937, 938, 939, 933, 934, 935] (by decide +kernel) (by decide +kernel)
set_option maxRecDepth 20000 in
theorem gL_law_X6_rules : GoodIn wsL_law (wsV RL 48 RX6 yX6_rules wsX6_rules) := goodIn_app (goodIn_r _ [323, 324, 325, 2] (by decide +kernel) (by decide +kernel)) ggL_law_X6_rules
set_option maxRecDepth 20000 in
theorem ggL_law_X7_rules : GoodIn wsL_law wsX7_rules := goodIn_r _ [384, 108, 99, 100, 101, 102, 385, 386, 387, 5, 388, 389, 390, 322, 391, 392, 393, 394, 395, 396, 397, 398, 399, 400, 401, 402, 403, 107, 132, 133, 134, 404, 405, 406, 407, 408, 409, 410, 411, 412, 93, 413, 414, 415, 416, 891, 892, 893, 894, 895, 896, 897, 898, 899, 900, 901, 902, 903, 904, 905, 906, 907, 908, 909, 910, 911, 912, 913, 914, 915, 916, 917, 918] (by decide +kernel) (by decide +kernel)
set_option maxRecDepth 20000 in
theorem gL_law_X7_rules : GoodIn wsL_law (wsV RL 52 RX7 yX7_rules wsX7_rules) := goodIn_app (goodIn_r _ [381, 382, 383, 5] (by decide +kernel) (by decide +kernel)) ggL_law_X7_rules
set_option maxRecDepth 20000 in
theorem ggL_law_X6_rule : GoodIn wsL_law wsX6_rule := goodIn_r _ [420, 16, 327, 421, 422, 423, 424, 157, 158, 2, 159, 160, 123, 124, 125, 883, 884, 885, 886, 887, 888, 889, 890, 919, 920, 921, 922, 923, 924, 925, 926, 927, 928, 936, 937, 938, 939] (by decide +kernel) (by decide +kernel)
set_option maxRecDepth 20000 in
theorem gL_law_X6_rule : GoodIn wsL_law (wsV RL 53 RX6 yX6_rule wsX6_rule) := goodIn_app (goodIn_r _ [417, 418, 419, 2] (by decide +kernel) (by decide +kernel)) ggL_law_X6_rule
set_option maxRecDepth 20000 in
theorem ggL_law_X7_rule : GoodIn wsL_law wsX7_rule := goodIn_r _ [428, 199, 99, 100, 101, 102, 177, 178, 5, 179, 180, 132, 133, 134, 891, 892, 893, 894, 895, 896, 897, 898, 899, 900, 901, 902, 903, 904, 905, 906, 907, 908, 909, 910, 911, 912, 913, 914, 915, 916, 917, 918] (by decide +kernel) (by decide +kernel)
set_option maxRecDepth 20000 in
theorem gL_law_X7_rule : GoodIn wsL_law (wsV RL 56 RX7 yX7_rule wsX7_rule) := goodIn_app (goodIn_r _ [425, 426, 427, 5] (by decide +kernel) (by decide +kernel)) ggL_law_X7_rule
set_option maxRecDepth 20000 in
theorem ggL_law_X6_wills : GoodIn wsL_law wsX6_wills := goodIn_r _ [432, 33, 156, 25, 16, 155, 433, 434, 435, 24, 436, 337, 437, 438, 439, 440, 343, 344, 345, 346, 347, 348, 349, 350, 308, 79, 124, 2, 125, 351, 352, 353, 354, 359, 360, 361, 362, 363, 364, 365, 366, 367, 368, 441, 167, 168, 32, 169, 66, 165, 67, 68, 69, 170, 162, 163, 164, 442, 443, 444, 445, 446, 447, 355, 356, 357, 358, 373, 374, 375, 376, 377, 378, 379, 380, 161, 448, 449, 450, 451, 280, 281, 282, 283, 284, 285, 286, 287, 883, 884, 885, 886, 887, 888, 889, 890, 940, 941, 942, 943, 944, 919, 920, 921, 922, 923, 924, 925, 926, 927, 928, 933, 934, 935] (by decide +kernel) (by decide +kernel)
set_option maxRecDepth 20000 in
theorem gL_law_X6_wills : GoodIn wsL_law (wsV RL 57 RX6 yX6_wills wsX6_wills) := goodIn_app (goodIn_r _ [429, 430, 431, 2] (by decide +kernel) (by decide +kernel)) ggL_law_X6_wills
set_option maxRecDepth 20000 in
theorem ggL_law_X7_wills : GoodIn wsL_law wsX7_wills := goodIn_r _ [455, 176, 108, 385, 386, 387, 5, 388, 389, 390, 322, 391, 392, 393, 394, 395, 396, 397, 398, 399, 400, 401, 402, 403, 107, 132, 133, 134, 404, 405, 406, 407, 408, 409, 410, 411, 412, 93, 413, 414, 415, 416, 181, 182, 183, 184, 95, 96, 97, 98, 891, 892, 893, 894, 895, 896, 897, 898, 899, 900, 901, 902, 903, 904, 905, 906, 907, 908, 909, 910, 911, 912, 913, 914, 915, 916, 917, 918] (by decide +kernel) (by decide +kernel)
set_option maxRecDepth 20000 in
theorem gL_law_X7_wills : GoodIn wsL_law (wsV RL 60 RX7 yX7_wills wsX7_wills) := goodIn_app (goodIn_r _ [452, 453, 454, 5] (by decide +kernel) (by decide +kernel)) ggL_law_X7_wills
set_option maxRecDepth 20000 in
theorem ggL_law_X6_draw : GoodIn wsL_law wsX6_draw := goodIn_r _ [459, 460, 16, 155, 461, 462, 463, 464, 465, 466, 156, 157, 158, 2, 159, 160, 123, 124, 125, 161, 162, 163, 32, 164, 165, 166, 167, 168, 169, 66, 67, 68, 69, 170, 883, 884, 885, 886, 887, 888, 889, 890, 919, 920, 921, 922, 923, 924, 925, 926, 927, 928, 940, 941, 942, 943, 944] (by decide +kernel) (by decide +kernel)
set_option maxRecDepth 20000 in
theorem gL_law_X6_draw : GoodIn wsL_law (wsV RL 61 RX6 yX6_draw wsX6_draw) := goodIn_app (goodIn_r _ [456, 457, 458, 2] (by decide +kernel) (by decide +kernel)) ggL_law_X6_draw
set_option maxRecDepth 20000 in
theorem ggL_law_X7_draw : GoodIn wsL_law wsX7_draw := goodIn_r _ [470, 471, 176, 472, 473, 177, 178, 5, 179, 180, 132, 133, 134, 181, 182, 183, 184, 95, 96, 97, 98, 891, 892, 893, 894, 895, 896, 897, 898, 899, 900, 901, 902, 903, 904, 905, 906, 907, 908, 909, 910, 911, 912, 913, 914, 915, 916, 917, 918] (by decide +kernel) (by decide +kernel)
set_option maxRecDepth 20000 in
theorem gL_law_X7_draw : GoodIn wsL_law (wsV RL 65 RX7 yX7_draw wsX7_draw) := goodIn_app (goodIn_r _ [467, 468, 469, 5] (by decide +kernel) (by decide +kernel)) ggL_law_X7_draw
set_option maxRecDepth 20000 in
theorem ggL_law_X6_people : GoodIn wsL_law wsX6_people := goodIn_r _ [477, 478, 16, 479, 480, 481, 157, 158, 2, 159, 160, 123, 124, 125, 883, 884, 885, 886, 887, 888, 889, 890, 919, 920, 921, 922, 923, 924, 925, 926, 927, 928] (by decide +kernel) (by decide +kernel)
set_option maxRecDepth 20000 in
theorem gL_law_X6_people : GoodIn wsL_law (wsV RL 66 RX6 yX6_people wsX6_people) := goodIn_app (goodIn_r _ [474, 475, 476, 2] (by decide +kernel) (by decide +kernel)) ggL_law_X6_people
set_option maxRecDepth 20000 in
theorem ggL_law_X7_people : GoodIn wsL_law wsX7_people := goodIn_r _ [485, 486, 487, 103, 104, 177, 178, 5, 179, 180, 132, 133, 134, 891, 892, 893, 894, 895, 896, 897, 898, 899, 900, 901, 902, 903, 904, 905, 906, 907, 908, 909, 910, 911, 912, 913, 914, 915, 916, 917, 918] (by decide +kernel) (by decide +kernel)
set_option maxRecDepth 20000 in
theorem gL_law_X7_people : GoodIn wsL_law (wsV RL 69 RX7 yX7_people wsX7_people) := goodIn_app (goodIn_r _ [482, 483, 484, 5] (by decide +kernel) (by decide +kernel)) ggL_law_X7_people
set_option maxRecDepth 20000 in
theorem ggL_law_X6_count : GoodIn wsL_law wsX6_count := goodIn_r _ [491, 16, 155, 156, 492, 493, 494, 495, 15, 496, 49, 497, 498, 242, 243, 244, 245, 246, 226, 227, 228, 47, 229, 230, 219, 220, 221, 222, 223, 224, 212, 213, 214, 215, 216, 217, 237, 238, 239, 240, 45, 499, 500, 501, 2, 502, 503, 504, 505, 506, 507, 232, 233, 234, 235, 43, 236, 508, 509, 510, 511, 512, 513, 514, 883, 884, 885, 886, 887, 888, 889, 890, 919, 920, 921, 922, 923, 924, 925, 926, 927, 928, 940, 941, 942, 943, 944, 936, 937, 938, 939] (by decide +kernel) (by decide +kernel)
set_option maxRecDepth 20000 in
theorem gL_law_X6_count : GoodIn wsL_law (wsV RL 70 RX6 yX6_count wsX6_count) := goodIn_app (goodIn_r _ [488, 489, 490, 2] (by decide +kernel) (by decide +kernel)) ggL_law_X6_count
set_option maxRecDepth 20000 in
theorem ggL_law_X7_count : GoodIn wsL_law wsX7_count := goodIn_r _ [518, 176, 106, 130, 267, 268, 269, 5, 270, 95, 94, 255, 256, 257, 258, 100, 101, 251, 252, 253, 254, 102, 97, 98, 259, 260, 261, 262, 99, 519, 520, 521, 522, 263, 264, 265, 266, 149, 92, 96, 132, 133, 134, 891, 892, 893, 894, 895, 896, 897, 898, 899, 900, 901, 902, 903, 904, 905, 906, 907, 908, 909, 910, 911, 912, 913, 914, 915, 916, 917, 918] (by decide +kernel) (by decide +kernel)
set_option maxRecDepth 20000 in
theorem gL_law_X7_count : GoodIn wsL_law (wsV RL 73 RX7 yX7_count wsX7_count) := goodIn_app (goodIn_r _ [515, 516, 517, 5] (by decide +kernel) (by decide +kernel)) ggL_law_X7_count
set_option maxRecDepth 20000 in
theorem ggL_law_X6_total : GoodIn wsL_law wsX6_total := goodIn_r _ [526, 527, 16, 157, 158, 2, 159, 160, 123, 124, 125, 503, 504, 505, 15, 506, 49, 497, 245, 246, 226, 227, 228, 47, 229, 230, 219, 220, 221, 222, 223, 224, 212, 213, 214, 215, 216, 217, 507, 232, 233, 234, 235, 43, 236, 237, 238, 239, 240, 45, 528, 529, 530, 531, 532, 533, 534, 535, 883, 884, 885, 886, 887, 888, 889, 890, 919, 920, 921, 922, 923, 924, 925, 926, 927, 928, 940, 941, 942, 943, 944, 936, 937, 938, 939] (by decide +kernel) (by decide +kernel)
set_option maxRecDepth 20000 in
theorem gL_law_X6_total : GoodIn wsL_law (wsV RL 74 RX6 yX6_total wsX6_total) := goodIn_app (goodIn_r _ [523, 524, 525, 2] (by decide +kernel) (by decide +kernel)) ggL_law_X6_total
set_option maxRecDepth 20000 in
theorem ggL_law_X7_total : GoodIn wsL_law wsX7_total := goodIn_r _ [539, 115, 177, 178, 5, 179, 180, 132, 133, 134, 519, 520, 521, 522, 176, 95, 259, 260, 261, 262, 99, 255, 256, 257, 258, 100, 101, 251, 252, 253, 254, 102, 97, 98, 263, 264, 265, 266, 94, 149, 92, 96, 540, 541, 542, 543, 891, 892, 893, 894, 895, 896, 897, 898, 899, 900, 901, 902, 903, 904, 905, 906, 907, 908, 909, 910, 911, 912, 913, 914, 915, 916, 917, 918] (by decide +kernel) (by decide +kernel)
set_option maxRecDepth 20000 in
theorem gL_law_X7_total : GoodIn wsL_law (wsV RL 78 RX7 yX7_total wsX7_total) := goodIn_app (goodIn_r _ [536, 537, 538, 5] (by decide +kernel) (by decide +kernel)) ggL_law_X7_total
set_option maxRecDepth 20000 in
theorem ggL_law_X6_share : GoodIn wsL_law wsX6_share := goodIn_r _ [547, 466, 527, 21, 16, 548, 549, 157, 158, 2, 159, 160, 123, 124, 125, 550, 551, 552, 553, 554, 555, 556, 20, 557, 558, 559, 560, 561, 562, 226, 227, 15, 228, 47, 229, 230, 219, 220, 221, 222, 223, 224, 212, 213, 214, 215, 49, 216, 217, 563, 564, 232, 233, 234, 235, 43, 236, 237, 238, 239, 240, 45, 565, 566, 567, 568, 74, 73, 75, 569, 570, 571, 572, 573, 574, 575, 576, 50, 577, 578, 579, 580, 581, 582, 583, 367, 584, 585, 586, 587, 464, 588, 589, 590, 591, 592, 593, 883, 884, 885, 886, 887, 888, 889, 890, 929, 930, 931, 932, 919, 920, 921, 922, 923, 924, 925, 926, 927, 928, 940, 941, 942, 943, 944, 936, 937, 938, 939] (by decide +kernel) (by decide +kernel)
set_option maxRecDepth 20000 in
theorem gL_law_X6_share : GoodIn wsL_law (wsV RL 79 RX6 yX6_share wsX6_share) := goodIn_app (goodIn_r _ [544, 545, 546, 2] (by decide +kernel) (by decide +kernel)) ggL_law_X6_share
set_option maxRecDepth 20000 in
theorem ggL_law_X7_share : GoodIn wsL_law wsX7_share := goodIn_r _ [597, 598, 115, 599, 600, 601, 177, 178, 5, 179, 180, 132, 133, 134, 602, 603, 604, 605, 519, 520, 521, 522, 176, 95, 259, 260, 261, 262, 99, 255, 256, 257, 258, 100, 101, 251, 252, 253, 254, 102, 97, 98, 263, 264, 265, 266, 94, 149, 92, 96, 606, 607, 608, 609, 103, 891, 892, 893, 894, 895, 896, 897, 898, 899, 900, 901, 902, 903, 904, 905, 906, 907, 908, 909, 910, 911, 912, 913, 914, 915, 916, 917, 918] (by decide +kernel) (by decide +kernel)
set_option maxRecDepth 20000 in
theorem gL_law_X7_share : GoodIn wsL_law (wsV RL 83 RX7 yX7_share wsX7_share) := goodIn_app (goodIn_r _ [594, 595, 596, 5] (by decide +kernel) (by decide +kernel)) ggL_law_X7_share
set_option maxRecDepth 20000 in
theorem ggL_law_X6_maker : GoodIn wsL_law wsX6_maker := goodIn_r _ [613, 21, 16, 614, 615, 616, 617, 367, 618, 157, 158, 2, 159, 160, 123, 124, 125, 550, 551, 552, 553, 554, 555, 556, 20, 557, 558, 559, 560, 561, 562, 226, 227, 15, 228, 47, 229, 230, 219, 220, 221, 222, 223, 224, 212, 213, 214, 215, 49, 216, 217, 563, 564, 232, 233, 234, 235, 43, 236, 237, 238, 239, 240, 45, 565, 566, 567, 568, 74, 73, 75, 573, 574, 575, 576, 50, 619, 620, 621, 622, 623, 570, 571, 572, 624, 578, 579, 580, 581, 582, 583, 584, 586, 587, 464, 588, 589, 590, 625, 626, 627, 883, 884, 885, 886, 887, 888, 889, 890, 929, 930, 931, 932, 919, 920, 921, 922, 923, 924, 925, 926, 927, 928, 940, 941, 942, 943, 944, 936, 937, 938, 939] (by decide +kernel) (by decide +kernel)
set_option maxRecDepth 20000 in
theorem gL_law_X6_maker : GoodIn wsL_law (wsV RL 84 RX6 yX6_maker wsX6_maker) := goodIn_app (goodIn_r _ [610, 611, 612, 2] (by decide +kernel) (by decide +kernel)) ggL_law_X6_maker
set_option maxRecDepth 20000 in
theorem ggL_law_X7_maker : GoodIn wsL_law wsX7_maker := goodIn_r _ [631, 176, 95, 177, 178, 5, 179, 180, 132, 133, 134, 602, 603, 604, 605, 519, 520, 521, 522, 259, 260, 261, 262, 99, 255, 256, 257, 258, 100, 101, 251, 252, 253, 254, 102, 97, 98, 263, 264, 265, 266, 94, 149, 92, 96, 632, 633, 634, 635, 601, 599, 606, 607, 608, 609, 103, 891, 892, 893, 894, 895, 896, 897, 898, 899, 900, 901, 902, 903, 904, 905, 906, 907, 908, 909, 910, 911, 912, 913, 914, 915, 916, 917, 918] (by decide +kernel) (by decide +kernel)
set_option maxRecDepth 20000 in
theorem gL_law_X7_maker : GoodIn wsL_law (wsV RL 87 RX7 yX7_maker wsX7_maker) := goodIn_app (goodIn_r _ [628, 629, 630, 5] (by decide +kernel) (by decide +kernel)) ggL_law_X7_maker
set_option maxRecDepth 20000 in
theorem ggL_law_X6_span : GoodIn wsL_law wsX6_span := goodIn_r _ [639, 21, 16, 614, 615, 640, 366, 367, 368, 641, 642, 643, 157, 158, 2, 159, 160, 123, 124, 125, 550, 551, 552, 553, 554, 555, 556, 20, 557, 558, 559, 560, 561, 562, 226, 227, 15, 228, 47, 229, 230, 219, 220, 221, 222, 223, 224, 212, 213, 214, 215, 49, 216, 217, 563, 564, 232, 233, 234, 235, 43, 236, 237, 238, 239, 240, 45, 565, 566, 567, 568, 74, 73, 75, 573, 574, 575, 576, 50, 619, 620, 621, 622, 623, 570, 571, 572, 624, 578, 579, 580, 581, 582, 583, 584, 586, 587, 464, 588, 589, 590, 625, 626, 627, 883, 884, 885, 886, 887, 888, 889, 890, 929, 930, 931, 932, 919, 920, 921, 922, 923, 924, 925, 926, 927, 928, 940, 941, 942, 943, 944, 936, 937, 938, 939] (by decide +kernel) (by decide +kernel)
set_option maxRecDepth 20000 in
theorem gL_law_X6_span : GoodIn wsL_law (wsV RL 88 RX6 yX6_span wsX6_span) := goodIn_app (goodIn_r _ [636, 637, 638, 2] (by decide +kernel) (by decide +kernel)) ggL_law_X6_span
set_option maxRecDepth 20000 in
theorem ggL_law_X7_span : GoodIn wsL_law wsX7_span := goodIn_r _ [647, 176, 95, 177, 178, 5, 179, 180, 132, 133, 134, 602, 603, 604, 605, 519, 520, 521, 522, 259, 260, 261, 262, 99, 255, 256, 257, 258, 100, 101, 251, 252, 253, 254, 102, 97, 98, 263, 264, 265, 266, 94, 149, 92, 96, 632, 633, 634, 635, 601, 599, 606, 607, 608, 609, 103, 891, 892, 893, 894, 895, 896, 897, 898, 899, 900, 901, 902, 903, 904, 905, 906, 907, 908, 909, 910, 911, 912, 913, 914, 915, 916, 917, 918] (by decide +kernel) (by decide +kernel)
set_option maxRecDepth 20000 in
theorem gL_law_X7_span : GoodIn wsL_law (wsV RL 91 RX7 yX7_span wsX7_span) := goodIn_app (goodIn_r _ [644, 645, 646, 5] (by decide +kernel) (by decide +kernel)) ggL_law_X7_span
set_option maxRecDepth 20000 in
theorem ggL_law_X6_smooth : GoodIn wsL_law wsX6_smooth := goodIn_r _ [651, 189, 640, 366, 367, 368, 641, 642, 643, 21, 16, 157, 158, 2, 159, 160, 123, 124, 125, 550, 551, 552, 553, 554, 555, 556, 20, 557, 558, 559, 560, 561, 562, 226, 227, 15, 228, 47, 229, 230, 219, 220, 221, 222, 223, 224, 212, 213, 214, 215, 49, 216, 217, 563, 564, 232, 233, 234, 235, 43, 236, 237, 238, 239, 240, 45, 565, 566, 567, 568, 74, 73, 75, 573, 574, 575, 576, 50, 577, 578, 579, 580, 581, 582, 583, 584, 569, 570, 571, 572, 585, 586, 587, 464, 588, 589, 590, 883, 884, 885, 886, 887, 888, 889, 890, 929, 930, 931, 932, 919, 920, 921, 922, 923, 924, 925, 926, 927, 928, 940, 941, 942, 943, 944, 936, 937, 938, 939] (by decide +kernel) (by decide +kernel)
set_option maxRecDepth 20000 in
theorem gL_law_X6_smooth : GoodIn wsL_law (wsV RL 92 RX6 yX6_smooth wsX6_smooth) := goodIn_app (goodIn_r _ [648, 649, 650, 2] (by decide +kernel) (by decide +kernel)) ggL_law_X6_smooth
set_option maxRecDepth 20000 in
theorem ggL_law_X7_smooth : GoodIn wsL_law wsX7_smooth := goodIn_r _ [655, 199, 599, 601, 177, 178, 5, 179, 180, 132, 133, 134, 602, 603, 604, 605, 606, 607, 608, 609, 103, 176, 95, 259, 260, 261, 262, 99, 255, 256, 257, 258, 100, 101, 251, 252, 253, 254, 102, 97, 98, 263, 264, 265, 266, 94, 149, 92, 96, 519, 520, 521, 522, 891, 892, 893, 894, 895, 896, 897, 898, 899, 900, 901, 902, 903, 904, 905, 906, 907, 908, 909, 910, 911, 912, 913, 914, 915, 916, 917, 918] (by decide +kernel) (by decide +kernel)
set_option maxRecDepth 20000 in
theorem gL_law_X7_smooth : GoodIn wsL_law (wsV RL 95 RX7 yX7_smooth wsX7_smooth) := goodIn_app (goodIn_r _ [652, 653, 654, 5] (by decide +kernel) (by decide +kernel)) ggL_law_X7_smooth
set_option maxRecDepth 20000 in
theorem ggL_law_X6_jump : GoodIn wsL_law wsX6_jump := goodIn_r _ [659, 616, 617, 367, 618, 550, 551, 2, 552, 553, 123, 124, 125, 660, 661, 662, 663, 21, 16, 554, 555, 556, 20, 557, 558, 559, 560, 561, 562, 226, 227, 15, 228, 47, 229, 230, 219, 220, 221, 222, 223, 224, 212, 213, 214, 215, 49, 216, 217, 563, 564, 232, 233, 234, 235, 43, 236, 237, 238, 239, 240, 45, 565, 566, 567, 568, 74, 73, 75, 573, 574, 575, 576, 50, 619, 620, 621, 622, 623, 570, 571, 572, 624, 578, 579, 580, 581, 582, 583, 584, 586, 587, 464, 588, 589, 590, 883, 884, 885, 886, 887, 888, 889, 890, 929, 930, 931, 932, 919, 920, 921, 922, 923, 924, 925, 926, 927, 928, 940, 941, 942, 943, 944, 936, 937, 938, 939] (by decide +kernel) (by decide +kernel)
set_option maxRecDepth 20000 in
theorem gL_law_X6_jump : GoodIn wsL_law (wsV RL 96 RX6 yX6_jump wsX6_jump) := goodIn_app (goodIn_r _ [656, 657, 658, 2] (by decide +kernel) (by decide +kernel)) ggL_law_X6_jump
set_option maxRecDepth 20000 in
theorem ggL_law_X7_jump : GoodIn wsL_law wsX7_jump := goodIn_r _ [667, 602, 603, 5, 604, 605, 132, 133, 134, 519, 520, 521, 522, 176, 95, 259, 260, 261, 262, 99, 255, 256, 257, 258, 100, 101, 251, 252, 253, 254, 102, 97, 98, 263, 264, 265, 266, 94, 149, 92, 96, 632, 633, 634, 635, 601, 599, 606, 607, 608, 609, 103, 891, 892, 893, 894, 895, 896, 897, 898, 899, 900, 901, 902, 903, 904, 905, 906, 907, 908, 909, 910, 911, 912, 913, 914, 915, 916, 917, 918] (by decide +kernel) (by decide +kernel)
set_option maxRecDepth 20000 in
theorem gL_law_X7_jump : GoodIn wsL_law (wsV RL 99 RX7 yX7_jump wsX7_jump) := goodIn_app (goodIn_r _ [664, 665, 666, 5] (by decide +kernel) (by decide +kernel)) ggL_law_X7_jump
set_option maxRecDepth 20000 in
theorem ggL_law_X6_alone : GoodIn wsL_law wsX6_alone := goodIn_r _ [671, 672, 157, 158, 2, 159, 160, 123, 124, 125, 550, 551, 552, 553, 660, 661, 662, 663, 21, 16, 554, 555, 556, 20, 557, 558, 559, 560, 561, 562, 226, 227, 15, 228, 47, 229, 230, 219, 220, 221, 222, 223, 224, 212, 213, 214, 215, 49, 216, 217, 563, 564, 232, 233, 234, 235, 43, 236, 237, 238, 239, 240, 45, 565, 566, 567, 568, 74, 73, 75, 573, 574, 575, 576, 50, 619, 620, 621, 622, 623, 570, 571, 572, 624, 578, 579, 580, 581, 582, 583, 367, 584, 586, 587, 464, 588, 589, 590, 625, 626, 627, 883, 884, 885, 886, 887, 888, 889, 890, 929, 930, 931, 932, 919, 920, 921, 922, 923, 924, 925, 926, 927, 928, 940, 941, 942, 943, 944, 936, 937, 938, 939] (by decide +kernel) (by decide +kernel)
set_option maxRecDepth 20000 in
theorem gL_law_X6_alone : GoodIn wsL_law (wsV RL 100 RX6 yX6_alone wsX6_alone) := goodIn_app (goodIn_r _ [668, 669, 670, 2] (by decide +kernel) (by decide +kernel)) ggL_law_X6_alone
set_option maxRecDepth 20000 in
theorem ggL_law_X7_alone : GoodIn wsL_law wsX7_alone := goodIn_r _ [676, 677, 177, 178, 5, 179, 180, 132, 133, 134, 602, 603, 604, 605, 632, 633, 634, 635, 601, 599, 519, 520, 521, 522, 176, 95, 259, 260, 261, 262, 99, 255, 256, 257, 258, 100, 101, 251, 252, 253, 254, 102, 97, 98, 263, 264, 265, 266, 94, 149, 92, 96, 606, 607, 608, 609, 103, 891, 892, 893, 894, 895, 896, 897, 898, 899, 900, 901, 902, 903, 904, 905, 906, 907, 908, 909, 910, 911, 912, 913, 914, 915, 916, 917, 918] (by decide +kernel) (by decide +kernel)
set_option maxRecDepth 20000 in
theorem gL_law_X7_alone : GoodIn wsL_law (wsV RL 103 RX7 yX7_alone wsX7_alone) := goodIn_app (goodIn_r _ [673, 674, 675, 5] (by decide +kernel) (by decide +kernel)) ggL_law_X7_alone
set_option maxRecDepth 20000 in
theorem ggL_law_X6_bounds : GoodIn wsL_law wsX6_bounds := goodIn_r _ [681, 21, 16, 549, 157, 158, 2, 159, 160, 123, 124, 125, 550, 551, 552, 553, 554, 555, 556, 20, 557, 558, 559, 560, 561, 562, 226, 227, 15, 228, 47, 229, 230, 219, 220, 221, 222, 223, 224, 212, 213, 214, 215, 49, 216, 217, 563, 564, 232, 233, 234, 235, 43, 236, 237, 238, 239, 240, 45, 565, 566, 567, 568, 74, 73, 75, 528, 529, 530, 531, 497, 245, 246, 507, 532, 533, 534, 535, 569, 570, 571, 572, 573, 574, 575, 576, 50, 577, 578, 579, 580, 581, 582, 583, 367, 584, 585, 586, 587, 464, 588, 589, 590, 883, 884, 885, 886, 887, 888, 889, 890, 929, 930, 931, 932, 919, 920, 921, 922, 923, 924, 925, 926, 927, 928, 940, 941, 942, 943, 944, 936, 937, 938, 939] (by decide +kernel) (by decide +kernel)
set_option maxRecDepth 20000 in
theorem gL_law_X6_bounds : GoodIn wsL_law (wsV RL 104 RX6 yX6_bounds wsX6_bounds) := goodIn_app (goodIn_r _ [678, 679, 680, 2] (by decide +kernel) (by decide +kernel)) ggL_law_X6_bounds
set_option maxRecDepth 20000 in
theorem ggL_law_X7_bounds : GoodIn wsL_law wsX7_bounds := goodIn_r _ [685, 599, 601, 177, 178, 5, 179, 180, 132, 133, 134, 602, 603, 604, 605, 540, 541, 542, 543, 176, 98, 92, 96, 95, 259, 260, 261, 262, 99, 255, 256, 257, 258, 100, 101, 251, 252, 253, 254, 102, 97, 263, 264, 265, 266, 94, 149, 519, 520, 521, 522, 606, 607, 608, 609, 103, 891, 892, 893, 894, 895, 896, 897, 898, 899, 900, 901, 902, 903, 904, 905, 906, 907, 908, 909, 910, 911, 912, 913, 914, 915, 916, 917, 918] (by decide +kernel) (by decide +kernel)
set_option maxRecDepth 20000 in
theorem gL_law_X7_bounds : GoodIn wsL_law (wsV RL 107 RX7 yX7_bounds wsX7_bounds) := goodIn_app (goodIn_r _ [682, 683, 684, 5] (by decide +kernel) (by decide +kernel)) ggL_law_X7_bounds
set_option maxRecDepth 20000 in
theorem ggL_law_X6_heap : GoodIn wsL_law wsX6_heap := goodIn_r _ [689, 303, 480, 189, 16, 641, 642, 367, 643, 327, 123, 124, 2, 125, 690, 691, 692, 15, 693, 49, 497, 245, 47, 222, 230, 219, 220, 221, 223, 224, 212, 213, 214, 215, 216, 217, 694, 695, 696, 28, 697, 60, 61, 698, 883, 884, 885, 886, 887, 888, 889, 890, 919, 920, 921, 922, 923, 924, 925, 926, 927, 928, 940, 941, 942, 943, 944, 936, 937, 938, 939] (by decide +kernel) (by decide +kernel)
set_option maxRecDepth 20000 in
theorem gL_law_X6_heap : GoodIn wsL_law (wsV RL 108 RX6 yX6_heap wsX6_heap) := goodIn_app (goodIn_r _ [686, 687, 688, 2] (by decide +kernel) (by decide +kernel)) ggL_law_X6_heap
set_option maxRecDepth 20000 in
theorem ggL_law_X7_heap : GoodIn wsL_law wsX7_heap := goodIn_r _ [702, 319, 487, 199, 100, 101, 176, 95, 132, 133, 5, 134, 255, 256, 257, 258, 251, 252, 253, 254, 102, 97, 98, 891, 892, 893, 894, 895, 896, 897, 898, 899, 900, 901, 902, 903, 904, 905, 906, 907, 908, 909, 910, 911, 912, 913, 914, 915, 916, 917, 918] (by decide +kernel) (by decide +kernel)
set_option maxRecDepth 20000 in
theorem gL_law_X7_heap : GoodIn wsL_law (wsV RL 111 RX7 yX7_heap wsX7_heap) := goodIn_app (goodIn_r _ [699, 700, 701, 5] (by decide +kernel) (by decide +kernel)) ggL_law_X7_heap
set_option maxRecDepth 20000 in
theorem ggL_law_X6_beside : GoodIn wsL_law wsX6_beside := goodIn_r _ [706, 707, 16, 708, 709, 492, 157, 158, 2, 159, 160, 123, 124, 125, 883, 884, 885, 886, 887, 888, 889, 890, 919, 920, 921, 922, 923, 924, 925, 926, 927, 928] (by decide +kernel) (by decide +kernel)
set_option maxRecDepth 20000 in
theorem gL_law_X6_beside : GoodIn wsL_law (wsV RL 112 RX6 yX6_beside wsX6_beside) := goodIn_app (goodIn_r _ [703, 704, 705, 2] (by decide +kernel) (by decide +kernel)) ggL_law_X6_beside
set_option maxRecDepth 20000 in
theorem ggL_law_X7_beside : GoodIn wsL_law wsX7_beside := goodIn_r _ [713, 714, 105, 106, 177, 178, 5, 179, 180, 132, 133, 134, 891, 892, 893, 894, 895, 896, 897, 898, 899, 900, 901, 902, 903, 904, 905, 906, 907, 908, 909, 910, 911, 912, 913, 914, 915, 916, 917, 918] (by decide +kernel) (by decide +kernel)
set_option maxRecDepth 20000 in
theorem gL_law_X7_beside : GoodIn wsL_law (wsV RL 116 RX7 yX7_beside wsX7_beside) := goodIn_app (goodIn_r _ [710, 711, 712, 5] (by decide +kernel) (by decide +kernel)) ggL_law_X7_beside
set_option maxRecDepth 20000 in
theorem ggL_law_X6_fights : GoodIn wsL_law wsX6_fights := goodIn_r _ [718, 16, 492, 719, 720, 721, 15, 722, 54, 53, 723, 504, 505, 506, 49, 497, 245, 246, 226, 227, 228, 47, 229, 230, 219, 220, 221, 222, 223, 224, 212, 213, 214, 215, 216, 217, 507, 232, 233, 234, 235, 43, 236, 237, 238, 239, 240, 45, 724, 529, 530, 531, 532, 533, 534, 535, 883, 884, 885, 886, 887, 888, 889, 890, 919, 920, 921, 922, 923, 924, 925, 926, 927, 928, 940, 941, 942, 943, 944, 936, 937, 938, 939] (by decide +kernel) (by decide +kernel)
set_option maxRecDepth 20000 in
theorem gL_law_X6_fights : GoodIn wsL_law (wsV RL 117 RX6 yX6_fights wsX6_fights) := goodIn_app (goodIn_r _ [715, 716, 717, 2] (by decide +kernel) (by decide +kernel)) ggL_law_X6_fights
set_option maxRecDepth 20000 in
theorem ggL_law_X7_fights : GoodIn wsL_law wsX7_fights := goodIn_r _ [728, 106, 105, 519, 520, 521, 5, 522, 176, 95, 259, 260, 261, 262, 99, 255, 256, 257, 258, 100, 101, 251, 252, 253, 254, 102, 97, 98, 263, 264, 265, 266, 94, 149, 92, 96, 540, 541, 542, 543, 891, 892, 893, 894, 895, 896, 897, 898, 899, 900, 901, 902, 903, 904, 905, 906, 907, 908, 909, 910, 911, 912, 913, 914, 915, 916, 917, 918] (by decide +kernel) (by decide +kernel)
set_option maxRecDepth 20000 in
theorem gL_law_X7_fights : GoodIn wsL_law (wsV RL 120 RX7 yX7_fights wsX7_fights) := goodIn_app (goodIn_r _ [725, 726, 727, 5] (by decide +kernel) (by decide +kernel)) ggL_law_X7_fights
set_option maxRecDepth 20000 in
theorem ggL_law_X6_fall : GoodIn wsL_law wsX6_fall := goodIn_r _ [732, 466, 672, 16, 481, 157, 158, 2, 159, 160, 123, 124, 125, 503, 504, 505, 15, 506, 49, 497, 245, 246, 226, 227, 228, 47, 229, 230, 219, 220, 221, 222, 223, 224, 212, 213, 214, 215, 216, 217, 507, 232, 233, 234, 235, 43, 236, 237, 238, 239, 240, 45, 588, 589, 590, 883, 884, 885, 886, 887, 888, 889, 890, 919, 920, 921, 922, 923, 924, 925, 926, 927, 928, 940, 941, 942, 943, 944, 936, 937, 938, 939] (by decide +kernel) (by decide +kernel)
set_option maxRecDepth 20000 in
theorem gL_law_X6_fall : GoodIn wsL_law (wsV RL 121 RX6 yX6_fall wsX6_fall) := goodIn_app (goodIn_r _ [729, 730, 731, 2] (by decide +kernel) (by decide +kernel)) ggL_law_X6_fall
set_option maxRecDepth 20000 in
theorem ggL_law_X7_fall : GoodIn wsL_law wsX7_fall := goodIn_r _ [736, 598, 677, 104, 177, 178, 5, 179, 180, 132, 133, 134, 519, 520, 521, 522, 176, 95, 259, 260, 261, 262, 99, 255, 256, 257, 258, 100, 101, 251, 252, 253, 254, 102, 97, 98, 263, 264, 265, 266, 94, 149, 92, 96, 891, 892, 893, 894, 895, 896, 897, 898, 899, 900, 901, 902, 903, 904, 905, 906, 907, 908, 909, 910, 911, 912, 913, 914, 915, 916, 917, 918] (by decide +kernel) (by decide +kernel)
set_option maxRecDepth 20000 in
theorem gL_law_X7_fall : GoodIn wsL_law (wsV RL 124 RX7 yX7_fall wsX7_fall) := goodIn_app (goodIn_r _ [733, 734, 735, 5] (by decide +kernel) (by decide +kernel)) ggL_law_X7_fall
set_option maxRecDepth 20000 in
theorem ggL_law_X6_image : GoodIn wsL_law wsX6_image := goodIn_r _ [740, 17, 16, 741, 742, 743, 744, 15, 745, 43, 746, 285, 286, 287, 45, 235, 47, 49, 50, 51, 747, 53, 54, 748, 329, 330, 28, 331, 59, 332, 60, 61, 62, 749, 750, 751, 32, 752, 165, 280, 281, 282, 283, 66, 284, 67, 68, 69, 883, 884, 885, 886, 887, 888, 889, 890, 919, 920, 921, 922, 923, 924, 925, 926, 927, 928, 936, 937, 938, 939, 940, 941, 942, 943, 944] (by decide +kernel) (by decide +kernel)
set_option maxRecDepth 20000 in
theorem gL_law_X6_image : GoodIn wsL_law (wsV RL 125 RX6 yX6_image wsX6_image) := goodIn_app (goodIn_r _ [737, 738, 739, 2] (by decide +kernel) (by decide +kernel)) ggL_law_X6_image
set_option maxRecDepth 20000 in
theorem ggL_law_X7_image : GoodIn wsL_law wsX7_image := goodIn_r _ [756, 92, 109, 95, 96, 97, 98, 99, 100, 101, 102, 103, 104, 94, 149, 176, 110, 105, 106, 757, 758, 759, 5, 760, 891, 892, 893, 894, 895, 896, 897, 898, 899, 900, 901, 902, 903, 904, 905, 906, 907, 908, 909, 910, 911, 912, 913, 914, 915, 916, 917, 918] (by decide +kernel) (by decide +kernel)
set_option maxRecDepth 20000 in
theorem gL_law_X7_image : GoodIn wsL_law (wsV RL 128 RX7 yX7_image wsX7_image) := goodIn_app (goodIn_r _ [753, 754, 755, 5] (by decide +kernel) (by decide +kernel)) ggL_law_X7_image
set_option maxRecDepth 20000 in
theorem ggL_law_X6_restore : GoodIn wsL_law wsX6_restore := goodIn_r _ [764, 741, 16, 17, 742, 743, 744, 15, 745, 43, 746, 285, 286, 287, 45, 235, 47, 49, 50, 51, 747, 53, 54, 748, 329, 330, 28, 331, 59, 332, 60, 61, 62, 749, 750, 751, 32, 752, 165, 280, 281, 282, 283, 66, 284, 67, 68, 69, 883, 884, 885, 886, 887, 888, 889, 890, 919, 920, 921, 922, 923, 924, 925, 926, 927, 928, 936, 937, 938, 939, 940, 941, 942, 943, 944] (by decide +kernel) (by decide +kernel)
set_option maxRecDepth 20000 in
theorem gL_law_X6_restore : GoodIn wsL_law (wsV RL 129 RX6 yX6_restore wsX6_restore) := goodIn_app (goodIn_r _ [761, 762, 763, 2] (by decide +kernel) (by decide +kernel)) ggL_law_X6_restore
set_option maxRecDepth 20000 in
theorem ggL_law_X7_restore : GoodIn wsL_law wsX7_restore := goodIn_r _ [768, 757, 109, 92, 95, 96, 97, 98, 99, 100, 101, 102, 103, 104, 94, 149, 176, 105, 110, 106, 769, 770, 5, 771, 891, 892, 893, 894, 895, 896, 897, 898, 899, 900, 901, 902, 903, 904, 905, 906, 907, 908, 909, 910, 911, 912, 913, 914, 915, 916, 917, 918] (by decide +kernel) (by decide +kernel)
set_option maxRecDepth 20000 in
theorem gL_law_X7_restore : GoodIn wsL_law (wsV RL 132 RX7 yX7_restore wsX7_restore) := goodIn_app (goodIn_r _ [765, 766, 767, 5] (by decide +kernel) (by decide +kernel)) ggL_law_X7_restore
set_option maxRecDepth 20000 in
theorem ggL_law_X6_book : GoodIn wsL_law wsX6_book := goodIn_r _ [775, 16, 37, 155, 156, 208, 157, 158, 2, 159, 160, 123, 124, 125, 776, 777, 778, 189, 779, 780, 781, 466, 782, 783, 784, 15, 785, 49, 497, 245, 246, 226, 227, 228, 47, 229, 230, 219, 220, 221, 222, 223, 224, 212, 213, 214, 215, 216, 217, 786, 787, 788, 36, 789, 85, 790, 791, 792, 793, 794, 795, 796, 797, 86, 225, 218, 798, 799, 800, 801, 87, 802, 803, 804, 883, 884, 885, 886, 887, 888, 889, 890, 919, 920, 921, 922, 923, 924, 925, 926, 927, 928, 940, 941, 942, 943, 944, 936, 937, 938, 939, 945, 946, 947] (by decide +kernel) (by decide +kernel)
set_option maxRecDepth 20000 in
theorem gL_law_X6_book : GoodIn wsL_law (wsV RL 133 RX6 yX6_book wsX6_book) := goodIn_app (goodIn_r _ [772, 773, 774, 2] (by decide +kernel) (by decide +kernel)) ggL_law_X6_book
set_option maxRecDepth 20000 in
theorem ggL_law_X7_book : GoodIn wsL_law wsX7_book := goodIn_r _ [808, 176, 95, 113, 177, 178, 5, 179, 180, 132, 133, 134, 809, 810, 811, 199, 812, 813, 814, 598, 259, 260, 261, 262, 99, 255, 256, 257, 258, 100, 101, 251, 252, 253, 254, 102, 97, 98, 815, 816, 817, 818, 111, 112, 819, 820, 821, 891, 892, 893, 894, 895, 896, 897, 898, 899, 900, 901, 902, 903, 904, 905, 906, 907, 908, 909, 910, 911, 912, 913, 914, 915, 916, 917, 918] (by decide +kernel) (by decide +kernel)
set_option maxRecDepth 20000 in
theorem gL_law_X7_book : GoodIn wsL_law (wsV RL 136 RX7 yX7_book wsX7_book) := goodIn_app (goodIn_r _ [805, 806, 807, 5] (by decide +kernel) (by decide +kernel)) ggL_law_X7_book
set_option maxRecDepth 20000 in
theorem ggL_law_X6_crowds : GoodIn wsL_law wsX6_crowds := goodIn_r _ [825, 37, 478, 16, 479, 776, 777, 2, 778, 189, 123, 124, 125, 779, 780, 781, 466, 786, 787, 788, 36, 789, 85, 790, 791, 792, 793, 794, 795, 796, 797, 86, 826, 827, 828, 829, 87, 883, 884, 885, 886, 887, 888, 889, 890, 919, 920, 921, 922, 923, 924, 925, 926, 927, 928, 945, 946, 947] (by decide +kernel) (by decide +kernel)
set_option maxRecDepth 20000 in
theorem gL_law_X6_crowds : GoodIn wsL_law (wsV RL 137 RX6 yX6_crowds wsX6_crowds) := goodIn_app (goodIn_r _ [822, 823, 824, 2] (by decide +kernel) (by decide +kernel)) ggL_law_X6_crowds
set_option maxRecDepth 20000 in
theorem ggL_law_X7_crowds : GoodIn wsL_law wsX7_crowds := goodIn_r _ [833, 113, 486, 103, 809, 810, 5, 811, 199, 132, 133, 134, 812, 813, 814, 598, 815, 816, 817, 818, 111, 112, 891, 892, 893, 894, 895, 896, 897, 898, 899, 900, 901, 902, 903, 904, 905, 906, 907, 908, 909, 910, 911, 912, 913, 914, 915, 916, 917, 918] (by decide +kernel) (by decide +kernel)
set_option maxRecDepth 20000 in
theorem gL_law_X7_crowds : GoodIn wsL_law (wsV RL 140 RX7 yX7_crowds wsX7_crowds) := goodIn_app (goodIn_r _ [830, 831, 832, 5] (by decide +kernel) (by decide +kernel)) ggL_law_X7_crowds
set_option maxRecDepth 20000 in
theorem ggL_law_X6_sheet : GoodIn wsL_law wsX6_sheet := goodIn_r _ [837, 37, 776, 777, 2, 778, 189, 123, 124, 125, 779, 780, 781, 466, 838, 839, 840, 36, 841, 85, 86, 87, 883, 884, 885, 886, 887, 888, 889, 890, 945, 946, 947] (by decide +kernel) (by decide +kernel)
set_option maxRecDepth 20000 in
theorem gL_law_X6_sheet : GoodIn wsL_law (wsV RL 141 RX6 yX6_sheet wsX6_sheet) := goodIn_app (goodIn_r _ [834, 835, 836, 2] (by decide +kernel) (by decide +kernel)) ggL_law_X6_sheet
set_option maxRecDepth 20000 in
theorem ggL_law_X7_sheet : GoodIn wsL_law wsX7_sheet := goodIn_r _ [845, 111, 112, 113, 809, 810, 5, 811, 199, 132, 133, 134, 812, 813, 814, 598, 891, 892, 893, 894, 895, 896, 897, 898, 899, 900, 901, 902, 903, 904, 905, 906, 907, 908, 909, 910, 911, 912, 913, 914, 915, 916, 917, 918] (by decide +kernel) (by decide +kernel)
set_option maxRecDepth 20000 in
theorem gL_law_X7_sheet : GoodIn wsL_law (wsV RL 144 RX7 yX7_sheet wsX7_sheet) := goodIn_app (goodIn_r _ [842, 843, 844, 5] (by decide +kernel) (by decide +kernel)) ggL_law_X7_sheet
set_option maxRecDepth 20000 in
theorem ggL_law_X6_drop : GoodIn wsL_law wsX6_drop := goodIn_r _ [849, 37, 850, 776, 777, 2, 778, 189, 123, 124, 125, 851, 791, 792, 36, 793, 85, 852, 853, 854, 855, 86, 883, 884, 885, 886, 887, 888, 889, 890, 945, 946, 947] (by decide +kernel) (by decide +kernel)
set_option maxRecDepth 20000 in
theorem gL_law_X6_drop : GoodIn wsL_law (wsV RL 145 RX6 yX6_drop wsX6_drop) := goodIn_app (goodIn_r _ [846, 847, 848, 2] (by decide +kernel) (by decide +kernel)) ggL_law_X6_drop
set_option maxRecDepth 20000 in
theorem ggL_law_X7_drop : GoodIn wsL_law wsX7_drop := goodIn_r _ [859, 111, 112, 809, 810, 5, 811, 199, 132, 133, 134, 891, 892, 893, 894, 895, 896, 897, 898, 899, 900, 901, 902, 903, 904, 905, 906, 907, 908, 909, 910, 911, 912, 913, 914, 915, 916, 917, 918] (by decide +kernel) (by decide +kernel)
set_option maxRecDepth 20000 in
theorem gL_law_X7_drop : GoodIn wsL_law (wsV RL 148 RX7 yX7_drop wsX7_drop) := goodIn_app (goodIn_r _ [856, 857, 858, 5] (by decide +kernel) (by decide +kernel)) ggL_law_X7_drop
set_option maxRecDepth 20000 in
theorem ggL_law_X6_item : GoodIn wsL_law wsX6_item := goodIn_r _ [863, 37, 776, 777, 2, 778, 189, 123, 124, 125, 779, 780, 781, 466, 786, 787, 788, 36, 789, 85, 790, 791, 792, 793, 794, 795, 796, 797, 86, 798, 799, 800, 801, 87, 802, 803, 804, 883, 884, 885, 886, 887, 888, 889, 890, 945, 946, 947] (by decide +kernel) (by decide +kernel)
set_option maxRecDepth 20000 in
theorem gL_law_X6_item : GoodIn wsL_law (wsV RL 149 RX6 yX6_item wsX6_item) := goodIn_app (goodIn_r _ [860, 861, 862, 2] (by decide +kernel) (by decide +kernel)) ggL_law_X6_item
set_option maxRecDepth 20000 in
theorem ggL_law_X7_item : GoodIn wsL_law wsX7_item := goodIn_r _ [867, 113, 809, 810, 5, 811, 199, 132, 133, 134, 812, 813, 814, 598, 815, 816, 817, 818, 111, 112, 819, 820, 821, 891, 892, 893, 894, 895, 896, 897, 898, 899, 900, 901, 902, 903, 904, 905, 906, 907, 908, 909, 910, 911, 912, 913, 914, 915, 916, 917, 918] (by decide +kernel) (by decide +kernel)
set_option maxRecDepth 20000 in
theorem gL_law_X7_item : GoodIn wsL_law (wsV RL 152 RX7 yX7_item wsX7_item) := goodIn_app (goodIn_r _ [864, 865, 866, 5] (by decide +kernel) (by decide +kernel)) ggL_law_X7_item
set_option maxRecDepth 20000 in
theorem ggL_law_X6_copy : GoodIn wsL_law wsX6_copy := goodIn_r _ [871, 37, 872, 776, 777, 2, 778, 189, 123, 124, 125, 851, 791, 792, 36, 793, 85, 873, 795, 796, 797, 86, 874, 875, 876, 877, 87, 878, 285, 286, 287, 883, 884, 885, 886, 887, 888, 889, 890, 945, 946, 947] (by decide +kernel) (by decide +kernel)
set_option maxRecDepth 20000 in
theorem gL_law_X6_copy : GoodIn wsL_law (wsV RL 153 RX6 yX6_copy wsX6_copy) := goodIn_app (goodIn_r _ [868, 869, 870, 2] (by decide +kernel) (by decide +kernel)) ggL_law_X6_copy
set_option maxRecDepth 20000 in
theorem ggL_law_X7_copy : GoodIn wsL_law wsX7_copy := goodIn_r _ [882, 111, 114, 113, 809, 810, 5, 811, 199, 132, 133, 134, 815, 816, 817, 818, 112, 891, 892, 893, 894, 895, 896, 897, 898, 899, 900, 901, 902, 903, 904, 905, 906, 907, 908, 909, 910, 911, 912, 913, 914, 915, 916, 917, 918] (by decide +kernel) (by decide +kernel)
set_option maxRecDepth 20000 in
theorem gL_law_X7_copy : GoodIn wsL_law (wsV RL 157 RX7 yX7_copy wsX7_copy) := goodIn_app (goodIn_r _ [879, 880, 881, 5] (by decide +kernel) (by decide +kernel)) ggL_law_X7_copy
