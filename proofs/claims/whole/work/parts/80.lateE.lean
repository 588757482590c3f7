set_option maxRecDepth 20000 in
theorem ggL_law_X7_init : GoodIn wsL_law wsX7_init := goodIn_r _ [9, 10, 11, 12, 13, 14, 15, 16, 17, 18, 19, 20, 21, 22, 23, 24, 25, 26, 27, 28, 29, 30, 31, 32, 33, 34, 35, 36, 37, 38, 39, 40, 41, 42, 43, 44, 45, 46, 47, 48, 49, 50, 51, 52, 53, 54, 55, 56, 57, 58, 59, 60, 61, 62, 63, 64, 65, 66, 67, 68, 69, 70, 71, 72, 73, 74, 75, 76, 77, 78, 79, 80, 81, 82, 83, 84, 85, 86, 87, 88, 89, 90, 91, 92, 93, 94, 95, 96, 97, 98, 99, 100, 101, 102, 103, 104, 105, 106, 107, 108, 109, 110, 111, 112, 934, 935, 936, 937, 938, 939, 940, 941, 942, 943, 889, 890, 891, 892, 893, 894, 895, 896, 944, 945, 946, 947, 948, 949, 950, 951, 952, 953, 954, 955, 956, 957, 958, 959, 960, 961, 962, 963, 964, 965, 966, 967, 968, 969, 970, 971, 972, 973, 974, 975, 976, 977, 978, 979] (by decide +kernel) (by decide +kernel)
set_option maxRecDepth 20000 in
theorem gL_law_X7_init : GoodIn wsL_law (wsX7_init) := ggL_law_X7_init
set_option maxRecDepth 20000 in
theorem ggL_law_X8_init : GoodIn wsL_law wsX8_init := goodIn_r _ [115, 116, 11, 12, 117, 118, 119, 42, 120, 121, 122, 123, 124, 125, 126, 127, 128, 129, 130, 131, 132, 133, 134, 135, 136, 137, 138, 139, 140, 897, 898, 899, 900, 901, 902, 903, 904, 905, 906, 907, 908, 909, 910, 911, 912, 913, 914, 915, 916, 917, 918, 919, 920, 921, 922, 923, 924, 925, 926, 927, 928, 929, 930, 931, 932, 933] (by decide +kernel) (by decide +kernel)
set_option maxRecDepth 20000 in
theorem gL_law_X8_init : GoodIn wsL_law (wsX8_init) := ggL_law_X8_init
set_option maxRecDepth 20000 in
theorem ggL_law_X7_machine : GoodIn wsL_law wsX7_machine := goodIn_r _ [144, 16, 145, 146, 2, 147, 101, 102, 103, 15, 104, 105, 106, 107, 108, 48, 109, 110, 111, 112, 148, 149, 150, 151, 37, 38, 889, 890, 891, 892, 893, 894, 895, 896, 934, 935, 936, 937, 938, 939, 940, 941, 942, 943] (by decide +kernel) (by decide +kernel)
set_option maxRecDepth 20000 in
theorem gL_law_X7_machine : GoodIn wsL_law (wsV RL 39 RX7 yX7_machine wsX7_machine) := goodIn_app (goodIn_of _ (by decide +kernel)) ggL_law_X7_machine
set_option maxRecDepth 20000 in
theorem ggL_law_X8_machine : GoodIn wsL_law wsX8_machine := goodIn_r _ [155, 156, 117, 118, 119, 157, 125, 158, 159, 5, 160, 161, 162, 163, 164, 165, 166, 167, 897, 898, 899, 900, 901, 902, 903, 904, 905, 906, 907, 908, 909, 910, 911, 912, 913, 914, 915, 916, 917, 918, 919, 920, 921, 922, 923, 924, 925, 926, 927, 928, 929, 930, 931, 932, 933] (by decide +kernel) (by decide +kernel)
set_option maxRecDepth 20000 in
theorem gL_law_X8_machine : GoodIn wsL_law (wsV RL 43 RX8 yX8_machine wsX8_machine) := goodIn_app (goodIn_of _ (by decide +kernel)) ggL_law_X8_machine
set_option maxRecDepth 20000 in
theorem ggL_law_X7_rule : GoodIn wsL_law wsX7_rule := goodIn_r _ [171, 16, 172, 173, 174, 175, 15, 176, 106, 105, 177, 178, 179, 180, 181, 2, 182, 148, 149, 150, 151, 37, 38, 183, 184, 185, 186, 43, 108, 44, 45, 46, 47, 889, 890, 891, 892, 893, 894, 895, 896, 934, 935, 936, 937, 938, 939, 940, 941, 942, 943] (by decide +kernel) (by decide +kernel)
set_option maxRecDepth 20000 in
theorem gL_law_X7_rule : GoodIn wsL_law (wsV RL 44 RX7 yX7_rule wsX7_rule) := goodIn_app (goodIn_of _ (by decide +kernel)) ggL_law_X7_rule
set_option maxRecDepth 20000 in
theorem ggL_law_X8_rule : GoodIn wsL_law wsX8_rule := goodIn_r _ [190, 156, 157, 117, 118, 120, 121, 122, 123, 124, 158, 159, 5, 160, 161, 162, 163, 164, 165, 166, 167, 897, 898, 899, 900, 901, 902, 903, 904, 905, 906, 907, 908, 909, 910, 911, 912, 913, 914, 915, 916, 917, 918, 919, 920, 921, 922, 923, 924, 925, 926, 927, 928, 929, 930, 931, 932, 933] (by decide +kernel) (by decide +kernel)
set_option maxRecDepth 20000 in
theorem gL_law_X8_rule : GoodIn wsL_law (wsV RL 48 RX8 yX8_rule wsX8_rule) := goodIn_app (goodIn_of _ (by decide +kernel)) ggL_law_X8_rule
set_option maxRecDepth 20000 in
theorem ggL_law_X7_input : GoodIn wsL_law wsX7_input := goodIn_r _ [194, 16, 195, 196, 197, 198, 199, 15, 200, 107, 201, 181, 2, 182, 148, 149, 150, 151, 37, 38, 889, 890, 891, 892, 893, 894, 895, 896, 934, 935, 936, 937, 938, 939, 940, 941, 942, 943] (by decide +kernel) (by decide +kernel)
set_option maxRecDepth 20000 in
theorem gL_law_X7_input : GoodIn wsL_law (wsV RL 49 RX7 yX7_input wsX7_input) := goodIn_app (goodIn_of _ (by decide +kernel)) ggL_law_X7_input
set_option maxRecDepth 20000 in
theorem ggL_law_X8_input : GoodIn wsL_law wsX8_input := goodIn_r _ [205, 156, 119, 118, 125, 158, 159, 5, 160, 161, 162, 163, 164, 165, 166, 167, 897, 898, 899, 900, 901, 902, 903, 904, 905, 906, 907, 908, 909, 910, 911, 912, 913, 914, 915, 916, 917, 918, 919, 920, 921, 922, 923, 924, 925, 926, 927, 928, 929, 930, 931, 932, 933] (by decide +kernel) (by decide +kernel)
set_option maxRecDepth 20000 in
theorem gL_law_X8_input : GoodIn wsL_law (wsV RL 53 RX8 yX8_input wsX8_input) := goodIn_app (goodIn_of _ (by decide +kernel)) ggL_law_X8_input
set_option maxRecDepth 20000 in
theorem ggL_law_X7_build : GoodIn wsL_law wsX7_build := goodIn_r _ [209, 24, 28, 37, 38, 210, 211, 212, 213, 23, 214, 66, 215, 67, 69, 216, 217, 218, 219, 220, 221, 222, 223, 224, 225, 226, 227, 228, 229, 230, 15, 231, 107, 232, 198, 199, 200, 233, 234, 235, 65, 236, 74, 73, 237, 238, 111, 239, 240, 241, 242, 243, 244, 245, 42, 246, 247, 248, 249, 250, 251, 252, 253, 254, 255, 256, 257, 258, 259, 260, 261, 262, 263, 264, 265, 266, 267, 268, 269, 270, 2, 271, 272, 273, 274, 275, 276, 277, 278, 279, 280, 281, 282, 283, 284, 285, 286, 287, 288, 289, 290, 291, 292, 293, 294, 295, 178, 179, 180, 105, 296, 297, 298, 299, 300, 301, 302, 303, 304, 305, 306, 307, 308, 309, 310, 311, 312, 313, 314, 315, 316, 181, 182, 317, 318, 319, 320, 321, 322, 323, 324, 325, 326, 327, 328, 329, 68, 330, 331, 332, 333, 334, 335, 336, 337, 338, 339, 340, 341, 342, 343, 344, 345, 346, 347, 348, 349, 350, 351, 352, 353, 354, 27, 355, 83, 356, 357, 358, 359, 360, 79, 361, 362, 363, 364, 365, 366, 367, 368, 369, 370, 371, 372, 373, 374, 375, 376, 377, 378, 379, 380, 381, 382, 383, 384, 385, 80, 81, 82, 386, 387, 388, 389, 390, 391, 392, 393, 394, 889, 890, 891, 892, 893, 894, 895, 896, 958, 959, 960, 961, 962, 963, 964, 965, 966, 949, 950, 951, 952, 953, 954, 955, 956, 957, 978, 979, 934, 935, 936, 937, 938, 939, 940, 941, 942, 943, 980, 981, 982, 983] (by decide +kernel) (by decide +kernel)
set_option maxRecDepth 20000 in
theorem gL_law_X7_build : GoodIn wsL_law (wsV RL 54 RX7 yX7_build wsX7_build) := goodIn_app (goodIn_of _ (by decide +kernel)) ggL_law_X7_build
set_option maxRecDepth 20000 in
theorem ggL_law_X8_build : GoodIn wsL_law wsX8_build := goodIn_r _ [398, 156, 399, 400, 401, 119, 402, 403, 126, 404, 405, 406, 407, 165, 408, 409, 410, 5, 411, 118, 117, 125, 412, 413, 414, 415, 416, 417, 418, 419, 420, 421, 422, 423, 127, 424, 425, 426, 427, 428, 429, 430, 431, 432, 433, 434, 435, 436, 437, 438, 439, 440, 441, 442, 443, 444, 445, 446, 447, 157, 448, 449, 450, 451, 452, 453, 454, 455, 120, 122, 121, 123, 124, 456, 457, 458, 459, 460, 461, 462, 463, 158, 159, 160, 464, 465, 466, 467, 468, 469, 470, 471, 472, 473, 474, 475, 128, 476, 477, 478, 479, 130, 131, 129, 480, 481, 482, 483, 161, 162, 163, 164, 166, 167, 897, 898, 899, 900, 901, 902, 903, 904, 905, 906, 907, 908, 909, 910, 911, 912, 913, 914, 915, 916, 917, 918, 919, 920, 921, 922, 923, 924, 925, 926, 927, 928, 929, 930, 931, 932, 933] (by decide +kernel) (by decide +kernel)
set_option maxRecDepth 20000 in
theorem gL_law_X8_build : GoodIn wsL_law (wsV RL 57 RX8 yX8_build wsX8_build) := goodIn_app (goodIn_of _ (by decide +kernel)) ggL_law_X8_build
set_option maxRecDepth 20000 in
theorem ggL_law_X7_count : GoodIn wsL_law wsX7_count := goodIn_r _ [487, 37, 24, 488, 489, 28, 490, 491, 492, 210, 493, 332, 333, 23, 334, 67, 215, 494, 362, 363, 364, 68, 889, 890, 891, 892, 893, 894, 895, 896, 949, 950, 951, 952, 953, 954, 955, 956, 957, 958, 959, 960, 961, 962, 963, 964, 965, 966, 978, 979] (by decide +kernel) (by decide +kernel)
set_option maxRecDepth 20000 in
theorem gL_law_X7_count : GoodIn wsL_law (wsV RL 58 RX7 yX7_count wsX7_count) := goodIn_app (goodIn_of _ (by decide +kernel)) ggL_law_X7_count
