set_option maxRecDepth 20000 in
theorem ggL_law_X8_count : GoodIn wsL_law wsX8_count := goodIn_r _ [498, 156, 165, 402, 399, 403, 401, 404, 405, 406, 407, 897, 898, 899, 900, 901, 902, 903, 904, 905, 906, 907, 908, 909, 910, 911, 912, 913, 914, 915, 916, 917, 918, 919, 920, 921, 922, 923, 924, 925, 926, 927, 928, 929, 930, 931, 932, 933] (by decide +kernel) (by decide +kernel)
set_option maxRecDepth 20000 in
theorem gL_law_X8_count : GoodIn wsL_law (wsV RL 62 RX8 yX8_count wsX8_count) := goodIn_app (goodIn_of _ (by decide +kernel)) ggL_law_X8_count
set_option maxRecDepth 20000 in
theorem ggL_law_X7_literal : GoodIn wsL_law wsX7_literal := goodIn_r _ [502, 37, 24, 493, 332, 333, 23, 334, 67, 215, 201, 181, 2, 182, 503, 336, 337, 338, 339, 504, 345, 346, 347, 66, 889, 890, 891, 892, 893, 894, 895, 896, 949, 950, 951, 952, 953, 954, 955, 956, 957, 978, 979] (by decide +kernel) (by decide +kernel)
set_option maxRecDepth 20000 in
theorem gL_law_X7_literal : GoodIn wsL_law (wsV RL 63 RX7 yX7_literal wsX7_literal) := goodIn_app (goodIn_of _ (by decide +kernel)) ggL_law_X7_literal
set_option maxRecDepth 20000 in
theorem ggL_law_X8_literal : GoodIn wsL_law wsX8_literal := goodIn_r _ [508, 156, 165, 399, 126, 127, 158, 159, 5, 160, 897, 898, 899, 900, 901, 902, 903, 904, 905, 906, 907, 908, 909, 910, 911, 912, 913, 914, 915, 916, 917, 918, 919, 920, 921, 922, 923, 924, 925, 926, 927, 928, 929, 930, 931, 932, 933] (by decide +kernel) (by decide +kernel)
set_option maxRecDepth 20000 in
theorem gL_law_X8_literal : GoodIn wsL_law (wsV RL 66 RX8 yX8_literal wsX8_literal) := goodIn_app (goodIn_of _ (by decide +kernel)) ggL_law_X8_literal
set_option maxRecDepth 20000 in
theorem ggL_law_X7_three : GoodIn wsL_law wsX7_three := goodIn_r _ [512, 37, 24, 494, 362, 363, 23, 364, 68, 215, 201, 181, 2, 182, 513, 379, 380, 381, 339, 889, 890, 891, 892, 893, 894, 895, 896, 949, 950, 951, 952, 953, 954, 955, 956, 957, 978, 979] (by decide +kernel) (by decide +kernel)
set_option maxRecDepth 20000 in
theorem gL_law_X7_three : GoodIn wsL_law (wsV RL 67 RX7 yX7_three wsX7_three) := goodIn_app (goodIn_of _ (by decide +kernel)) ggL_law_X7_three
set_option maxRecDepth 20000 in
theorem ggL_law_X8_three : GoodIn wsL_law wsX8_three := goodIn_r _ [517, 156, 165, 401, 128, 158, 159, 5, 160, 897, 898, 899, 900, 901, 902, 903, 904, 905, 906, 907, 908, 909, 910, 911, 912, 913, 914, 915, 916, 917, 918, 919, 920, 921, 922, 923, 924, 925, 926, 927, 928, 929, 930, 931, 932, 933] (by decide +kernel) (by decide +kernel)
set_option maxRecDepth 20000 in
theorem gL_law_X8_three : GoodIn wsL_law (wsV RL 70 RX8 yX8_three wsX8_three) := goodIn_app (goodIn_of _ (by decide +kernel)) ggL_law_X8_three
set_option maxRecDepth 20000 in
theorem ggL_law_X7_end : GoodIn wsL_law wsX7_end := goodIn_r _ [521, 37, 28, 491, 522, 201, 181, 2, 182, 889, 890, 891, 892, 893, 894, 895, 896, 958, 959, 960, 961, 962, 963, 964, 965, 966] (by decide +kernel) (by decide +kernel)
set_option maxRecDepth 20000 in
theorem gL_law_X7_end : GoodIn wsL_law (wsV RL 71 RX7 yX7_end wsX7_end) := goodIn_app (goodIn_of _ (by decide +kernel)) ggL_law_X7_end
set_option maxRecDepth 20000 in
theorem ggL_law_X8_end : GoodIn wsL_law wsX8_end := goodIn_r _ [526, 156, 165, 405, 158, 159, 5, 160, 480, 481, 482, 483, 403, 128, 897, 898, 899, 900, 901, 902, 903, 904, 905, 906, 907, 908, 909, 910, 911, 912, 913, 914, 915, 916, 917, 918, 919, 920, 921, 922, 923, 924, 925, 926, 927, 928, 929, 930, 931, 932, 933] (by decide +kernel) (by decide +kernel)
set_option maxRecDepth 20000 in
theorem gL_law_X8_end : GoodIn wsL_law (wsV RL 74 RX8 yX8_end wsX8_end) := goodIn_app (goodIn_of _ (by decide +kernel)) ggL_law_X8_end
set_option maxRecDepth 20000 in
theorem ggL_law_X7_apart : GoodIn wsL_law wsX7_apart := goodIn_r _ [530, 37, 28, 210, 201, 181, 2, 182, 531, 532, 533, 27, 534, 535, 536, 537, 538, 79, 81, 539, 540, 541, 542, 358, 543, 544, 545, 546, 82, 889, 890, 891, 892, 893, 894, 895, 896, 958, 959, 960, 961, 962, 963, 964, 965, 966] (by decide +kernel) (by decide +kernel)
set_option maxRecDepth 20000 in
theorem gL_law_X7_apart : GoodIn wsL_law (wsV RL 75 RX7 yX7_apart wsX7_apart) := goodIn_app (goodIn_of _ (by decide +kernel)) ggL_law_X7_apart
set_option maxRecDepth 20000 in
theorem ggL_law_X8_apart : GoodIn wsL_law wsX8_apart := goodIn_r _ [550, 156, 165, 407, 158, 159, 5, 160, 551, 552, 553, 554, 555, 556, 557, 558, 405, 559, 560, 561, 562, 130, 131, 480, 481, 482, 483, 403, 128, 563, 564, 565, 566, 129, 897, 898, 899, 900, 901, 902, 903, 904, 905, 906, 907, 908, 909, 910, 911, 912, 913, 914, 915, 916, 917, 918, 919, 920, 921, 922, 923, 924, 925, 926, 927, 928, 929, 930, 931, 932, 933] (by decide +kernel) (by decide +kernel)
set_option maxRecDepth 20000 in
theorem gL_law_X8_apart : GoodIn wsL_law (wsV RL 78 RX8 yX8_apart wsX8_apart) := goodIn_app (goodIn_of _ (by decide +kernel)) ggL_law_X8_apart
set_option maxRecDepth 20000 in
theorem ggL_law_L_solve : GoodIn wsL_law wsL_solve := goodIn_ca (goodIn_r _ [570, 571, 572, 573, 574, 2, 575, 576, 577, 37, 20, 38, 32, 36, 578, 579, 580, 581, 19, 582, 583, 584, 585, 586, 54, 55, 58, 587, 57, 588, 251, 252, 253, 589, 198, 199, 15, 200, 107, 590, 591, 592, 593, 594, 595, 53, 596, 597, 598, 599, 600, 178, 179, 180, 105, 601, 602, 603, 604, 605, 606, 607, 181, 182, 608, 609, 610, 611, 612, 613, 614, 615, 616, 31, 617, 88, 91, 618, 89, 92, 619, 365, 366, 367, 368, 248, 369, 42, 620, 387, 111, 388, 389, 390, 391, 392, 393, 394, 621, 622, 623, 624, 90, 625, 626, 627, 628, 629, 630, 631, 229, 230, 231, 632, 633, 259, 260, 23, 261, 69, 221, 232, 634, 279, 280, 281, 222, 635, 283, 284, 285, 223, 224, 636, 301, 302, 303, 225, 226, 637, 638, 639, 640, 641, 642, 332, 333, 334, 67, 215, 643, 345, 346, 347, 66, 339, 644, 645, 646, 647, 648, 336, 337, 338, 649, 650, 651, 652, 653, 654, 655, 656, 657, 362, 363, 364, 68, 658, 379, 380, 381, 659, 660, 661, 35, 662, 98, 100, 663, 664, 665, 666, 667, 540, 541, 27, 542, 358, 668, 669, 670, 671, 672, 673, 674, 675, 676, 677, 678, 889, 890, 891, 892, 893, 894, 895, 896, 967, 968, 969, 970, 971, 944, 945, 946, 947, 948, 934, 935, 936, 937, 938, 939, 940, 941, 942, 943, 949, 950, 951, 952, 953, 954, 955, 956, 957, 958, 959, 960, 961, 962, 963, 964, 965, 966, 980, 981, 982, 983, 978, 979, 972, 973, 974, 975, 976, 977] (by decide +kernel) (by decide +kernel)) (goodIn_sub (fun _ h => List.mem_append_left _ (List.mem_append_right _ h)) (by decide +kernel))
set_option maxRecDepth 20000 in
theorem gL_law_L_solve : GoodIn wsL_law (va_wsS RL 79 yL_solve wsL_solve) := goodIn_app (goodIn_of _ (by decide +kernel)) ggL_law_L_solve
set_option maxRecDepth 20000 in
theorem ggL_law_X8_solve : GoodIn wsL_law wsX8_solve := goodIn_r _ [682, 165, 156, 119, 132, 166, 167, 683, 684, 685, 5, 686, 135, 125, 133, 134, 117, 687, 688, 689, 690, 157, 120, 121, 124, 123, 122, 158, 159, 160, 691, 692, 693, 694, 695, 696, 697, 698, 403, 137, 402, 399, 127, 126, 412, 413, 414, 415, 118, 432, 433, 434, 435, 436, 437, 438, 439, 448, 449, 450, 451, 699, 700, 701, 702, 703, 704, 705, 706, 707, 405, 404, 139, 130, 129, 708, 709, 710, 711, 128, 712, 713, 714, 715, 480, 481, 482, 483, 897, 898, 899, 900, 901, 902, 903, 904, 905, 906, 907, 908, 909, 910, 911, 912, 913, 914, 915, 916, 917, 918, 919, 920, 921, 922, 923, 924, 925, 926, 927, 928, 929, 930, 931, 932, 933] (by decide +kernel) (by decide +kernel)
set_option maxRecDepth 20000 in
theorem gL_law_X8_solve : GoodIn wsL_law (wsV RL 84 RX8 yX8_solve wsX8_solve) := goodIn_app (goodIn_of _ (by decide +kernel)) ggL_law_X8_solve
