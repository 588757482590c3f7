set_option maxRecDepth 20000 in
theorem ggL_law_X8_thrown : GoodIn wsL_law wsX8_thrown := goodIn_r _ [719, 156, 897, 898, 899, 900, 901, 902, 903, 904, 905, 906, 907, 908, 909, 910, 911, 912, 913, 914, 915, 916, 917, 918, 919, 920, 921, 922, 923, 924, 925, 926, 927, 928, 929, 930, 931, 932, 933] (by decide +kernel) (by decide +kernel)
set_option maxRecDepth 20000 in
theorem gL_law_X8_thrown : GoodIn wsL_law (wsV RL 85 RX8 yX8_thrown wsX8_thrown) := goodIn_app (goodIn_of _ (by decide +kernel)) ggL_law_X8_thrown
set_option maxRecDepth 20000 in
theorem ggL_law_X7_choice : GoodIn wsL_law wsX7_choice := goodIn_r _ [723, 38, 16, 724, 20, 725, 201, 181, 2, 182, 889, 890, 891, 892, 893, 894, 895, 896, 934, 935, 936, 937, 938, 939, 940, 941, 942, 943, 944, 945, 946, 947, 948] (by decide +kernel) (by decide +kernel)
set_option maxRecDepth 20000 in
theorem gL_law_X7_choice : GoodIn wsL_law (wsV RL 88 RX7 yX7_choice wsX7_choice) := goodIn_app (goodIn_of _ (by decide +kernel)) ggL_law_X7_choice
set_option maxRecDepth 20000 in
theorem ggL_law_X8_choice : GoodIn wsL_law wsX8_choice := goodIn_r _ [729, 156, 166, 119, 132, 158, 159, 5, 160, 897, 898, 899, 900, 901, 902, 903, 904, 905, 906, 907, 908, 909, 910, 911, 912, 913, 914, 915, 916, 917, 918, 919, 920, 921, 922, 923, 924, 925, 926, 927, 928, 929, 930, 931, 932, 933] (by decide +kernel) (by decide +kernel)
set_option maxRecDepth 20000 in
theorem gL_law_X8_choice : GoodIn wsL_law (wsV RL 91 RX8 yX8_choice wsX8_choice) := goodIn_app (goodIn_of _ (by decide +kernel)) ggL_law_X8_choice
set_option maxRecDepth 20000 in
theorem ggL_law_X7_truth : GoodIn wsL_law wsX7_truth := goodIn_r _ [733, 38, 24, 489, 32, 734, 201, 181, 2, 182, 889, 890, 891, 892, 893, 894, 895, 896, 949, 950, 951, 952, 953, 954, 955, 956, 957, 967, 968, 969, 970, 971] (by decide +kernel) (by decide +kernel)
set_option maxRecDepth 20000 in
theorem gL_law_X7_truth : GoodIn wsL_law (wsV RL 92 RX7 yX7_truth wsX7_truth) := goodIn_app (goodIn_of _ (by decide +kernel)) ggL_law_X7_truth
set_option maxRecDepth 20000 in
theorem ggL_law_X8_truth : GoodIn wsL_law wsX8_truth := goodIn_r _ [738, 156, 166, 403, 137, 158, 159, 5, 160, 897, 898, 899, 900, 901, 902, 903, 904, 905, 906, 907, 908, 909, 910, 911, 912, 913, 914, 915, 916, 917, 918, 919, 920, 921, 922, 923, 924, 925, 926, 927, 928, 929, 930, 931, 932, 933] (by decide +kernel) (by decide +kernel)
set_option maxRecDepth 20000 in
theorem gL_law_X8_truth : GoodIn wsL_law (wsV RL 95 RX8 yX8_truth wsX8_truth) := goodIn_app (goodIn_of _ (by decide +kernel)) ggL_law_X8_truth
set_option maxRecDepth 20000 in
theorem ggL_law_X7_covers : GoodIn wsL_law wsX7_covers := goodIn_r _ [742, 38, 28, 490, 32, 578, 201, 181, 2, 182, 889, 890, 891, 892, 893, 894, 895, 896, 958, 959, 960, 961, 962, 963, 964, 965, 966, 967, 968, 969, 970, 971] (by decide +kernel) (by decide +kernel)
set_option maxRecDepth 20000 in
theorem gL_law_X7_covers : GoodIn wsL_law (wsV RL 96 RX7 yX7_covers wsX7_covers) := goodIn_app (goodIn_of _ (by decide +kernel)) ggL_law_X7_covers
set_option maxRecDepth 20000 in
theorem ggL_law_X8_covers : GoodIn wsL_law wsX8_covers := goodIn_r _ [746, 156, 166, 404, 158, 159, 5, 160, 708, 709, 710, 711, 403, 128, 699, 700, 701, 702, 137, 897, 898, 899, 900, 901, 902, 903, 904, 905, 906, 907, 908, 909, 910, 911, 912, 913, 914, 915, 916, 917, 918, 919, 920, 921, 922, 923, 924, 925, 926, 927, 928, 929, 930, 931, 932, 933] (by decide +kernel) (by decide +kernel)
set_option maxRecDepth 20000 in
theorem gL_law_X8_covers : GoodIn wsL_law (wsV RL 99 RX8 yX8_covers wsX8_covers) := goodIn_app (goodIn_of _ (by decide +kernel)) ggL_law_X8_covers
set_option maxRecDepth 20000 in
theorem ggL_law_X7_city : GoodIn wsL_law wsX7_city := goodIn_r _ [750, 38, 28, 210, 36, 201, 181, 2, 182, 751, 752, 753, 35, 754, 98, 755, 756, 757, 758, 664, 665, 100, 663, 759, 760, 761, 762, 889, 890, 891, 892, 893, 894, 895, 896, 958, 959, 960, 961, 962, 963, 964, 965, 966, 972, 973, 974, 975, 976, 977] (by decide +kernel) (by decide +kernel)
set_option maxRecDepth 20000 in
theorem gL_law_X7_city : GoodIn wsL_law (wsV RL 100 RX7 yX7_city wsX7_city) := goodIn_app (goodIn_of _ (by decide +kernel)) ggL_law_X7_city
set_option maxRecDepth 20000 in
theorem ggL_law_X8_city : GoodIn wsL_law wsX8_city := goodIn_r _ [766, 156, 167, 407, 139, 158, 159, 5, 160, 897, 898, 899, 900, 901, 902, 903, 904, 905, 906, 907, 908, 909, 910, 911, 912, 913, 914, 915, 916, 917, 918, 919, 920, 921, 922, 923, 924, 925, 926, 927, 928, 929, 930, 931, 932, 933] (by decide +kernel) (by decide +kernel)
set_option maxRecDepth 20000 in
theorem gL_law_X8_city : GoodIn wsL_law (wsV RL 103 RX8 yX8_city wsX8_city) := goodIn_app (goodIn_of _ (by decide +kernel)) ggL_law_X8_city
set_option maxRecDepth 20000 in
theorem ggL_law_L_put : GoodIn wsL_law wsL_put := goodIn_ca (goodIn_ca (goodIn_r _ [769, 571, 770, 771, 772, 773, 2, 774, 775, 776, 28, 210, 36, 777, 778, 779, 780, 576, 577, 38, 201, 181, 182, 781, 782, 783, 35, 784, 98, 755, 756, 757, 758, 664, 665, 100, 663, 759, 760, 761, 762, 889, 890, 891, 892, 893, 894, 895, 896, 958, 959, 960, 961, 962, 963, 964, 965, 966, 972, 973, 974, 975, 976, 977] (by decide +kernel) (by decide +kernel)) (goodIn_sub (fun _ h => List.mem_append_right _ h) (by decide +kernel))) (goodIn_sub (fun _ h => List.mem_append_left _ (List.mem_append_right _ h)) (by decide +kernel))
set_option maxRecDepth 20000 in
theorem gL_law_L_put : GoodIn wsL_law (va_wsS RL 104 yL_put wsL_put) := goodIn_app (goodIn_of _ (by decide +kernel)) ggL_law_L_put
set_option maxRecDepth 20000 in
theorem ggL_law_X8_put : GoodIn wsL_law wsX8_put := goodIn_r _ [788, 407, 139, 158, 159, 5, 160, 789, 790, 791, 792, 167, 156, 897, 898, 899, 900, 901, 902, 903, 904, 905, 906, 907, 908, 909, 910, 911, 912, 913, 914, 915, 916, 917, 918, 919, 920, 921, 922, 923, 924, 925, 926, 927, 928, 929, 930, 931, 932, 933] (by decide +kernel) (by decide +kernel)
set_option maxRecDepth 20000 in
theorem gL_law_X8_put : GoodIn wsL_law (wsV RL 107 RX8 yX8_put wsX8_put) := goodIn_app (goodIn_of _ (by decide +kernel)) ggL_law_X8_put
