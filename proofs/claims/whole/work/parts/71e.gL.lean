set_option maxRecDepth 20000 in
theorem ggL_law_X5_init : GoodIn wsL_law wsX5_init := goodIn_r _ [9, 10, 11, 12, 13, 14, 15, 16, 17, 18, 19, 20, 21, 22, 23, 24, 25, 26, 27, 28, 29, 30, 31, 32, 33, 34, 35, 36, 37, 38, 39, 40, 41, 42, 43, 44, 45, 46, 47, 48, 49, 50, 51, 52, 53, 54, 55, 56, 57, 58, 59, 60, 61, 62, 63, 64, 65, 66, 67, 68, 69, 70, 950, 951, 952, 953, 954, 955, 956, 957, 958, 959, 960, 961, 920, 921, 922, 923, 924, 925, 926, 927, 928, 929, 930, 962, 963, 964, 965, 966, 967, 968, 969, 970, 971, 972, 973, 974, 975, 976, 977] (by decide +kernel) (by decide +kernel)
set_option maxRecDepth 20000 in
theorem gL_law_X5_init : GoodIn wsL_law (wsX5_init) := ggL_law_X5_init
set_option maxRecDepth 20000 in
theorem ggL_law_X6_init : GoodIn wsL_law wsX6_init := goodIn_r _ [73, 74, 11, 12, 41, 75, 76, 19, 77, 78, 79, 80, 81, 82, 83, 84, 85, 86, 87, 931, 932, 933, 934, 935, 936, 937, 938, 939, 940, 941, 942, 943, 944, 945, 946, 947, 948, 949] (by decide +kernel) (by decide +kernel)
set_option maxRecDepth 20000 in
theorem gL_law_X6_init : GoodIn wsL_law (wsX6_init) := ggL_law_X6_init
set_option maxRecDepth 20000 in
theorem ggL_law_X5_posts : GoodIn wsL_law wsX5_posts := goodIn_r _ [91, 16, 92, 93, 94, 2, 95, 96, 97, 98, 99, 100, 101, 102, 103, 15, 104, 40, 105, 106, 107, 108, 109, 110, 111, 112, 42, 43, 920, 921, 922, 923, 924, 925, 926, 927, 928, 929, 930, 950, 951, 952, 953, 954, 955, 956, 957, 958, 959, 960, 961] (by decide +kernel) (by decide +kernel)
set_option maxRecDepth 20000 in
theorem gL_law_X5_posts : GoodIn wsL_law (wsV RL 13 RX5 yX5_posts wsX5_posts) := goodIn_app (goodIn_of _ (by decide +kernel)) ggL_law_X5_posts
set_option maxRecDepth 20000 in
theorem ggL_law_X6_posts : GoodIn wsL_law wsX6_posts := goodIn_r _ [116, 117, 118, 75, 119, 120, 5, 121, 122, 123, 124, 125, 78, 126, 127, 128, 129, 130, 131, 132, 931, 932, 933, 934, 935, 936, 937, 938, 939, 940, 941, 942, 943, 944, 945, 946, 947, 948, 949] (by decide +kernel) (by decide +kernel)
set_option maxRecDepth 20000 in
theorem gL_law_X6_posts : GoodIn wsL_law (wsV RL 17 RX6 yX6_posts wsX6_posts) := goodIn_app (goodIn_of _ (by decide +kernel)) ggL_law_X6_posts
set_option maxRecDepth 20000 in
theorem ggL_law_X5_wire : GoodIn wsL_law wsX5_wire := goodIn_r _ [136, 16, 137, 138, 139, 140, 141, 15, 142, 143, 144, 145, 146, 40, 147, 2, 148, 149, 96, 97, 98, 99, 100, 150, 110, 111, 112, 42, 43, 920, 921, 922, 923, 924, 925, 926, 927, 928, 929, 930, 950, 951, 952, 953, 954, 955, 956, 957, 958, 959, 960, 961] (by decide +kernel) (by decide +kernel)
set_option maxRecDepth 20000 in
theorem gL_law_X5_wire : GoodIn wsL_law (wsV RL 18 RX5 yX5_wire wsX5_wire) := goodIn_app (goodIn_of _ (by decide +kernel)) ggL_law_X5_wire
set_option maxRecDepth 20000 in
theorem ggL_law_X6_wire : GoodIn wsL_law wsX6_wire := goodIn_r _ [154, 155, 156, 75, 157, 158, 159, 5, 160, 161, 162, 163, 164, 119, 120, 121, 122, 123, 124, 125, 78, 931, 932, 933, 934, 935, 936, 937, 938, 939, 940, 941, 942, 943, 944, 945, 946, 947, 948, 949] (by decide +kernel) (by decide +kernel)
set_option maxRecDepth 20000 in
theorem gL_law_X6_wire : GoodIn wsL_law (wsV RL 22 RX6 yX6_wire wsX6_wire) := goodIn_app (goodIn_of _ (by decide +kernel)) ggL_law_X6_wire
set_option maxRecDepth 20000 in
theorem ggL_law_X5_frost : GoodIn wsL_law wsX5_frost := goodIn_r _ [168, 16, 169, 93, 94, 2, 95, 96, 97, 98, 99, 100, 920, 921, 922, 923, 924, 925, 926, 927, 928, 929, 930, 950, 951, 952, 953, 954, 955, 956, 957, 958, 959, 960, 961] (by decide +kernel) (by decide +kernel)
set_option maxRecDepth 20000 in
theorem gL_law_X5_frost : GoodIn wsL_law (wsV RL 23 RX5 yX5_frost wsX5_frost) := goodIn_app (goodIn_of _ (by decide +kernel)) ggL_law_X5_frost
set_option maxRecDepth 20000 in
theorem ggL_law_X6_frost : GoodIn wsL_law wsX6_frost := goodIn_r _ [173, 174, 75, 119, 120, 5, 121, 122, 123, 124, 125, 78, 931, 932, 933, 934, 935, 936, 937, 938, 939, 940, 941, 942, 943, 944, 945, 946, 947, 948, 949] (by decide +kernel) (by decide +kernel)
set_option maxRecDepth 20000 in
theorem gL_law_X6_frost : GoodIn wsL_law (wsV RL 26 RX6 yX6_frost wsX6_frost) := goodIn_app (goodIn_of _ (by decide +kernel)) ggL_law_X6_frost
set_option maxRecDepth 20000 in
theorem ggL_law_X5_guard : GoodIn wsL_law wsX5_guard := goodIn_r _ [178, 16, 179, 180, 181, 182, 15, 183, 40, 147, 2, 148, 96, 97, 98, 99, 100, 184, 185, 186, 187, 106, 188, 189, 190, 191, 192, 193, 194, 920, 921, 922, 923, 924, 925, 926, 927, 928, 929, 930, 950, 951, 952, 953, 954, 955, 956, 957, 958, 959, 960, 961] (by decide +kernel) (by decide +kernel)
set_option maxRecDepth 20000 in
theorem gL_law_X5_guard : GoodIn wsL_law (wsV RL 27 RX5 yX5_guard wsX5_guard) := goodIn_app (goodIn_of _ (by decide +kernel)) ggL_law_X5_guard
set_option maxRecDepth 20000 in
theorem ggL_law_X6_guard : GoodIn wsL_law wsX6_guard := goodIn_r _ [198, 75, 199, 200, 201, 5, 202, 126, 127, 128, 129, 119, 120, 121, 122, 123, 124, 125, 78, 203, 204, 205, 206, 931, 932, 933, 934, 935, 936, 937, 938, 939, 940, 941, 942, 943, 944, 945, 946, 947, 948, 949] (by decide +kernel) (by decide +kernel)
set_option maxRecDepth 20000 in
theorem gL_law_X6_guard : GoodIn wsL_law (wsV RL 31 RX6 yX6_guard wsX6_guard) := goodIn_app (goodIn_of _ (by decide +kernel)) ggL_law_X6_guard
set_option maxRecDepth 20000 in
theorem ggL_law_X5_wind : GoodIn wsL_law wsX5_wind := goodIn_r _ [210, 16, 211, 149, 147, 2, 148, 139, 140, 141, 15, 142, 143, 144, 145, 146, 40, 96, 97, 98, 99, 100, 212, 213, 214, 215, 216, 217, 218, 219, 220, 107, 44, 45, 920, 921, 922, 923, 924, 925, 926, 927, 928, 929, 930, 950, 951, 952, 953, 954, 955, 956, 957, 958, 959, 960, 961] (by decide +kernel) (by decide +kernel)
set_option maxRecDepth 20000 in
theorem gL_law_X5_wind : GoodIn wsL_law (wsV RL 32 RX5 yX5_wind wsX5_wind) := goodIn_app (goodIn_of _ (by decide +kernel)) ggL_law_X5_wind
set_option maxRecDepth 20000 in
theorem ggL_law_X6_wind : GoodIn wsL_law wsX6_wind := goodIn_r _ [224, 75, 225, 226, 5, 227, 228, 119, 120, 121, 157, 158, 159, 160, 161, 162, 163, 164, 122, 123, 124, 125, 78, 229, 230, 231, 232, 233, 234, 235, 931, 932, 933, 934, 935, 936, 937, 938, 939, 940, 941, 942, 943, 944, 945, 946, 947, 948, 949] (by decide +kernel) (by decide +kernel)
set_option maxRecDepth 20000 in
theorem gL_law_X6_wind : GoodIn wsL_law (wsV RL 36 RX6 yX6_wind wsX6_wind) := goodIn_app (goodIn_of _ (by decide +kernel)) ggL_law_X6_wind
set_option maxRecDepth 20000 in
theorem ggL_law_X5_calm : GoodIn wsL_law wsX5_calm := goodIn_r _ [239, 16, 211, 920, 921, 922, 923, 924, 925, 926, 927, 928, 929, 930, 950, 951, 952, 953, 954, 955, 956, 957, 958, 959, 960, 961] (by decide +kernel) (by decide +kernel)
set_option maxRecDepth 20000 in
theorem gL_law_X5_calm : GoodIn wsL_law (wsV RL 37 RX5 yX5_calm wsX5_calm) := goodIn_app (goodIn_of _ (by decide +kernel)) ggL_law_X5_calm
set_option maxRecDepth 20000 in
theorem ggL_law_X6_calm : GoodIn wsL_law wsX6_calm := goodIn_r _ [243, 75, 931, 932, 933, 934, 935, 936, 937, 938, 939, 940, 941, 942, 943, 944, 945, 946, 947, 948, 949] (by decide +kernel) (by decide +kernel)
set_option maxRecDepth 20000 in
theorem gL_law_X6_calm : GoodIn wsL_law (wsV RL 41 RX6 yX6_calm wsX6_calm) := goodIn_app (goodIn_of _ (by decide +kernel)) ggL_law_X6_calm
set_option maxRecDepth 20000 in
theorem ggL_law_X5_pass : GoodIn wsL_law wsX5_pass := goodIn_r _ [247, 16, 248, 149, 147, 2, 148, 139, 140, 141, 15, 142, 143, 144, 145, 146, 40, 96, 97, 98, 99, 100, 212, 213, 214, 215, 216, 249, 250, 251, 252, 108, 46, 47, 48, 920, 921, 922, 923, 924, 925, 926, 927, 928, 929, 930, 950, 951, 952, 953, 954, 955, 956, 957, 958, 959, 960, 961] (by decide +kernel) (by decide +kernel)
set_option maxRecDepth 20000 in
theorem gL_law_X5_pass : GoodIn wsL_law (wsV RL 42 RX5 yX5_pass wsX5_pass) := goodIn_app (goodIn_of _ (by decide +kernel)) ggL_law_X5_pass
set_option maxRecDepth 20000 in
theorem ggL_law_X6_pass : GoodIn wsL_law wsX6_pass := goodIn_r _ [256, 75, 225, 226, 5, 227, 228, 119, 120, 121, 157, 158, 159, 160, 161, 162, 163, 164, 257, 258, 259, 260, 122, 123, 124, 125, 78, 229, 230, 231, 232, 261, 262, 263, 931, 932, 933, 934, 935, 936, 937, 938, 939, 940, 941, 942, 943, 944, 945, 946, 947, 948, 949] (by decide +kernel) (by decide +kernel)
set_option maxRecDepth 20000 in
theorem gL_law_X6_pass : GoodIn wsL_law (wsV RL 45 RX6 yX6_pass wsX6_pass) := goodIn_app (goodIn_of _ (by decide +kernel)) ggL_law_X6_pass
