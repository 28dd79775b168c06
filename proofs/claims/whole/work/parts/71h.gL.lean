set_option maxRecDepth 20000 in
theorem ggL_law_X5_doubled : GoodIn wsL_law wsX5_doubled := goodIn_r _ [831, 16, 780, 601, 144, 145, 15, 146, 40, 781, 548, 549, 550, 551, 494, 495, 496, 42, 497, 2, 498, 552, 553, 554, 555, 556, 557, 314, 558, 559, 313, 315, 782, 633, 634, 635, 636, 637, 638, 832, 833, 920, 921, 922, 923, 924, 925, 926, 927, 928, 929, 930, 950, 951, 952, 953, 954, 955, 956, 957, 958, 959, 960, 961] (by decide +kernel) (by decide +kernel)
set_option maxRecDepth 20000 in
theorem gL_law_X5_doubled : GoodIn wsL_law (wsV RL 114 RX5 yX5_doubled wsX5_doubled) := goodIn_app (goodIn_of _ (by decide +kernel)) ggL_law_X5_doubled
set_option maxRecDepth 20000 in
theorem ggL_law_X6_doubled : GoodIn wsL_law wsX6_doubled := goodIn_r _ [837, 75, 838, 839, 840, 5, 841, 161, 162, 163, 164, 126, 127, 128, 129, 581, 582, 583, 584, 509, 510, 511, 512, 528, 529, 530, 931, 932, 933, 934, 935, 936, 937, 938, 939, 940, 941, 942, 943, 944, 945, 946, 947, 948, 949] (by decide +kernel) (by decide +kernel)
set_option maxRecDepth 20000 in
theorem gL_law_X6_doubled : GoodIn wsL_law (wsV RL 117 RX6 yX6_doubled wsX6_doubled) := goodIn_app (goodIn_of _ (by decide +kernel)) ggL_law_X6_doubled
set_option maxRecDepth 20000 in
theorem ggL_law_X5_doubt : GoodIn wsL_law wsX5_doubt := goodIn_r _ [845, 36, 846, 557, 314, 558, 93, 94, 2, 95, 96, 97, 98, 99, 100, 786, 787, 788, 35, 789, 69, 70, 790, 791, 792, 920, 921, 922, 923, 924, 925, 926, 927, 928, 929, 930, 976, 977] (by decide +kernel) (by decide +kernel)
set_option maxRecDepth 20000 in
theorem gL_law_X5_doubt : GoodIn wsL_law (wsV RL 118 RX5 yX5_doubt wsX5_doubt) := goodIn_app (goodIn_of _ (by decide +kernel)) ggL_law_X5_doubt
set_option maxRecDepth 20000 in
theorem ggL_law_X6_doubt : GoodIn wsL_law wsX6_doubt := goodIn_r _ [850, 851, 119, 120, 5, 121, 122, 123, 124, 125, 78, 804, 805, 806, 807, 808, 79, 931, 932, 933, 934, 935, 936, 937, 938, 939, 940, 941, 942, 943, 944, 945, 946, 947, 948, 949] (by decide +kernel) (by decide +kernel)
set_option maxRecDepth 20000 in
theorem gL_law_X6_doubt : GoodIn wsL_law (wsV RL 121 RX6 yX6_doubt wsX6_doubt) := goodIn_app (goodIn_of _ (by decide +kernel)) ggL_law_X6_doubt
set_option maxRecDepth 20000 in
theorem ggL_law_X5_part : GoodIn wsL_law wsX5_part := goodIn_r _ [855, 36, 856, 857, 149, 147, 2, 148, 96, 97, 98, 99, 100, 920, 921, 922, 923, 924, 925, 926, 927, 928, 929, 930, 976, 977] (by decide +kernel) (by decide +kernel)
set_option maxRecDepth 20000 in
theorem gL_law_X5_part : GoodIn wsL_law (wsV RL 122 RX5 yX5_part wsX5_part) := goodIn_app (goodIn_of _ (by decide +kernel)) ggL_law_X5_part
set_option maxRecDepth 20000 in
theorem ggL_law_X6_part : GoodIn wsL_law wsX6_part := goodIn_r _ [861, 808, 79, 122, 123, 124, 5, 125, 78, 931, 932, 933, 934, 935, 936, 937, 938, 939, 940, 941, 942, 943, 944, 945, 946, 947, 948, 949] (by decide +kernel) (by decide +kernel)
set_option maxRecDepth 20000 in
theorem gL_law_X6_part : GoodIn wsL_law (wsV RL 126 RX6 yX6_part wsX6_part) := goodIn_app (goodIn_of _ (by decide +kernel)) ggL_law_X6_part
set_option maxRecDepth 20000 in
theorem ggL_law_X5_image : GoodIn wsL_law wsX5_image := goodIn_r _ [865, 18, 16, 20, 149, 147, 2, 148, 96, 97, 98, 99, 100, 419, 420, 421, 15, 422, 40, 105, 106, 107, 108, 42, 423, 424, 425, 426, 43, 44, 45, 46, 47, 48, 920, 921, 922, 923, 924, 925, 926, 927, 928, 929, 930, 950, 951, 952, 953, 954, 955, 956, 957, 958, 959, 960, 961] (by decide +kernel) (by decide +kernel)
set_option maxRecDepth 20000 in
theorem gL_law_X5_image : GoodIn wsL_law (wsV RL 127 RX5 yX5_image wsX5_image) := goodIn_app (goodIn_of _ (by decide +kernel)) ggL_law_X5_image
set_option maxRecDepth 20000 in
theorem ggL_law_X6_image : GoodIn wsL_law wsX6_image := goodIn_r _ [869, 76, 75, 77, 119, 120, 5, 121, 122, 123, 124, 125, 78, 931, 932, 933, 934, 935, 936, 937, 938, 939, 940, 941, 942, 943, 944, 945, 946, 947, 948, 949] (by decide +kernel) (by decide +kernel)
set_option maxRecDepth 20000 in
theorem gL_law_X6_image : GoodIn wsL_law (wsV RL 130 RX6 yX6_image wsX6_image) := goodIn_app (goodIn_of _ (by decide +kernel)) ggL_law_X6_image
set_option maxRecDepth 20000 in
theorem ggL_law_X5_from : GoodIn wsL_law wsX5_from := goodIn_r _ [873, 20, 16, 18, 149, 147, 2, 148, 96, 97, 98, 99, 100, 190, 191, 192, 193, 194, 419, 420, 421, 15, 422, 40, 105, 106, 107, 108, 42, 423, 424, 425, 426, 43, 44, 45, 46, 47, 48, 920, 921, 922, 923, 924, 925, 926, 927, 928, 929, 930, 950, 951, 952, 953, 954, 955, 956, 957, 958, 959, 960, 961] (by decide +kernel) (by decide +kernel)
set_option maxRecDepth 20000 in
theorem gL_law_X5_from : GoodIn wsL_law (wsV RL 131 RX5 yX5_from wsX5_from) := goodIn_app (goodIn_of _ (by decide +kernel)) ggL_law_X5_from
set_option maxRecDepth 20000 in
theorem ggL_law_X6_from : GoodIn wsL_law wsX6_from := goodIn_r _ [877, 77, 75, 76, 119, 120, 5, 121, 122, 123, 124, 125, 78, 203, 204, 205, 206, 931, 932, 933, 934, 935, 936, 937, 938, 939, 940, 941, 942, 943, 944, 945, 946, 947, 948, 949] (by decide +kernel) (by decide +kernel)
set_option maxRecDepth 20000 in
theorem gL_law_X6_from : GoodIn wsL_law (wsV RL 134 RX6 yX6_from wsX6_from) := goodIn_app (goodIn_of _ (by decide +kernel)) ggL_law_X6_from
set_option maxRecDepth 20000 in
theorem ggL_law_X5_status : GoodIn wsL_law wsX5_status := goodIn_r _ [881, 100, 194, 216, 96, 97, 98, 2, 99, 920, 921, 922, 923, 924, 925, 926, 927, 928, 929, 930] (by decide +kernel) (by decide +kernel)
set_option maxRecDepth 20000 in
theorem gL_law_X5_status : GoodIn wsL_law (wsV RL 135 RX5 yX5_status wsX5_status) := goodIn_app (goodIn_of _ (by decide +kernel)) ggL_law_X5_status
set_option maxRecDepth 20000 in
theorem ggL_law_X6_status : GoodIn wsL_law wsX6_status := goodIn_r _ [885, 117, 78, 119, 120, 5, 121, 122, 123, 124, 125, 931, 932, 933, 934, 935, 936, 937, 938, 939, 940, 941, 942, 943, 944, 945, 946, 947, 948, 949] (by decide +kernel) (by decide +kernel)
set_option maxRecDepth 20000 in
theorem gL_law_X6_status : GoodIn wsL_law (wsV RL 138 RX6 yX6_status wsX6_status) := goodIn_app (goodIn_of _ (by decide +kernel)) ggL_law_X6_status
set_option maxRecDepth 20000 in
theorem ggL_law_X5_count : GoodIn wsL_law wsX5_count := goodIn_r _ [889, 16, 92, 179, 211, 248, 24, 276, 169, 782, 633, 634, 635, 636, 637, 638, 96, 97, 98, 2, 99, 100, 920, 921, 922, 923, 924, 925, 926, 927, 928, 929, 930, 950, 951, 952, 953, 954, 955, 956, 957, 958, 959, 960, 961, 962, 963, 964, 965, 966] (by decide +kernel) (by decide +kernel)
set_option maxRecDepth 20000 in
theorem gL_law_X5_count : GoodIn wsL_law (wsV RL 139 RX5 yX5_count wsX5_count) := goodIn_app (goodIn_of _ (by decide +kernel)) ggL_law_X5_count
set_option maxRecDepth 20000 in
theorem ggL_law_X6_count : GoodIn wsL_law wsX6_count := goodIn_r _ [893, 174, 119, 120, 5, 121, 894, 895, 896, 897, 75, 287, 126, 127, 128, 129, 643, 644, 645, 122, 123, 124, 125, 78, 931, 932, 933, 934, 935, 936, 937, 938, 939, 940, 941, 942, 943, 944, 945, 946, 947, 948, 949] (by decide +kernel) (by decide +kernel)
set_option maxRecDepth 20000 in
theorem gL_law_X6_count : GoodIn wsL_law (wsV RL 142 RX6 yX6_count wsX6_count) := goodIn_app (goodIn_of _ (by decide +kernel)) ggL_law_X6_count
set_option maxRecDepth 20000 in
theorem ggL_law_X5_digest : GoodIn wsL_law wsX5_digest := goodIn_r _ [901, 902, 903, 16, 36, 856, 857, 904, 887, 888, 2, 889, 92, 179, 211, 248, 24, 276, 169, 782, 633, 634, 635, 636, 637, 638, 96, 97, 98, 99, 100, 905, 906, 907, 15, 908, 909, 106, 42, 43, 107, 44, 45, 108, 46, 47, 48, 143, 144, 145, 146, 40, 920, 921, 922, 923, 924, 925, 926, 927, 928, 929, 930, 976, 977, 950, 951, 952, 953, 954, 955, 956, 957, 958, 959, 960, 961, 962, 963, 964, 965, 966] (by decide +kernel) (by decide +kernel)
set_option maxRecDepth 20000 in
theorem gL_law_X5_digest : GoodIn wsL_law (wsV RL 143 RX5 yX5_digest wsX5_digest) := goodIn_app (goodIn_of _ (by decide +kernel)) ggL_law_X5_digest
set_option maxRecDepth 20000 in
theorem ggL_law_X6_digest : GoodIn wsL_law wsX6_digest := goodIn_r _ [913, 914, 915, 75, 808, 79, 894, 895, 896, 5, 897, 287, 126, 127, 128, 129, 643, 644, 645, 161, 162, 163, 164, 916, 917, 918, 919, 931, 932, 933, 934, 935, 936, 937, 938, 939, 940, 941, 942, 943, 944, 945, 946, 947, 948, 949] (by decide +kernel) (by decide +kernel)
set_option maxRecDepth 20000 in
theorem gL_law_X6_digest : GoodIn wsL_law (wsV RL 147 RX6 yX6_digest wsX6_digest) := goodIn_app (goodIn_of _ (by decide +kernel)) ggL_law_X6_digest
