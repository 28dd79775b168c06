set_option maxRecDepth 20000 in
theorem ggL_law_X5_undo : GoodIn wsL_law wsX5_undo := goodIn_r _ [267, 16, 248, 190, 191, 192, 2, 193, 194, 920, 921, 922, 923, 924, 925, 926, 927, 928, 929, 930, 950, 951, 952, 953, 954, 955, 956, 957, 958, 959, 960, 961] (by decide +kernel) (by decide +kernel)
set_option maxRecDepth 20000 in
theorem gL_law_X5_undo : GoodIn wsL_law (wsV RL 46 RX5 yX5_undo wsX5_undo) := goodIn_app (goodIn_of _ (by decide +kernel)) ggL_law_X5_undo
set_option maxRecDepth 20000 in
theorem ggL_law_X6_undo : GoodIn wsL_law wsX6_undo := goodIn_r _ [271, 75, 203, 204, 205, 5, 206, 78, 931, 932, 933, 934, 935, 936, 937, 938, 939, 940, 941, 942, 943, 944, 945, 946, 947, 948, 949] (by decide +kernel) (by decide +kernel)
set_option maxRecDepth 20000 in
theorem gL_law_X6_undo : GoodIn wsL_law (wsV RL 49 RX6 yX6_undo wsX6_undo) := goodIn_app (goodIn_of _ (by decide +kernel)) ggL_law_X6_undo
set_option maxRecDepth 20000 in
theorem ggL_law_X5_type : GoodIn wsL_law wsX5_type := goodIn_r _ [275, 24, 276, 93, 94, 2, 95, 96, 97, 98, 99, 100, 212, 213, 214, 215, 216, 277, 278, 279, 23, 280, 281, 53, 920, 921, 922, 923, 924, 925, 926, 927, 928, 929, 930, 962, 963, 964, 965, 966] (by decide +kernel) (by decide +kernel)
set_option maxRecDepth 20000 in
theorem gL_law_X5_type : GoodIn wsL_law (wsV RL 52 RX5 yX5_type wsX5_type) := goodIn_app (goodIn_of _ (by decide +kernel)) ggL_law_X5_type
set_option maxRecDepth 20000 in
theorem ggL_law_X6_type : GoodIn wsL_law wsX6_type := goodIn_r _ [285, 286, 287, 85, 288, 119, 120, 5, 121, 122, 123, 124, 125, 78, 229, 230, 231, 232, 931, 932, 933, 934, 935, 936, 937, 938, 939, 940, 941, 942, 943, 944, 945, 946, 947, 948, 949] (by decide +kernel) (by decide +kernel)
set_option maxRecDepth 20000 in
theorem gL_law_X6_type : GoodIn wsL_law (wsV RL 56 RX6 yX6_type wsX6_type) := goodIn_app (goodIn_of _ (by decide +kernel)) ggL_law_X6_type
set_option maxRecDepth 20000 in
theorem ggL_law_X5_clear : GoodIn wsL_law wsX5_clear := goodIn_r _ [292, 24, 276, 920, 921, 922, 923, 924, 925, 926, 927, 928, 929, 930, 962, 963, 964, 965, 966] (by decide +kernel) (by decide +kernel)
set_option maxRecDepth 20000 in
theorem gL_law_X5_clear : GoodIn wsL_law (wsV RL 57 RX5 yX5_clear wsX5_clear) := goodIn_app (goodIn_of _ (by decide +kernel)) ggL_law_X5_clear
set_option maxRecDepth 20000 in
theorem ggL_law_X6_clear : GoodIn wsL_law wsX6_clear := goodIn_r _ [296, 287, 931, 932, 933, 934, 935, 936, 937, 938, 939, 940, 941, 942, 943, 944, 945, 946, 947, 948, 949] (by decide +kernel) (by decide +kernel)
set_option maxRecDepth 20000 in
theorem gL_law_X6_clear : GoodIn wsL_law (wsV RL 60 RX6 yX6_clear wsX6_clear) := goodIn_app (goodIn_of _ (by decide +kernel)) ggL_law_X6_clear
set_option maxRecDepth 20000 in
theorem ggL_law_X5_read : GoodIn wsL_law wsX5_read := goodIn_r _ [300, 24, 17, 16, 301, 302, 303, 23, 304, 305, 281, 306, 307, 308, 309, 310, 311, 53, 312, 313, 314, 315, 316, 317, 318, 319, 320, 321, 322, 323, 324, 325, 326, 327, 328, 329, 330, 331, 332, 333, 334, 335, 336, 337, 338, 339, 340, 341, 342, 343, 344, 345, 346, 347, 348, 349, 350, 351, 352, 353, 354, 355, 356, 357, 358, 359, 360, 361, 362, 363, 364, 365, 366, 367, 368, 369, 370, 371, 372, 373, 374, 375, 376, 377, 378, 379, 94, 2, 95, 380, 102, 103, 15, 104, 40, 105, 106, 107, 108, 109, 110, 111, 112, 42, 43, 381, 382, 383, 384, 385, 386, 387, 388, 389, 390, 391, 392, 393, 144, 145, 146, 394, 395, 396, 397, 398, 399, 400, 401, 402, 403, 404, 405, 406, 185, 186, 187, 188, 189, 407, 408, 409, 410, 411, 412, 218, 219, 220, 44, 45, 413, 414, 415, 416, 417, 418, 250, 251, 252, 46, 47, 48, 419, 420, 421, 422, 423, 424, 425, 426, 920, 921, 922, 923, 924, 925, 926, 927, 928, 929, 930, 962, 963, 964, 965, 966, 950, 951, 952, 953, 954, 955, 956, 957, 958, 959, 960, 961] (by decide +kernel) (by decide +kernel)
set_option maxRecDepth 20000 in
theorem gL_law_X5_read : GoodIn wsL_law (wsV RL 61 RX5 yX5_read wsX5_read) := goodIn_app (goodIn_of _ (by decide +kernel)) ggL_law_X5_read
set_option maxRecDepth 20000 in
theorem ggL_law_X6_read : GoodIn wsL_law wsX6_read := goodIn_r _ [430, 87, 431, 432, 75, 86, 433, 434, 435, 5, 436, 287, 85, 437, 438, 439, 440, 441, 442, 443, 119, 120, 121, 444, 445, 446, 447, 448, 449, 450, 451, 452, 453, 454, 455, 456, 457, 458, 459, 460, 461, 462, 463, 464, 130, 131, 132, 465, 466, 467, 468, 469, 470, 471, 472, 473, 474, 475, 476, 477, 478, 479, 480, 481, 482, 483, 484, 233, 234, 235, 485, 486, 487, 488, 261, 262, 263, 931, 932, 933, 934, 935, 936, 937, 938, 939, 940, 941, 942, 943, 944, 945, 946, 947, 948, 949] (by decide +kernel) (by decide +kernel)
set_option maxRecDepth 20000 in
theorem gL_law_X6_read : GoodIn wsL_law (wsV RL 64 RX6 yX6_read wsX6_read) := goodIn_app (goodIn_of _ (by decide +kernel)) ggL_law_X6_read
set_option maxRecDepth 20000 in
theorem ggL_law_X5_sounds : GoodIn wsL_law wsX5_sounds := goodIn_r _ [492, 16, 139, 140, 141, 15, 142, 143, 144, 145, 146, 40, 147, 2, 148, 93, 94, 95, 149, 96, 97, 98, 99, 100, 493, 494, 495, 496, 42, 497, 498, 499, 500, 501, 502, 43, 105, 503, 504, 920, 921, 922, 923, 924, 925, 926, 927, 928, 929, 930, 950, 951, 952, 953, 954, 955, 956, 957, 958, 959, 960, 961] (by decide +kernel) (by decide +kernel)
set_option maxRecDepth 20000 in
theorem gL_law_X5_sounds : GoodIn wsL_law (wsV RL 65 RX5 yX5_sounds wsX5_sounds) := goodIn_app (goodIn_of _ (by decide +kernel)) ggL_law_X5_sounds
set_option maxRecDepth 20000 in
theorem ggL_law_X6_sounds : GoodIn wsL_law wsX6_sounds := goodIn_r _ [508, 260, 157, 158, 159, 5, 160, 161, 162, 163, 164, 75, 119, 120, 121, 122, 123, 124, 125, 78, 509, 510, 511, 512, 513, 514, 515, 516, 517, 518, 519, 931, 932, 933, 934, 935, 936, 937, 938, 939, 940, 941, 942, 943, 944, 945, 946, 947, 948, 949] (by decide +kernel) (by decide +kernel)
set_option maxRecDepth 20000 in
theorem gL_law_X6_sounds : GoodIn wsL_law (wsV RL 68 RX6 yX6_sounds wsX6_sounds) := goodIn_app (goodIn_of _ (by decide +kernel)) ggL_law_X6_sounds
set_option maxRecDepth 20000 in
theorem ggL_law_X5_away : GoodIn wsL_law wsX5_away := goodIn_r _ [523, 16, 180, 181, 182, 15, 183, 40, 147, 2, 148, 139, 140, 141, 142, 143, 144, 145, 146, 96, 97, 98, 99, 100, 920, 921, 922, 923, 924, 925, 926, 927, 928, 929, 930, 950, 951, 952, 953, 954, 955, 956, 957, 958, 959, 960, 961] (by decide +kernel) (by decide +kernel)
set_option maxRecDepth 20000 in
theorem gL_law_X5_away : GoodIn wsL_law (wsV RL 69 RX5 yX5_away wsX5_away) := goodIn_app (goodIn_of _ (by decide +kernel)) ggL_law_X5_away
set_option maxRecDepth 20000 in
theorem ggL_law_X6_away : GoodIn wsL_law wsX6_away := goodIn_r _ [527, 199, 200, 201, 5, 202, 126, 127, 128, 129, 75, 119, 120, 121, 157, 158, 159, 160, 161, 162, 163, 164, 528, 529, 530, 122, 123, 124, 125, 78, 931, 932, 933, 934, 935, 936, 937, 938, 939, 940, 941, 942, 943, 944, 945, 946, 947, 948, 949] (by decide +kernel) (by decide +kernel)
set_option maxRecDepth 20000 in
theorem gL_law_X6_away : GoodIn wsL_law (wsV RL 72 RX6 yX6_away wsX6_away) := goodIn_app (goodIn_of _ (by decide +kernel)) ggL_law_X6_away
set_option maxRecDepth 20000 in
theorem ggL_law_X5_heard : GoodIn wsL_law wsX5_heard := goodIn_r _ [534, 16, 180, 181, 182, 15, 183, 40, 147, 2, 148, 149, 96, 97, 98, 99, 100, 535, 536, 537, 538, 108, 46, 47, 48, 107, 44, 45, 539, 540, 541, 542, 543, 544, 545, 546, 547, 548, 549, 550, 551, 494, 495, 496, 42, 497, 498, 552, 553, 554, 555, 556, 557, 314, 558, 559, 313, 315, 188, 189, 560, 500, 501, 502, 43, 105, 503, 504, 561, 140, 141, 142, 143, 144, 145, 146, 920, 921, 922, 923, 924, 925, 926, 927, 928, 929, 930, 950, 951, 952, 953, 954, 955, 956, 957, 958, 959, 960, 961] (by decide +kernel) (by decide +kernel)
set_option maxRecDepth 20000 in
theorem gL_law_X5_heard : GoodIn wsL_law (wsV RL 73 RX5 yX5_heard wsX5_heard) := goodIn_app (goodIn_of _ (by decide +kernel)) ggL_law_X5_heard
set_option maxRecDepth 20000 in
theorem ggL_law_X6_heard : GoodIn wsL_law wsX6_heard := goodIn_r _ [565, 199, 200, 201, 5, 202, 126, 127, 128, 129, 75, 119, 120, 121, 225, 226, 227, 228, 566, 567, 568, 569, 570, 571, 572, 573, 574, 575, 576, 577, 578, 579, 580, 581, 582, 583, 584, 509, 510, 511, 512, 528, 529, 530, 513, 514, 515, 516, 517, 518, 519, 161, 162, 163, 164, 122, 123, 124, 125, 78, 931, 932, 933, 934, 935, 936, 937, 938, 939, 940, 941, 942, 943, 944, 945, 946, 947, 948, 949] (by decide +kernel) (by decide +kernel)
set_option maxRecDepth 20000 in
theorem gL_law_X6_heard : GoodIn wsL_law (wsV RL 76 RX6 yX6_heard wsX6_heard) := goodIn_app (goodIn_of _ (by decide +kernel)) ggL_law_X6_heard
set_option maxRecDepth 20000 in
theorem ggL_law_X5_alarm : GoodIn wsL_law wsX5_alarm := goodIn_r _ [588, 16, 92, 149, 147, 2, 148, 96, 97, 98, 99, 100, 184, 185, 186, 15, 187, 106, 188, 189, 535, 536, 537, 538, 108, 46, 47, 48, 107, 44, 45, 539, 540, 541, 542, 543, 544, 545, 546, 547, 548, 549, 550, 551, 494, 495, 496, 42, 497, 498, 552, 553, 554, 555, 556, 557, 314, 558, 40, 559, 313, 315, 560, 500, 501, 502, 43, 105, 503, 504, 561, 140, 141, 142, 143, 144, 145, 146, 920, 921, 922, 923, 924, 925, 926, 927, 928, 929, 930, 950, 951, 952, 953, 954, 955, 956, 957, 958, 959, 960, 961] (by decide +kernel) (by decide +kernel)
set_option maxRecDepth 20000 in
theorem gL_law_X5_alarm : GoodIn wsL_law (wsV RL 77 RX5 yX5_alarm wsX5_alarm) := goodIn_app (goodIn_of _ (by decide +kernel)) ggL_law_X5_alarm
set_option maxRecDepth 20000 in
theorem ggL_law_X6_alarm : GoodIn wsL_law wsX6_alarm := goodIn_r _ [592, 225, 226, 5, 227, 228, 119, 120, 121, 122, 123, 124, 125, 78, 126, 127, 128, 129, 75, 593, 594, 595, 596, 566, 567, 568, 569, 570, 571, 572, 573, 574, 575, 576, 577, 578, 579, 580, 581, 582, 583, 584, 509, 510, 511, 512, 528, 529, 530, 513, 514, 515, 516, 517, 518, 519, 161, 162, 163, 164, 931, 932, 933, 934, 935, 936, 937, 938, 939, 940, 941, 942, 943, 944, 945, 946, 947, 948, 949] (by decide +kernel) (by decide +kernel)
set_option maxRecDepth 20000 in
theorem gL_law_X6_alarm : GoodIn wsL_law (wsV RL 80 RX6 yX6_alarm wsX6_alarm) := goodIn_app (goodIn_of _ (by decide +kernel)) ggL_law_X6_alarm
