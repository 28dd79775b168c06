set_option maxRecDepth 20000 in
theorem ggL_law_X5_which : GoodIn wsL_law wsX5_which := goodIn_r _ [600, 16, 180, 181, 182, 15, 183, 40, 147, 2, 148, 93, 94, 95, 96, 97, 98, 99, 100, 601, 144, 145, 146, 602, 540, 541, 542, 543, 544, 545, 546, 547, 548, 549, 550, 551, 494, 495, 496, 42, 497, 498, 552, 553, 554, 555, 556, 557, 314, 558, 559, 313, 315, 188, 189, 560, 500, 501, 502, 43, 105, 503, 504, 561, 140, 141, 142, 143, 920, 921, 922, 923, 924, 925, 926, 927, 928, 929, 930, 950, 951, 952, 953, 954, 955, 956, 957, 958, 959, 960, 961] (by decide +kernel) (by decide +kernel)
set_option maxRecDepth 20000 in
theorem gL_law_X5_which : GoodIn wsL_law (wsV RL 81 RX5 yX5_which wsX5_which) := goodIn_app (goodIn_of _ (by decide +kernel)) ggL_law_X5_which
set_option maxRecDepth 20000 in
theorem ggL_law_X6_which : GoodIn wsL_law wsX6_which := goodIn_r _ [606, 607, 199, 200, 201, 5, 202, 126, 127, 128, 129, 75, 119, 120, 121, 122, 123, 124, 125, 78, 161, 162, 163, 164, 570, 571, 572, 573, 574, 575, 576, 577, 578, 579, 580, 581, 582, 583, 584, 509, 510, 511, 512, 528, 529, 530, 513, 514, 515, 516, 517, 518, 519, 931, 932, 933, 934, 935, 936, 937, 938, 939, 940, 941, 942, 943, 944, 945, 946, 947, 948, 949] (by decide +kernel) (by decide +kernel)
set_option maxRecDepth 20000 in
theorem gL_law_X6_which : GoodIn wsL_law (wsV RL 85 RX6 yX6_which wsX6_which) := goodIn_app (goodIn_of _ (by decide +kernel)) ggL_law_X6_which
set_option maxRecDepth 20000 in
theorem ggL_law_X5_cover : GoodIn wsL_law wsX5_cover := goodIn_r _ [611, 28, 16, 93, 94, 2, 95, 96, 97, 98, 99, 100, 612, 613, 614, 27, 615, 616, 617, 618, 619, 620, 621, 57, 622, 144, 145, 15, 146, 40, 623, 624, 625, 626, 42, 627, 548, 549, 550, 551, 494, 495, 496, 497, 498, 552, 553, 554, 555, 556, 557, 314, 558, 559, 313, 315, 628, 629, 630, 631, 632, 633, 634, 635, 636, 637, 638, 920, 921, 922, 923, 924, 925, 926, 927, 928, 929, 930, 950, 951, 952, 953, 954, 955, 956, 957, 958, 959, 960, 961, 967, 968, 969, 970] (by decide +kernel) (by decide +kernel)
set_option maxRecDepth 20000 in
theorem gL_law_X5_cover : GoodIn wsL_law (wsV RL 86 RX5 yX5_cover wsX5_cover) := goodIn_app (goodIn_of _ (by decide +kernel)) ggL_law_X5_cover
set_option maxRecDepth 20000 in
theorem ggL_law_X6_cover : GoodIn wsL_law wsX6_cover := goodIn_r _ [642, 260, 119, 120, 5, 121, 122, 123, 124, 125, 78, 126, 127, 128, 129, 75, 643, 644, 645, 646, 647, 648, 649, 161, 162, 163, 164, 581, 582, 583, 584, 509, 510, 511, 512, 528, 529, 530, 650, 651, 652, 653, 931, 932, 933, 934, 935, 936, 937, 938, 939, 940, 941, 942, 943, 944, 945, 946, 947, 948, 949] (by decide +kernel) (by decide +kernel)
set_option maxRecDepth 20000 in
theorem gL_law_X6_cover : GoodIn wsL_law (wsV RL 89 RX6 yX6_cover wsX6_cover) := goodIn_app (goodIn_of _ (by decide +kernel)) ggL_law_X6_cover
set_option maxRecDepth 20000 in
theorem ggL_law_X5_clashes : GoodIn wsL_law wsX5_clashes := goodIn_r _ [657, 16, 601, 144, 145, 15, 146, 40, 658, 659, 660, 661, 547, 548, 549, 550, 551, 494, 495, 496, 42, 497, 2, 498, 552, 553, 554, 555, 556, 557, 314, 558, 559, 313, 315, 499, 500, 501, 502, 43, 105, 503, 504, 920, 921, 922, 923, 924, 925, 926, 927, 928, 929, 930, 950, 951, 952, 953, 954, 955, 956, 957, 958, 959, 960, 961] (by decide +kernel) (by decide +kernel)
set_option maxRecDepth 20000 in
theorem gL_law_X5_clashes : GoodIn wsL_law (wsV RL 90 RX5 yX5_clashes wsX5_clashes) := goodIn_app (goodIn_of _ (by decide +kernel)) ggL_law_X5_clashes
set_option maxRecDepth 20000 in
theorem ggL_law_X6_clashes : GoodIn wsL_law wsX6_clashes := goodIn_r _ [665, 161, 162, 163, 5, 164, 75, 513, 514, 515, 516, 517, 518, 519, 666, 667, 668, 669, 126, 127, 128, 129, 581, 582, 583, 584, 509, 510, 511, 512, 528, 529, 530, 650, 651, 652, 653, 931, 932, 933, 934, 935, 936, 937, 938, 939, 940, 941, 942, 943, 944, 945, 946, 947, 948, 949] (by decide +kernel) (by decide +kernel)
set_option maxRecDepth 20000 in
theorem gL_law_X6_clashes : GoodIn wsL_law (wsV RL 93 RX6 yX6_clashes wsX6_clashes) := goodIn_app (goodIn_of _ (by decide +kernel)) ggL_law_X6_clashes
set_option maxRecDepth 20000 in
theorem ggL_law_X5_retune : GoodIn wsL_law wsX5_retune := goodIn_r _ [673, 32, 16, 674, 675, 676, 31, 677, 678, 679, 680, 681, 682, 61, 683, 684, 62, 63, 685, 144, 145, 15, 146, 40, 686, 624, 625, 626, 42, 503, 2, 504, 687, 659, 660, 661, 547, 548, 549, 550, 551, 494, 495, 496, 497, 498, 552, 553, 554, 555, 556, 557, 314, 558, 559, 313, 315, 688, 689, 690, 691, 65, 188, 189, 692, 693, 694, 695, 696, 697, 698, 699, 700, 633, 634, 635, 636, 637, 638, 701, 702, 703, 704, 705, 706, 707, 708, 920, 921, 922, 923, 924, 925, 926, 927, 928, 929, 930, 971, 972, 973, 974, 975, 950, 951, 952, 953, 954, 955, 956, 957, 958, 959, 960, 961] (by decide +kernel) (by decide +kernel)
set_option maxRecDepth 20000 in
theorem gL_law_X5_retune : GoodIn wsL_law (wsV RL 94 RX5 yX5_retune wsX5_retune) := goodIn_app (goodIn_of _ (by decide +kernel)) ggL_law_X5_retune
set_option maxRecDepth 20000 in
theorem ggL_law_X6_retune : GoodIn wsL_law wsX6_retune := goodIn_r _ [712, 80, 161, 162, 163, 5, 164, 75, 666, 667, 668, 669, 126, 127, 128, 129, 581, 582, 583, 584, 509, 510, 511, 512, 528, 529, 530, 650, 651, 652, 653, 713, 714, 715, 716, 82, 517, 518, 519, 717, 718, 719, 720, 81, 84, 83, 721, 722, 723, 724, 725, 726, 727, 728, 729, 730, 731, 643, 644, 645, 931, 932, 933, 934, 935, 936, 937, 938, 939, 940, 941, 942, 943, 944, 945, 946, 947, 948, 949] (by decide +kernel) (by decide +kernel)
set_option maxRecDepth 20000 in
theorem gL_law_X6_retune : GoodIn wsL_law (wsV RL 97 RX6 yX6_retune wsX6_retune) := goodIn_app (goodIn_of _ (by decide +kernel)) ggL_law_X6_retune
set_option maxRecDepth 20000 in
theorem ggL_law_X5_slip : GoodIn wsL_law wsX5_slip := goodIn_r _ [735, 28, 16, 736, 737, 149, 147, 2, 148, 96, 97, 98, 99, 100, 738, 739, 740, 27, 741, 742, 743, 744, 745, 746, 15, 747, 107, 44, 748, 749, 750, 751, 622, 144, 145, 146, 40, 623, 624, 625, 626, 42, 752, 753, 754, 755, 627, 548, 549, 550, 551, 494, 495, 496, 497, 498, 552, 553, 554, 555, 556, 557, 314, 558, 559, 313, 315, 756, 757, 758, 759, 45, 632, 633, 634, 635, 636, 637, 638, 920, 921, 922, 923, 924, 925, 926, 927, 928, 929, 930, 967, 968, 969, 970, 950, 951, 952, 953, 954, 955, 956, 957, 958, 959, 960, 961] (by decide +kernel) (by decide +kernel)
set_option maxRecDepth 20000 in
theorem gL_law_X5_slip : GoodIn wsL_law (wsV RL 98 RX5 yX5_slip wsX5_slip) := goodIn_app (goodIn_of _ (by decide +kernel)) ggL_law_X5_slip
set_option maxRecDepth 20000 in
theorem ggL_law_X6_slip : GoodIn wsL_law wsX6_slip := goodIn_r _ [763, 119, 120, 5, 121, 122, 123, 124, 125, 78, 161, 162, 163, 164, 75, 650, 651, 652, 653, 764, 765, 766, 767, 768, 769, 770, 771, 126, 127, 128, 129, 593, 594, 595, 596, 581, 582, 583, 584, 509, 510, 511, 512, 528, 529, 530, 931, 932, 933, 934, 935, 936, 937, 938, 939, 940, 941, 942, 943, 944, 945, 946, 947, 948, 949] (by decide +kernel) (by decide +kernel)
set_option maxRecDepth 20000 in
theorem gL_law_X6_slip : GoodIn wsL_law (wsV RL 101 RX6 yX6_slip wsX6_slip) := goodIn_app (goodIn_of _ (by decide +kernel)) ggL_law_X6_slip
set_option maxRecDepth 20000 in
theorem ggL_law_X5_lot : GoodIn wsL_law wsX5_lot := goodIn_r _ [775, 16, 92, 36, 93, 94, 2, 95, 139, 140, 141, 15, 142, 143, 144, 145, 146, 40, 147, 148, 149, 96, 97, 98, 99, 100, 776, 777, 778, 779, 780, 781, 548, 549, 550, 551, 494, 495, 496, 42, 497, 498, 552, 553, 554, 555, 556, 557, 314, 558, 559, 313, 315, 782, 633, 634, 635, 636, 637, 638, 783, 784, 785, 786, 787, 788, 35, 789, 69, 70, 790, 791, 792, 920, 921, 922, 923, 924, 925, 926, 927, 928, 929, 930, 950, 951, 952, 953, 954, 955, 956, 957, 958, 959, 960, 961, 976, 977] (by decide +kernel) (by decide +kernel)
set_option maxRecDepth 20000 in
theorem gL_law_X5_lot : GoodIn wsL_law (wsV RL 102 RX5 yX5_lot wsX5_lot) := goodIn_app (goodIn_of _ (by decide +kernel)) ggL_law_X5_lot
set_option maxRecDepth 20000 in
theorem ggL_law_X6_lot : GoodIn wsL_law wsX6_lot := goodIn_r _ [796, 126, 127, 128, 5, 129, 75, 119, 120, 121, 157, 158, 159, 160, 161, 162, 163, 164, 257, 258, 259, 260, 122, 123, 124, 125, 78, 797, 798, 799, 800, 574, 575, 576, 581, 582, 583, 584, 509, 510, 511, 512, 528, 529, 530, 801, 802, 803, 804, 805, 806, 807, 808, 79, 931, 932, 933, 934, 935, 936, 937, 938, 939, 940, 941, 942, 943, 944, 945, 946, 947, 948, 949] (by decide +kernel) (by decide +kernel)
set_option maxRecDepth 20000 in
theorem gL_law_X6_lot : GoodIn wsL_law (wsV RL 105 RX6 yX6_lot wsX6_lot) := goodIn_app (goodIn_of _ (by decide +kernel)) ggL_law_X6_lot
set_option maxRecDepth 20000 in
theorem ggL_law_X5_surest : GoodIn wsL_law wsX5_surest := goodIn_r _ [812, 16, 92, 36, 93, 94, 2, 95, 149, 147, 148, 96, 97, 98, 99, 100, 601, 144, 145, 15, 146, 40, 813, 624, 625, 626, 42, 776, 777, 778, 779, 780, 781, 548, 549, 550, 551, 494, 495, 496, 497, 498, 552, 553, 554, 555, 556, 557, 314, 558, 559, 313, 315, 782, 633, 634, 635, 636, 637, 638, 783, 784, 785, 786, 787, 788, 35, 789, 69, 70, 790, 791, 792, 920, 921, 922, 923, 924, 925, 926, 927, 928, 929, 930, 950, 951, 952, 953, 954, 955, 956, 957, 958, 959, 960, 961, 976, 977] (by decide +kernel) (by decide +kernel)
set_option maxRecDepth 20000 in
theorem gL_law_X5_surest : GoodIn wsL_law (wsV RL 106 RX5 yX5_surest wsX5_surest) := goodIn_app (goodIn_of _ (by decide +kernel)) ggL_law_X5_surest
set_option maxRecDepth 20000 in
theorem ggL_law_X6_surest : GoodIn wsL_law wsX6_surest := goodIn_r _ [817, 818, 126, 127, 128, 5, 129, 75, 119, 120, 121, 257, 258, 259, 260, 122, 123, 124, 125, 78, 161, 162, 163, 164, 650, 651, 652, 653, 797, 798, 799, 800, 574, 575, 576, 581, 582, 583, 584, 509, 510, 511, 512, 528, 529, 530, 801, 802, 803, 804, 805, 806, 807, 808, 79, 931, 932, 933, 934, 935, 936, 937, 938, 939, 940, 941, 942, 943, 944, 945, 946, 947, 948, 949] (by decide +kernel) (by decide +kernel)
set_option maxRecDepth 20000 in
theorem gL_law_X6_surest : GoodIn wsL_law (wsV RL 109 RX6 yX6_surest wsX6_surest) := goodIn_app (goodIn_of _ (by decide +kernel)) ggL_law_X6_surest
set_option maxRecDepth 20000 in
theorem ggL_law_X5_whence : GoodIn wsL_law wsX5_whence := goodIn_r _ [822, 16, 180, 181, 182, 15, 183, 40, 147, 2, 148, 149, 93, 94, 95, 96, 97, 98, 99, 100, 601, 144, 145, 146, 499, 500, 501, 502, 42, 43, 105, 503, 504, 781, 548, 549, 550, 551, 494, 495, 496, 497, 498, 552, 553, 554, 555, 556, 557, 314, 558, 559, 313, 315, 823, 188, 189, 920, 921, 922, 923, 924, 925, 926, 927, 928, 929, 930, 950, 951, 952, 953, 954, 955, 956, 957, 958, 959, 960, 961] (by decide +kernel) (by decide +kernel)
set_option maxRecDepth 20000 in
theorem gL_law_X5_whence : GoodIn wsL_law (wsV RL 110 RX5 yX5_whence wsX5_whence) := goodIn_app (goodIn_of _ (by decide +kernel)) ggL_law_X5_whence
set_option maxRecDepth 20000 in
theorem ggL_law_X6_whence : GoodIn wsL_law wsX6_whence := goodIn_r _ [827, 156, 260, 199, 200, 201, 5, 202, 126, 127, 128, 129, 75, 119, 120, 121, 122, 123, 124, 125, 78, 161, 162, 163, 164, 513, 514, 515, 516, 517, 518, 519, 581, 582, 583, 584, 509, 510, 511, 512, 528, 529, 530, 931, 932, 933, 934, 935, 936, 937, 938, 939, 940, 941, 942, 943, 944, 945, 946, 947, 948, 949] (by decide +kernel) (by decide +kernel)
set_option maxRecDepth 20000 in
theorem gL_law_X6_whence : GoodIn wsL_law (wsV RL 113 RX6 yX6_whence wsX6_whence) := goodIn_app (goodIn_of _ (by decide +kernel)) ggL_law_X6_whence
