theorem dX3_init_0 : decode cX3_init 0 = .ok (.aload_n 0, 1) := by decide +kernel
theorem dX3_init_1 : decode cX3_init 1 = .ok (.invokespecial 3, 3) := by decide +kernel
theorem dX3_init_4 : decode cX3_init 4 = .ok (.aload_n 0, 1) := by decide +kernel
theorem dX3_init_5 : decode cX3_init 5 = .ok (.bipush 8, 2) := by decide +kernel
theorem dX3_init_7 : decode cX3_init 7 = .ok (.newarray .int, 2) := by decide +kernel
theorem dX3_init_9 : decode cX3_init 9 = .ok (.putfield 9, 3) := by decide +kernel
theorem dX3_init_12 : decode cX3_init 12 = .ok (.aload_n 0, 1) := by decide +kernel
theorem dX3_init_13 : decode cX3_init 13 = .ok (.bipush 8, 2) := by decide +kernel
theorem dX3_init_15 : decode cX3_init 15 = .ok (.newarray .boolean, 2) := by decide +kernel
theorem dX3_init_17 : decode cX3_init 17 = .ok (.putfield 15, 3) := by decide +kernel
theorem dX3_init_20 : decode cX3_init 20 = .ok (.aload_n 0, 1) := by decide +kernel
theorem dX3_init_21 : decode cX3_init 21 = .ok (.bipush 8, 2) := by decide +kernel
theorem dX3_init_23 : decode cX3_init 23 = .ok (.newarray .int, 2) := by decide +kernel
theorem dX3_init_25 : decode cX3_init 25 = .ok (.putfield 19, 3) := by decide +kernel
theorem dX3_init_28 : decode cX3_init 28 = .ok (.aload_n 0, 1) := by decide +kernel
theorem dX3_init_29 : decode cX3_init 29 = .ok (.bipush 9, 2) := by decide +kernel
theorem dX3_init_31 : decode cX3_init 31 = .ok (.bipush 8, 2) := by decide +kernel
theorem dX3_init_33 : decode cX3_init 33 = .ok (.multianewarray 22 2, 4) := by decide +kernel
theorem dX3_init_37 : decode cX3_init 37 = .ok (.putfield 24, 3) := by decide +kernel
theorem dX3_init_40 : decode cX3_init 40 = .ok (.return_, 1) := by decide +kernel
set_option maxRecDepth 20000 in
theorem ggX3_fewestWires_X3_learn : GoodIn wsX3_fewestWires wsX3_learn := goodIn_r _ [6, 1, 7, 8, 9, 10, 11, 12, 13, 14, 15, 16, 17, 18, 19, 20, 21, 22, 23, 24, 25, 26, 27, 28, 29, 30, 31, 32, 33, 34, 35, 36, 37, 38, 39, 40, 41, 42, 43, 44, 45, 46, 47, 48, 49, 50, 81, 82, 83, 84, 85, 86, 87, 88, 89, 90, 91, 92, 93, 94, 95, 96, 97] (by decide +kernel) (by decide +kernel)
set_option maxRecDepth 20000 in
theorem gX3_fewestWires_X3_learn : GoodIn wsX3_fewestWires (wsV RX3 27 RX3 yX3_learn wsX3_learn) := goodIn_app (goodIn_of _ (by decide +kernel)) ggX3_fewestWires_X3_learn
set_option maxRecDepth 20000 in
theorem ggX3_fewestWires_X3_canTune : GoodIn wsX3_fewestWires wsX3_canTune := goodIn_r _ [54, 55, 7, 1, 56, 24, 57, 58, 59, 60, 5, 61, 62, 63, 64, 65, 66, 67, 68, 69, 70, 71, 72, 73, 74, 75, 76, 11, 77, 78, 79, 80, 10, 81, 82, 83, 84, 85] (by decide +kernel) (by decide +kernel)
set_option maxRecDepth 20000 in
theorem gX3_fewestWires_X3_canTune : GoodIn wsX3_fewestWires (wsV RX3 35 RX3 yX3_canTune wsX3_canTune) := goodIn_app (goodIn_of _ (by decide +kernel)) ggX3_fewestWires_X3_canTune
set_option maxRecDepth 20000 in
theorem ggX3_fewestWires_X0_wireCount : GoodIn wsX3_fewestWires wsX0_wireCount := goodIn_r _ [16, 17, 86, 87, 88, 89, 90, 91, 92, 93, 94, 95, 96, 97] (by decide +kernel) (by decide +kernel)
set_option maxRecDepth 20000 in
theorem gX3_fewestWires_X0_wireCount : GoodIn wsX3_fewestWires (wsV RX3 39 RX0 yX0_wireCount wsX0_wireCount) := goodIn_app (goodIn_of _ (by decide +kernel)) ggX3_fewestWires_X0_wireCount
set_option maxRecDepth 20000 in
theorem ggX3_fewestWires_J6_bitCount_0f7a4 : GoodIn wsX3_fewestWires wsJ6_bitCount_0f7a4 := goodIn_r _ [69, 70, 71, 72] (by decide +kernel) (by decide +kernel)
set_option maxRecDepth 20000 in
theorem gX3_fewestWires_J6_bitCount_0f7a4 : GoodIn wsX3_fewestWires (va_wsS RX3 45 yJ6_bitCount_0f7a4 wsJ6_bitCount_0f7a4) := goodIn_app (goodIn_of _ (by decide +kernel)) ggX3_fewestWires_J6_bitCount_0f7a4
theorem dX3_fewestWires_0 : decode cX3_fewestWires 0 = .ok (.aload_n 0, 1) := by decide +kernel
theorem dX3_fewestWires_1 : decode cX3_fewestWires 1 = .ok (.aload_n 1, 1) := by decide +kernel
theorem dX3_fewestWires_2 : decode cX3_fewestWires 2 = .ok (.invokevirtual 27, 3) := by decide +kernel
theorem dX3_fewestWires_5 : decode cX3_fewestWires 5 = .ok (.aload_n 0, 1) := by decide +kernel
theorem dX3_fewestWires_6 : decode cX3_fewestWires 6 = .ok (.aload_n 0, 1) := by decide +kernel
theorem dX3_fewestWires_7 : decode cX3_fewestWires 7 = .ok (.getfield 31, 3) := by decide +kernel
theorem dX3_fewestWires_10 : decode cX3_fewestWires 10 = .ok (.invokevirtual 35, 3) := by decide +kernel
theorem dX3_fewestWires_13 : decode cX3_fewestWires 13 = .ok (.ifCond .ne 5, 3) := by decide +kernel
theorem dX3_fewestWires_16 : decode cX3_fewestWires 16 = .ok (.iconst (-1), 1) := by decide +kernel
theorem dX3_fewestWires_17 : decode cX3_fewestWires 17 = .ok (.ireturn, 1) := by decide +kernel
theorem dX3_fewestWires_18 : decode cX3_fewestWires 18 = .ok (.iconst 1, 1) := by decide +kernel
theorem dX3_fewestWires_19 : decode cX3_fewestWires 19 = .ok (.aload_n 1, 1) := by decide +kernel
theorem dX3_fewestWires_20 : decode cX3_fewestWires 20 = .ok (.invokevirtual 39, 3) := by decide +kernel
theorem dX3_fewestWires_23 : decode cX3_fewestWires 23 = .ok (.ishl, 1) := by decide +kernel
theorem dX3_fewestWires_24 : decode cX3_fewestWires 24 = .ok (.istore_n 2, 1) := by decide +kernel
theorem dX3_fewestWires_25 : decode cX3_fewestWires 25 = .ok (.iconst 0, 1) := by decide +kernel
theorem dX3_fewestWires_26 : decode cX3_fewestWires 26 = .ok (.istore_n 3, 1) := by decide +kernel
theorem dX3_fewestWires_27 : decode cX3_fewestWires 27 = .ok (.iload_n 3, 1) := by decide +kernel
theorem dX3_fewestWires_28 : decode cX3_fewestWires 28 = .ok (.bipush 8, 2) := by decide +kernel
theorem dX3_fewestWires_30 : decode cX3_fewestWires 30 = .ok (.if_icmp .ge 57, 3) := by decide +kernel
theorem dX3_fewestWires_33 : decode cX3_fewestWires 33 = .ok (.iconst 0, 1) := by decide +kernel
theorem dX3_fewestWires_34 : decode cX3_fewestWires 34 = .ok (.istore 4, 2) := by decide +kernel
theorem dX3_fewestWires_36 : decode cX3_fewestWires 36 = .ok (.iload 4, 2) := by decide +kernel
theorem dX3_fewestWires_38 : decode cX3_fewestWires 38 = .ok (.iload_n 2, 1) := by decide +kernel
theorem dX3_fewestWires_39 : decode cX3_fewestWires 39 = .ok (.if_icmp .ge 42, 3) := by decide +kernel
theorem dX3_fewestWires_42 : decode cX3_fewestWires 42 = .ok (.iload 4, 2) := by decide +kernel
theorem dX3_fewestWires_44 : decode cX3_fewestWires 44 = .ok (.invokestatic 45, 3) := by decide +kernel
theorem dX3_fewestWires_47 : decode cX3_fewestWires 47 = .ok (.iload_n 3, 1) := by decide +kernel
theorem dX3_fewestWires_48 : decode cX3_fewestWires 48 = .ok (.if_icmp .ne 27, 3) := by decide +kernel
theorem dX3_fewestWires_51 : decode cX3_fewestWires 51 = .ok (.iload 4, 2) := by decide +kernel
theorem dX3_fewestWires_53 : decode cX3_fewestWires 53 = .ok (.aload_n 0, 1) := by decide +kernel
theorem dX3_fewestWires_54 : decode cX3_fewestWires 54 = .ok (.getfield 31, 3) := by decide +kernel
theorem dX3_fewestWires_57 : decode cX3_fewestWires 57 = .ok (.iconst (-1), 1) := by decide +kernel
theorem dX3_fewestWires_58 : decode cX3_fewestWires 58 = .ok (.ixor, 1) := by decide +kernel
theorem dX3_fewestWires_59 : decode cX3_fewestWires 59 = .ok (.iand, 1) := by decide +kernel
theorem dX3_fewestWires_60 : decode cX3_fewestWires 60 = .ok (.ifCond .ne 15, 3) := by decide +kernel
theorem dX3_fewestWires_63 : decode cX3_fewestWires 63 = .ok (.aload_n 0, 1) := by decide +kernel
theorem dX3_fewestWires_64 : decode cX3_fewestWires 64 = .ok (.iload 4, 2) := by decide +kernel
theorem dX3_fewestWires_66 : decode cX3_fewestWires 66 = .ok (.invokevirtual 35, 3) := by decide +kernel
theorem dX3_fewestWires_69 : decode cX3_fewestWires 69 = .ok (.ifCond .eq 6, 3) := by decide +kernel
theorem dX3_fewestWires_72 : decode cX3_fewestWires 72 = .ok (.iload 4, 2) := by decide +kernel
theorem dX3_fewestWires_74 : decode cX3_fewestWires 74 = .ok (.ireturn, 1) := by decide +kernel
theorem dX3_fewestWires_75 : decode cX3_fewestWires 75 = .ok (.iinc 4 1, 3) := by decide +kernel
theorem dX3_fewestWires_78 : decode cX3_fewestWires 78 = .ok (.goto (-42), 3) := by decide +kernel
theorem dX3_fewestWires_81 : decode cX3_fewestWires 81 = .ok (.iinc 3 1, 3) := by decide +kernel
theorem dX3_fewestWires_84 : decode cX3_fewestWires 84 = .ok (.goto (-57), 3) := by decide +kernel
theorem dX3_fewestWires_87 : decode cX3_fewestWires 87 = .ok (.aload_n 0, 1) := by decide +kernel
theorem dX3_fewestWires_88 : decode cX3_fewestWires 88 = .ok (.getfield 31, 3) := by decide +kernel
theorem dX3_fewestWires_91 : decode cX3_fewestWires 91 = .ok (.ireturn, 1) := by decide +kernel
set_option maxRecDepth 20000 in
theorem ggX3_learn_X0_wireCount : GoodIn wsX3_learn wsX0_wireCount := goodIn_r _ [11, 12, 51, 52, 53, 54, 55, 56, 57, 58, 59, 60, 61, 62] (by decide +kernel) (by decide +kernel)
set_option maxRecDepth 20000 in
theorem gX3_learn_X0_wireCount : GoodIn wsX3_learn (wsV RX3 39 RX0 yX0_wireCount wsX0_wireCount) := goodIn_app (goodIn_of _ (by decide +kernel)) ggX3_learn_X0_wireCount
set_option maxRecDepth 20000 in
theorem ggX3_learn_X0_isCut : GoodIn wsX3_learn wsX0_isCut := goodIn_r _ [16, 17, 51, 52, 53, 54, 55, 56, 57, 58, 59, 60, 61, 62] (by decide +kernel) (by decide +kernel)
set_option maxRecDepth 20000 in
theorem gX3_learn_X0_isCut : GoodIn wsX3_learn (wsV RX3 51 RX0 yX0_isCut wsX0_isCut) := goodIn_app (goodIn_of _ (by decide +kernel)) ggX3_learn_X0_isCut
set_option maxRecDepth 20000 in
theorem ggX3_learn_X5_noteBy : GoodIn wsX3_learn wsX5_noteBy := goodIn_r _ [20] (by decide +kernel) (by decide +kernel)
set_option maxRecDepth 20000 in
theorem gX3_learn_X5_noteBy_n60 : GoodIn wsX3_learn (wsX5_noteBy) := ggX3_learn_X5_noteBy
set_option maxRecDepth 20000 in
theorem ggX3_learn_X0_meet : GoodIn wsX3_learn wsX0_meet := goodIn_r _ [24, 25, 26, 27, 10, 28, 29, 30, 31, 32, 17, 33, 19, 34, 35, 36, 37, 38, 39, 40, 41, 42, 12, 43, 44, 45, 51, 52, 53, 54, 55, 56, 57, 58, 59, 60, 61, 62] (by decide +kernel) (by decide +kernel)
set_option maxRecDepth 20000 in
theorem gX3_learn_X0_meet : GoodIn wsX3_learn (wsV RX3 64 RX0 yX0_meet wsX0_meet) := goodIn_app (goodIn_of _ (by decide +kernel)) ggX3_learn_X0_meet
theorem dX3_learn_0 : decode cX3_learn 0 = .ok (.aload_n 0, 1) := by decide +kernel
theorem dX3_learn_1 : decode cX3_learn 1 = .ok (.iconst 0, 1) := by decide +kernel
theorem dX3_learn_2 : decode cX3_learn 2 = .ok (.putfield 31, 3) := by decide +kernel
theorem dX3_learn_5 : decode cX3_learn 5 = .ok (.iconst 0, 1) := by decide +kernel
theorem dX3_learn_6 : decode cX3_learn 6 = .ok (.istore_n 2, 1) := by decide +kernel
theorem dX3_learn_7 : decode cX3_learn 7 = .ok (.iload_n 2, 1) := by decide +kernel
theorem dX3_learn_8 : decode cX3_learn 8 = .ok (.aload_n 1, 1) := by decide +kernel
theorem dX3_learn_9 : decode cX3_learn 9 = .ok (.invokevirtual 39, 3) := by decide +kernel
theorem dX3_learn_12 : decode cX3_learn 12 = .ok (.if_icmp .ge 121, 3) := by decide +kernel
theorem dX3_learn_15 : decode cX3_learn 15 = .ok (.aload_n 1, 1) := by decide +kernel
theorem dX3_learn_16 : decode cX3_learn 16 = .ok (.iload_n 2, 1) := by decide +kernel
theorem dX3_learn_17 : decode cX3_learn 17 = .ok (.invokevirtual 51, 3) := by decide +kernel
theorem dX3_learn_20 : decode cX3_learn 20 = .ok (.ifCond .ne 15, 3) := by decide +kernel
theorem dX3_learn_23 : decode cX3_learn 23 = .ok (.aload_n 0, 1) := by decide +kernel
theorem dX3_learn_24 : decode cX3_learn 24 = .ok (.dup, 1) := by decide +kernel
theorem dX3_learn_25 : decode cX3_learn 25 = .ok (.getfield 31, 3) := by decide +kernel
theorem dX3_learn_28 : decode cX3_learn 28 = .ok (.iconst 1, 1) := by decide +kernel
theorem dX3_learn_29 : decode cX3_learn 29 = .ok (.iload_n 2, 1) := by decide +kernel
theorem dX3_learn_30 : decode cX3_learn 30 = .ok (.ishl, 1) := by decide +kernel
theorem dX3_learn_31 : decode cX3_learn 31 = .ok (.ior, 1) := by decide +kernel
theorem dX3_learn_32 : decode cX3_learn 32 = .ok (.putfield 31, 3) := by decide +kernel
theorem dX3_learn_35 : decode cX3_learn 35 = .ok (.aload_n 0, 1) := by decide +kernel
theorem dX3_learn_36 : decode cX3_learn 36 = .ok (.getfield 9, 3) := by decide +kernel
theorem dX3_learn_39 : decode cX3_learn 39 = .ok (.iload_n 2, 1) := by decide +kernel
theorem dX3_learn_40 : decode cX3_learn 40 = .ok (.aload_n 1, 1) := by decide +kernel
theorem dX3_learn_41 : decode cX3_learn 41 = .ok (.getfield 54, 3) := by decide +kernel
theorem dX3_learn_44 : decode cX3_learn 44 = .ok (.iload_n 2, 1) := by decide +kernel
theorem dX3_learn_45 : decode cX3_learn 45 = .ok (.iaload, 1) := by decide +kernel
theorem dX3_learn_46 : decode cX3_learn 46 = .ok (.aload_n 1, 1) := by decide +kernel
theorem dX3_learn_47 : decode cX3_learn 47 = .ok (.getfield 57, 3) := by decide +kernel
theorem dX3_learn_50 : decode cX3_learn 50 = .ok (.iload_n 2, 1) := by decide +kernel
theorem dX3_learn_51 : decode cX3_learn 51 = .ok (.iaload, 1) := by decide +kernel
theorem dX3_learn_52 : decode cX3_learn 52 = .ok (.iconst 0, 1) := by decide +kernel
theorem dX3_learn_53 : decode cX3_learn 53 = .ok (.invokestatic 60, 3) := by decide +kernel
theorem dX3_learn_56 : decode cX3_learn 56 = .ok (.iastore, 1) := by decide +kernel
theorem dX3_learn_57 : decode cX3_learn 57 = .ok (.aload_n 0, 1) := by decide +kernel
theorem dX3_learn_58 : decode cX3_learn 58 = .ok (.getfield 15, 3) := by decide +kernel
theorem dX3_learn_61 : decode cX3_learn 61 = .ok (.iload_n 2, 1) := by decide +kernel
theorem dX3_learn_62 : decode cX3_learn 62 = .ok (.aload_n 1, 1) := by decide +kernel
theorem dX3_learn_63 : decode cX3_learn 63 = .ok (.getfield 54, 3) := by decide +kernel
theorem dX3_learn_66 : decode cX3_learn 66 = .ok (.iload_n 2, 1) := by decide +kernel
theorem dX3_learn_67 : decode cX3_learn 67 = .ok (.iaload, 1) := by decide +kernel
theorem dX3_learn_68 : decode cX3_learn 68 = .ok (.iconst 3, 1) := by decide +kernel
theorem dX3_learn_69 : decode cX3_learn 69 = .ok (.if_icmp .ne 7, 3) := by decide +kernel
theorem dX3_learn_72 : decode cX3_learn 72 = .ok (.iconst 1, 1) := by decide +kernel
theorem dX3_learn_73 : decode cX3_learn 73 = .ok (.goto 4, 3) := by decide +kernel
theorem dX3_learn_76 : decode cX3_learn 76 = .ok (.iconst 0, 1) := by decide +kernel
theorem dX3_learn_77 : decode cX3_learn 77 = .ok (.bastore, 1) := by decide +kernel
theorem dX3_learn_78 : decode cX3_learn 78 = .ok (.aload_n 0, 1) := by decide +kernel
theorem dX3_learn_79 : decode cX3_learn 79 = .ok (.getfield 19, 3) := by decide +kernel
theorem dX3_learn_82 : decode cX3_learn 82 = .ok (.iload_n 2, 1) := by decide +kernel
theorem dX3_learn_83 : decode cX3_learn 83 = .ok (.iconst 0, 1) := by decide +kernel
theorem dX3_learn_84 : decode cX3_learn 84 = .ok (.iastore, 1) := by decide +kernel
theorem dX3_learn_85 : decode cX3_learn 85 = .ok (.iconst 0, 1) := by decide +kernel
theorem dX3_learn_86 : decode cX3_learn 86 = .ok (.istore_n 3, 1) := by decide +kernel
theorem dX3_learn_87 : decode cX3_learn 87 = .ok (.iload_n 3, 1) := by decide +kernel
theorem dX3_learn_88 : decode cX3_learn 88 = .ok (.aload_n 1, 1) := by decide +kernel
theorem dX3_learn_89 : decode cX3_learn 89 = .ok (.invokevirtual 39, 3) := by decide +kernel
theorem dX3_learn_92 : decode cX3_learn 92 = .ok (.if_icmp .ge 35, 3) := by decide +kernel
theorem dX3_learn_95 : decode cX3_learn 95 = .ok (.iload_n 3, 1) := by decide +kernel
theorem dX3_learn_96 : decode cX3_learn 96 = .ok (.iload_n 2, 1) := by decide +kernel
theorem dX3_learn_97 : decode cX3_learn 97 = .ok (.if_icmp .eq 24, 3) := by decide +kernel
theorem dX3_learn_100 : decode cX3_learn 100 = .ok (.aload_n 1, 1) := by decide +kernel
theorem dX3_learn_101 : decode cX3_learn 101 = .ok (.iload_n 3, 1) := by decide +kernel
theorem dX3_learn_102 : decode cX3_learn 102 = .ok (.iload_n 2, 1) := by decide +kernel
theorem dX3_learn_103 : decode cX3_learn 103 = .ok (.invokevirtual 64, 3) := by decide +kernel
theorem dX3_learn_106 : decode cX3_learn 106 = .ok (.ifCond .eq 15, 3) := by decide +kernel
theorem dX3_learn_109 : decode cX3_learn 109 = .ok (.aload_n 0, 1) := by decide +kernel
theorem dX3_learn_110 : decode cX3_learn 110 = .ok (.getfield 19, 3) := by decide +kernel
theorem dX3_learn_113 : decode cX3_learn 113 = .ok (.iload_n 2, 1) := by decide +kernel
theorem dX3_learn_114 : decode cX3_learn 114 = .ok (.dup2, 1) := by decide +kernel
theorem dX3_learn_115 : decode cX3_learn 115 = .ok (.iaload, 1) := by decide +kernel
theorem dX3_learn_116 : decode cX3_learn 116 = .ok (.iconst 1, 1) := by decide +kernel
theorem dX3_learn_117 : decode cX3_learn 117 = .ok (.iload_n 3, 1) := by decide +kernel
theorem dX3_learn_118 : decode cX3_learn 118 = .ok (.ishl, 1) := by decide +kernel
theorem dX3_learn_119 : decode cX3_learn 119 = .ok (.ior, 1) := by decide +kernel
theorem dX3_learn_120 : decode cX3_learn 120 = .ok (.iastore, 1) := by decide +kernel
theorem dX3_learn_121 : decode cX3_learn 121 = .ok (.iinc 3 1, 3) := by decide +kernel
theorem dX3_learn_124 : decode cX3_learn 124 = .ok (.goto (-37), 3) := by decide +kernel
theorem dX3_learn_127 : decode cX3_learn 127 = .ok (.iinc 2 1, 3) := by decide +kernel
theorem dX3_learn_130 : decode cX3_learn 130 = .ok (.goto (-123), 3) := by decide +kernel
theorem dX3_learn_133 : decode cX3_learn 133 = .ok (.return_, 1) := by decide +kernel
set_option maxRecDepth 20000 in
theorem ggX3_canTune_X5_has : GoodIn wsX3_canTune wsX5_has := goodIn_r _ [6] (by decide +kernel) (by decide +kernel)
set_option maxRecDepth 20000 in
theorem gX3_canTune_X5_has_n68 : GoodIn wsX3_canTune (wsX5_has) := ggX3_canTune_X5_has
set_option maxRecDepth 20000 in
theorem ggX3_canTune_X3_tuneRest : GoodIn wsX3_canTune wsX3_tuneRest := goodIn_r _ [11, 1, 12, 13, 14, 10, 15, 16, 17, 18, 19, 20, 21, 22, 4, 5, 6, 23, 24, 25, 26, 27, 28, 29, 30, 31, 32, 7, 8, 9, 33, 34, 35, 36, 37] (by decide +kernel) (by decide +kernel)
set_option maxRecDepth 20000 in
theorem gX3_canTune_X3_tuneRest : GoodIn wsX3_canTune (wsV RX3 71 RX3 yX3_tuneRest wsX3_tuneRest) := goodIn_app (goodIn_of _ (by decide +kernel)) ggX3_canTune_X3_tuneRest
theorem dX3_canTune_0 : decode cX3_canTune 0 = .ok (.iconst 0, 1) := by decide +kernel
theorem dX3_canTune_1 : decode cX3_canTune 1 = .ok (.istore_n 2, 1) := by decide +kernel
theorem dX3_canTune_2 : decode cX3_canTune 2 = .ok (.iload_n 2, 1) := by decide +kernel
theorem dX3_canTune_3 : decode cX3_canTune 3 = .ok (.bipush 8, 2) := by decide +kernel
theorem dX3_canTune_5 : decode cX3_canTune 5 = .ok (.if_icmp .ge 39, 3) := by decide +kernel
theorem dX3_canTune_8 : decode cX3_canTune 8 = .ok (.aload_n 0, 1) := by decide +kernel
theorem dX3_canTune_9 : decode cX3_canTune 9 = .ok (.getfield 24, 3) := by decide +kernel
theorem dX3_canTune_12 : decode cX3_canTune 12 = .ok (.iconst 0, 1) := by decide +kernel
theorem dX3_canTune_13 : decode cX3_canTune 13 = .ok (.aaload, 1) := by decide +kernel
theorem dX3_canTune_14 : decode cX3_canTune 14 = .ok (.iload_n 2, 1) := by decide +kernel
theorem dX3_canTune_15 : decode cX3_canTune 15 = .ok (.iload_n 1, 1) := by decide +kernel
theorem dX3_canTune_16 : decode cX3_canTune 16 = .ok (.iload_n 2, 1) := by decide +kernel
theorem dX3_canTune_17 : decode cX3_canTune 17 = .ok (.invokestatic 68, 3) := by decide +kernel
theorem dX3_canTune_20 : decode cX3_canTune 20 = .ok (.ifCond .eq 9, 3) := by decide +kernel
theorem dX3_canTune_23 : decode cX3_canTune 23 = .ok (.sipush 4095, 3) := by decide +kernel
theorem dX3_canTune_26 : decode cX3_canTune 26 = .ok (.goto 11, 3) := by decide +kernel
theorem dX3_canTune_29 : decode cX3_canTune 29 = .ok (.iconst 1, 1) := by decide +kernel
theorem dX3_canTune_30 : decode cX3_canTune 30 = .ok (.aload_n 0, 1) := by decide +kernel
theorem dX3_canTune_31 : decode cX3_canTune 31 = .ok (.getfield 9, 3) := by decide +kernel
theorem dX3_canTune_34 : decode cX3_canTune 34 = .ok (.iload_n 2, 1) := by decide +kernel
theorem dX3_canTune_35 : decode cX3_canTune 35 = .ok (.iaload, 1) := by decide +kernel
theorem dX3_canTune_36 : decode cX3_canTune 36 = .ok (.ishl, 1) := by decide +kernel
theorem dX3_canTune_37 : decode cX3_canTune 37 = .ok (.iastore, 1) := by decide +kernel
theorem dX3_canTune_38 : decode cX3_canTune 38 = .ok (.iinc 2 1, 3) := by decide +kernel
theorem dX3_canTune_41 : decode cX3_canTune 41 = .ok (.goto (-39), 3) := by decide +kernel
theorem dX3_canTune_44 : decode cX3_canTune 44 = .ok (.aload_n 0, 1) := by decide +kernel
theorem dX3_canTune_45 : decode cX3_canTune 45 = .ok (.aload_n 0, 1) := by decide +kernel
theorem dX3_canTune_46 : decode cX3_canTune 46 = .ok (.getfield 31, 3) := by decide +kernel
theorem dX3_canTune_49 : decode cX3_canTune 49 = .ok (.iconst 0, 1) := by decide +kernel
theorem dX3_canTune_50 : decode cX3_canTune 50 = .ok (.invokevirtual 71, 3) := by decide +kernel
theorem dX3_canTune_53 : decode cX3_canTune 53 = .ok (.ireturn, 1) := by decide +kernel
set_option maxRecDepth 20000 in
theorem ggX3_tuneRest_X3_mostBound : GoodIn wsX3_tuneRest wsX3_mostBound := goodIn_r _ [6, 1, 7, 8, 9, 10, 11, 12, 13, 14, 15, 16, 30, 31, 32, 33, 34] (by decide +kernel) (by decide +kernel)
set_option maxRecDepth 20000 in
theorem gX3_tuneRest_X3_mostBound : GoodIn wsX3_tuneRest (wsV RX3 74 RX3 yX3_mostBound wsX3_mostBound) := goodIn_app (goodIn_of _ (by decide +kernel)) ggX3_tuneRest_X3_mostBound
set_option maxRecDepth 20000 in
theorem ggX3_tuneRest_X5_has : GoodIn wsX3_tuneRest wsX5_has := goodIn_r _ [16] (by decide +kernel) (by decide +kernel)
set_option maxRecDepth 20000 in
theorem gX3_tuneRest_X5_has_n68 : GoodIn wsX3_tuneRest (wsX5_has) := ggX3_tuneRest_X5_has
set_option maxRecDepth 20000 in
theorem ggX3_tuneRest_X3_narrows : GoodIn wsX3_tuneRest wsX3_narrows := goodIn_r _ [20, 21, 1, 14, 15, 16, 22, 23, 24, 5, 25, 26, 30, 31, 32, 33, 34] (by decide +kernel) (by decide +kernel)
set_option maxRecDepth 20000 in
theorem gX3_tuneRest_X3_narrows : GoodIn wsX3_tuneRest (wsV RX3 78 RX3 yX3_narrows wsX3_narrows) := goodIn_app (goodIn_of _ (by decide +kernel)) ggX3_tuneRest_X3_narrows
set_option maxRecDepth 20000 in
theorem ggX3_tuneRest_X3_tuneRest : GoodIn wsX3_tuneRest wsX3_tuneRest := goodIn_r _ [0, 1, 2, 3, 4, 5, 6, 7, 8, 9, 10, 11, 12, 13, 14, 15, 16, 17, 18, 19, 20, 21, 22, 23, 24, 25, 26, 27, 28, 29, 30, 31, 32, 33, 34] (by decide +kernel) (by decide +kernel)
set_option maxRecDepth 20000 in
theorem gX3_tuneRest_X3_tuneRest : GoodIn wsX3_tuneRest (wsV RX3 71 RX3 yX3_tuneRest wsX3_tuneRest) := goodIn_app (goodIn_of _ (by decide +kernel)) ggX3_tuneRest_X3_tuneRest
theorem dX3_tuneRest_0 : decode cX3_tuneRest 0 = .ok (.iload_n 1, 1) := by decide +kernel
theorem dX3_tuneRest_1 : decode cX3_tuneRest 1 = .ok (.ifCond .ne 5, 3) := by decide +kernel
theorem dX3_tuneRest_4 : decode cX3_tuneRest 4 = .ok (.iconst 1, 1) := by decide +kernel
theorem dX3_tuneRest_5 : decode cX3_tuneRest 5 = .ok (.ireturn, 1) := by decide +kernel
theorem dX3_tuneRest_6 : decode cX3_tuneRest 6 = .ok (.iload_n 2, 1) := by decide +kernel
theorem dX3_tuneRest_7 : decode cX3_tuneRest 7 = .ok (.bipush 8, 2) := by decide +kernel
theorem dX3_tuneRest_9 : decode cX3_tuneRest 9 = .ok (.if_icmp .lt 5, 3) := by decide +kernel
theorem dX3_tuneRest_12 : decode cX3_tuneRest 12 = .ok (.iconst 0, 1) := by decide +kernel
theorem dX3_tuneRest_13 : decode cX3_tuneRest 13 = .ok (.ireturn, 1) := by decide +kernel
theorem dX3_tuneRest_14 : decode cX3_tuneRest 14 = .ok (.aload_n 0, 1) := by decide +kernel
theorem dX3_tuneRest_15 : decode cX3_tuneRest 15 = .ok (.iload_n 1, 1) := by decide +kernel
theorem dX3_tuneRest_16 : decode cX3_tuneRest 16 = .ok (.iload_n 2, 1) := by decide +kernel
theorem dX3_tuneRest_17 : decode cX3_tuneRest 17 = .ok (.invokevirtual 74, 3) := by decide +kernel
theorem dX3_tuneRest_20 : decode cX3_tuneRest 20 = .ok (.istore_n 3, 1) := by decide +kernel
theorem dX3_tuneRest_21 : decode cX3_tuneRest 21 = .ok (.iload_n 1, 1) := by decide +kernel
theorem dX3_tuneRest_22 : decode cX3_tuneRest 22 = .ok (.iconst 1, 1) := by decide +kernel
theorem dX3_tuneRest_23 : decode cX3_tuneRest 23 = .ok (.iload_n 3, 1) := by decide +kernel
theorem dX3_tuneRest_24 : decode cX3_tuneRest 24 = .ok (.ishl, 1) := by decide +kernel
theorem dX3_tuneRest_25 : decode cX3_tuneRest 25 = .ok (.iconst (-1), 1) := by decide +kernel
theorem dX3_tuneRest_26 : decode cX3_tuneRest 26 = .ok (.ixor, 1) := by decide +kernel
theorem dX3_tuneRest_27 : decode cX3_tuneRest 27 = .ok (.iand, 1) := by decide +kernel
theorem dX3_tuneRest_28 : decode cX3_tuneRest 28 = .ok (.istore 4, 2) := by decide +kernel
theorem dX3_tuneRest_30 : decode cX3_tuneRest 30 = .ok (.aload_n 0, 1) := by decide +kernel
theorem dX3_tuneRest_31 : decode cX3_tuneRest 31 = .ok (.getfield 24, 3) := by decide +kernel
theorem dX3_tuneRest_34 : decode cX3_tuneRest 34 = .ok (.iload_n 2, 1) := by decide +kernel
theorem dX3_tuneRest_35 : decode cX3_tuneRest 35 = .ok (.aaload, 1) := by decide +kernel
theorem dX3_tuneRest_36 : decode cX3_tuneRest 36 = .ok (.iload_n 3, 1) := by decide +kernel
theorem dX3_tuneRest_37 : decode cX3_tuneRest 37 = .ok (.iaload, 1) := by decide +kernel
theorem dX3_tuneRest_38 : decode cX3_tuneRest 38 = .ok (.istore 5, 2) := by decide +kernel
theorem dX3_tuneRest_40 : decode cX3_tuneRest 40 = .ok (.iload 5, 2) := by decide +kernel
theorem dX3_tuneRest_42 : decode cX3_tuneRest 42 = .ok (.sipush 4095, 3) := by decide +kernel
theorem dX3_tuneRest_45 : decode cX3_tuneRest 45 = .ok (.if_icmp .ne 7, 3) := by decide +kernel
theorem dX3_tuneRest_48 : decode cX3_tuneRest 48 = .ok (.iconst 1, 1) := by decide +kernel
theorem dX3_tuneRest_49 : decode cX3_tuneRest 49 = .ok (.goto 5, 3) := by decide +kernel
theorem dX3_tuneRest_52 : decode cX3_tuneRest 52 = .ok (.iload 5, 2) := by decide +kernel
theorem dX3_tuneRest_54 : decode cX3_tuneRest 54 = .ok (.istore 6, 2) := by decide +kernel
theorem dX3_tuneRest_56 : decode cX3_tuneRest 56 = .ok (.iconst 0, 1) := by decide +kernel
theorem dX3_tuneRest_57 : decode cX3_tuneRest 57 = .ok (.istore 7, 2) := by decide +kernel
theorem dX3_tuneRest_59 : decode cX3_tuneRest 59 = .ok (.iload 7, 2) := by decide +kernel
theorem dX3_tuneRest_61 : decode cX3_tuneRest 61 = .ok (.bipush 12, 2) := by decide +kernel
theorem dX3_tuneRest_63 : decode cX3_tuneRest 63 = .ok (.if_icmp .ge 46, 3) := by decide +kernel
theorem dX3_tuneRest_66 : decode cX3_tuneRest 66 = .ok (.iload 6, 2) := by decide +kernel
theorem dX3_tuneRest_68 : decode cX3_tuneRest 68 = .ok (.iload 7, 2) := by decide +kernel
theorem dX3_tuneRest_70 : decode cX3_tuneRest 70 = .ok (.invokestatic 68, 3) := by decide +kernel
theorem dX3_tuneRest_73 : decode cX3_tuneRest 73 = .ok (.ifCond .eq 30, 3) := by decide +kernel
theorem dX3_tuneRest_76 : decode cX3_tuneRest 76 = .ok (.aload_n 0, 1) := by decide +kernel
theorem dX3_tuneRest_77 : decode cX3_tuneRest 77 = .ok (.iload_n 3, 1) := by decide +kernel
theorem dX3_tuneRest_78 : decode cX3_tuneRest 78 = .ok (.iload 7, 2) := by decide +kernel
theorem dX3_tuneRest_80 : decode cX3_tuneRest 80 = .ok (.iload 4, 2) := by decide +kernel
theorem dX3_tuneRest_82 : decode cX3_tuneRest 82 = .ok (.iload_n 2, 1) := by decide +kernel
theorem dX3_tuneRest_83 : decode cX3_tuneRest 83 = .ok (.invokevirtual 78, 3) := by decide +kernel
theorem dX3_tuneRest_86 : decode cX3_tuneRest 86 = .ok (.ifCond .eq 17, 3) := by decide +kernel
theorem dX3_tuneRest_89 : decode cX3_tuneRest 89 = .ok (.aload_n 0, 1) := by decide +kernel
theorem dX3_tuneRest_90 : decode cX3_tuneRest 90 = .ok (.iload 4, 2) := by decide +kernel
theorem dX3_tuneRest_92 : decode cX3_tuneRest 92 = .ok (.iload_n 2, 1) := by decide +kernel
theorem dX3_tuneRest_93 : decode cX3_tuneRest 93 = .ok (.iconst 1, 1) := by decide +kernel
theorem dX3_tuneRest_94 : decode cX3_tuneRest 94 = .ok (.iadd, 1) := by decide +kernel
theorem dX3_tuneRest_95 : decode cX3_tuneRest 95 = .ok (.invokevirtual 71, 3) := by decide +kernel
theorem dX3_tuneRest_98 : decode cX3_tuneRest 98 = .ok (.ifCond .eq 5, 3) := by decide +kernel
theorem dX3_tuneRest_101 : decode cX3_tuneRest 101 = .ok (.iconst 1, 1) := by decide +kernel
theorem dX3_tuneRest_102 : decode cX3_tuneRest 102 = .ok (.ireturn, 1) := by decide +kernel
theorem dX3_tuneRest_103 : decode cX3_tuneRest 103 = .ok (.iinc 7 1, 3) := by decide +kernel
theorem dX3_tuneRest_106 : decode cX3_tuneRest 106 = .ok (.goto (-47), 3) := by decide +kernel
theorem dX3_tuneRest_109 : decode cX3_tuneRest 109 = .ok (.iconst 0, 1) := by decide +kernel
theorem dX3_tuneRest_110 : decode cX3_tuneRest 110 = .ok (.ireturn, 1) := by decide +kernel
set_option maxRecDepth 20000 in
theorem ggX3_mostBound_J6_bitCount_0f7a4 : GoodIn wsX3_mostBound wsJ6_bitCount_0f7a4 := goodIn_r _ [5, 6, 7, 8] (by decide +kernel) (by decide +kernel)
set_option maxRecDepth 20000 in
theorem gX3_mostBound_J6_bitCount_0f7a4 : GoodIn wsX3_mostBound (va_wsS RX3 45 yJ6_bitCount_0f7a4 wsJ6_bitCount_0f7a4) := goodIn_app (goodIn_of _ (by decide +kernel)) ggX3_mostBound_J6_bitCount_0f7a4
set_option maxRecDepth 20000 in
theorem ggX3_mostBound_X5_has : GoodIn wsX3_mostBound wsX5_has := goodIn_r _ [11] (by decide +kernel) (by decide +kernel)
set_option maxRecDepth 20000 in
theorem gX3_mostBound_X5_has_n68 : GoodIn wsX3_mostBound (wsX5_has) := ggX3_mostBound_X5_has
theorem dX3_mostBound_0 : decode cX3_mostBound 0 = .ok (.iconst 0, 1) := by decide +kernel
theorem dX3_mostBound_1 : decode cX3_mostBound 1 = .ok (.istore_n 3, 1) := by decide +kernel
theorem dX3_mostBound_2 : decode cX3_mostBound 2 = .ok (.bipush 13, 2) := by decide +kernel
theorem dX3_mostBound_4 : decode cX3_mostBound 4 = .ok (.istore 4, 2) := by decide +kernel
theorem dX3_mostBound_6 : decode cX3_mostBound 6 = .ok (.iconst 0, 1) := by decide +kernel
theorem dX3_mostBound_7 : decode cX3_mostBound 7 = .ok (.istore 5, 2) := by decide +kernel
theorem dX3_mostBound_9 : decode cX3_mostBound 9 = .ok (.iload 5, 2) := by decide +kernel
theorem dX3_mostBound_11 : decode cX3_mostBound 11 = .ok (.bipush 8, 2) := by decide +kernel
theorem dX3_mostBound_13 : decode cX3_mostBound 13 = .ok (.if_icmp .ge 46, 3) := by decide +kernel
theorem dX3_mostBound_16 : decode cX3_mostBound 16 = .ok (.aload_n 0, 1) := by decide +kernel
theorem dX3_mostBound_17 : decode cX3_mostBound 17 = .ok (.getfield 24, 3) := by decide +kernel
theorem dX3_mostBound_20 : decode cX3_mostBound 20 = .ok (.iload_n 2, 1) := by decide +kernel
theorem dX3_mostBound_21 : decode cX3_mostBound 21 = .ok (.aaload, 1) := by decide +kernel
theorem dX3_mostBound_22 : decode cX3_mostBound 22 = .ok (.iload 5, 2) := by decide +kernel
theorem dX3_mostBound_24 : decode cX3_mostBound 24 = .ok (.iaload, 1) := by decide +kernel
theorem dX3_mostBound_25 : decode cX3_mostBound 25 = .ok (.invokestatic 45, 3) := by decide +kernel
theorem dX3_mostBound_28 : decode cX3_mostBound 28 = .ok (.istore 6, 2) := by decide +kernel
theorem dX3_mostBound_30 : decode cX3_mostBound 30 = .ok (.iload_n 1, 1) := by decide +kernel
theorem dX3_mostBound_31 : decode cX3_mostBound 31 = .ok (.iload 5, 2) := by decide +kernel
theorem dX3_mostBound_33 : decode cX3_mostBound 33 = .ok (.invokestatic 68, 3) := by decide +kernel
theorem dX3_mostBound_36 : decode cX3_mostBound 36 = .ok (.ifCond .eq 17, 3) := by decide +kernel
theorem dX3_mostBound_39 : decode cX3_mostBound 39 = .ok (.iload 6, 2) := by decide +kernel
theorem dX3_mostBound_41 : decode cX3_mostBound 41 = .ok (.iload 4, 2) := by decide +kernel
theorem dX3_mostBound_43 : decode cX3_mostBound 43 = .ok (.if_icmp .ge 10, 3) := by decide +kernel
theorem dX3_mostBound_46 : decode cX3_mostBound 46 = .ok (.iload 5, 2) := by decide +kernel
theorem dX3_mostBound_48 : decode cX3_mostBound 48 = .ok (.istore_n 3, 1) := by decide +kernel
theorem dX3_mostBound_49 : decode cX3_mostBound 49 = .ok (.iload 6, 2) := by decide +kernel
theorem dX3_mostBound_51 : decode cX3_mostBound 51 = .ok (.istore 4, 2) := by decide +kernel
theorem dX3_mostBound_53 : decode cX3_mostBound 53 = .ok (.iinc 5 1, 3) := by decide +kernel
theorem dX3_mostBound_56 : decode cX3_mostBound 56 = .ok (.goto (-47), 3) := by decide +kernel
theorem dX3_mostBound_59 : decode cX3_mostBound 59 = .ok (.iload_n 3, 1) := by decide +kernel
theorem dX3_mostBound_60 : decode cX3_mostBound 60 = .ok (.ireturn, 1) := by decide +kernel
set_option maxRecDepth 20000 in
theorem ggX3_narrows_X5_has : GoodIn wsX3_narrows wsX5_has := goodIn_r _ [5] (by decide +kernel) (by decide +kernel)
set_option maxRecDepth 20000 in
theorem gX3_narrows_X5_has_n68 : GoodIn wsX3_narrows (wsX5_has) := ggX3_narrows_X5_has
set_option maxRecDepth 20000 in
theorem ggX3_narrows_X3_takenNotes : GoodIn wsX3_narrows wsX3_takenNotes := goodIn_r _ [10, 11, 12, 13, 14, 15, 16] (by decide +kernel) (by decide +kernel)
set_option maxRecDepth 20000 in
theorem gX3_narrows_X3_takenNotes : GoodIn wsX3_narrows (wsV RX3 82 RX3 yX3_takenNotes wsX3_takenNotes) := goodIn_app (goodIn_of _ (by decide +kernel)) ggX3_narrows_X3_takenNotes
theorem dX3_narrows_0 : decode cX3_narrows 0 = .ok (.iconst 0, 1) := by decide +kernel
theorem dX3_narrows_1 : decode cX3_narrows 1 = .ok (.istore 5, 2) := by decide +kernel
theorem dX3_narrows_3 : decode cX3_narrows 3 = .ok (.iload 5, 2) := by decide +kernel
theorem dX3_narrows_5 : decode cX3_narrows 5 = .ok (.bipush 8, 2) := by decide +kernel
theorem dX3_narrows_7 : decode cX3_narrows 7 = .ok (.if_icmp .ge 90, 3) := by decide +kernel
theorem dX3_narrows_10 : decode cX3_narrows 10 = .ok (.iload_n 3, 1) := by decide +kernel
theorem dX3_narrows_11 : decode cX3_narrows 11 = .ok (.iload 5, 2) := by decide +kernel
theorem dX3_narrows_13 : decode cX3_narrows 13 = .ok (.invokestatic 68, 3) := by decide +kernel
theorem dX3_narrows_16 : decode cX3_narrows 16 = .ok (.ifCond .eq 75, 3) := by decide +kernel
theorem dX3_narrows_19 : decode cX3_narrows 19 = .ok (.aload_n 0, 1) := by decide +kernel
theorem dX3_narrows_20 : decode cX3_narrows 20 = .ok (.getfield 19, 3) := by decide +kernel
theorem dX3_narrows_23 : decode cX3_narrows 23 = .ok (.iload_n 1, 1) := by decide +kernel
theorem dX3_narrows_24 : decode cX3_narrows 24 = .ok (.iaload, 1) := by decide +kernel
theorem dX3_narrows_25 : decode cX3_narrows 25 = .ok (.iload 5, 2) := by decide +kernel
theorem dX3_narrows_27 : decode cX3_narrows 27 = .ok (.invokestatic 68, 3) := by decide +kernel
theorem dX3_narrows_30 : decode cX3_narrows 30 = .ok (.ifCond .eq 14, 3) := by decide +kernel
theorem dX3_narrows_33 : decode cX3_narrows 33 = .ok (.aload_n 0, 1) := by decide +kernel
theorem dX3_narrows_34 : decode cX3_narrows 34 = .ok (.iload_n 1, 1) := by decide +kernel
theorem dX3_narrows_35 : decode cX3_narrows 35 = .ok (.iload_n 2, 1) := by decide +kernel
theorem dX3_narrows_36 : decode cX3_narrows 36 = .ok (.iload 5, 2) := by decide +kernel
theorem dX3_narrows_38 : decode cX3_narrows 38 = .ok (.invokevirtual 82, 3) := by decide +kernel
theorem dX3_narrows_41 : decode cX3_narrows 41 = .ok (.goto 4, 3) := by decide +kernel
theorem dX3_narrows_44 : decode cX3_narrows 44 = .ok (.iconst 0, 1) := by decide +kernel
theorem dX3_narrows_45 : decode cX3_narrows 45 = .ok (.istore 6, 2) := by decide +kernel
theorem dX3_narrows_47 : decode cX3_narrows 47 = .ok (.aload_n 0, 1) := by decide +kernel
theorem dX3_narrows_48 : decode cX3_narrows 48 = .ok (.getfield 24, 3) := by decide +kernel
theorem dX3_narrows_51 : decode cX3_narrows 51 = .ok (.iload 4, 2) := by decide +kernel
theorem dX3_narrows_53 : decode cX3_narrows 53 = .ok (.iconst 1, 1) := by decide +kernel
theorem dX3_narrows_54 : decode cX3_narrows 54 = .ok (.iadd, 1) := by decide +kernel
theorem dX3_narrows_55 : decode cX3_narrows 55 = .ok (.aaload, 1) := by decide +kernel
theorem dX3_narrows_56 : decode cX3_narrows 56 = .ok (.iload 5, 2) := by decide +kernel
theorem dX3_narrows_58 : decode cX3_narrows 58 = .ok (.aload_n 0, 1) := by decide +kernel
theorem dX3_narrows_59 : decode cX3_narrows 59 = .ok (.getfield 24, 3) := by decide +kernel
theorem dX3_narrows_62 : decode cX3_narrows 62 = .ok (.iload 4, 2) := by decide +kernel
theorem dX3_narrows_64 : decode cX3_narrows 64 = .ok (.aaload, 1) := by decide +kernel
theorem dX3_narrows_65 : decode cX3_narrows 65 = .ok (.iload 5, 2) := by decide +kernel
theorem dX3_narrows_67 : decode cX3_narrows 67 = .ok (.iaload, 1) := by decide +kernel
theorem dX3_narrows_68 : decode cX3_narrows 68 = .ok (.iload 6, 2) := by decide +kernel
theorem dX3_narrows_70 : decode cX3_narrows 70 = .ok (.iconst (-1), 1) := by decide +kernel
theorem dX3_narrows_71 : decode cX3_narrows 71 = .ok (.ixor, 1) := by decide +kernel
theorem dX3_narrows_72 : decode cX3_narrows 72 = .ok (.iand, 1) := by decide +kernel
theorem dX3_narrows_73 : decode cX3_narrows 73 = .ok (.iastore, 1) := by decide +kernel
theorem dX3_narrows_74 : decode cX3_narrows 74 = .ok (.aload_n 0, 1) := by decide +kernel
theorem dX3_narrows_75 : decode cX3_narrows 75 = .ok (.getfield 24, 3) := by decide +kernel
theorem dX3_narrows_78 : decode cX3_narrows 78 = .ok (.iload 4, 2) := by decide +kernel
theorem dX3_narrows_80 : decode cX3_narrows 80 = .ok (.iconst 1, 1) := by decide +kernel
theorem dX3_narrows_81 : decode cX3_narrows 81 = .ok (.iadd, 1) := by decide +kernel
theorem dX3_narrows_82 : decode cX3_narrows 82 = .ok (.aaload, 1) := by decide +kernel
theorem dX3_narrows_83 : decode cX3_narrows 83 = .ok (.iload 5, 2) := by decide +kernel
theorem dX3_narrows_85 : decode cX3_narrows 85 = .ok (.iaload, 1) := by decide +kernel
theorem dX3_narrows_86 : decode cX3_narrows 86 = .ok (.ifCond .ne 5, 3) := by decide +kernel
theorem dX3_narrows_89 : decode cX3_narrows 89 = .ok (.iconst 0, 1) := by decide +kernel
theorem dX3_narrows_90 : decode cX3_narrows 90 = .ok (.ireturn, 1) := by decide +kernel
theorem dX3_narrows_91 : decode cX3_narrows 91 = .ok (.iinc 5 1, 3) := by decide +kernel
theorem dX3_narrows_94 : decode cX3_narrows 94 = .ok (.goto (-91), 3) := by decide +kernel
theorem dX3_narrows_97 : decode cX3_narrows 97 = .ok (.iconst 1, 1) := by decide +kernel
theorem dX3_narrows_98 : decode cX3_narrows 98 = .ok (.ireturn, 1) := by decide +kernel
theorem dX3_takenNotes_0 : decode cX3_takenNotes 0 = .ok (.aload_n 0, 1) := by decide +kernel
theorem dX3_takenNotes_1 : decode cX3_takenNotes 1 = .ok (.getfield 15, 3) := by decide +kernel
theorem dX3_takenNotes_4 : decode cX3_takenNotes 4 = .ok (.iload_n 1, 1) := by decide +kernel
theorem dX3_takenNotes_5 : decode cX3_takenNotes 5 = .ok (.baload, 1) := by decide +kernel
theorem dX3_takenNotes_6 : decode cX3_takenNotes 6 = .ok (.aload_n 0, 1) := by decide +kernel
theorem dX3_takenNotes_7 : decode cX3_takenNotes 7 = .ok (.getfield 15, 3) := by decide +kernel
theorem dX3_takenNotes_10 : decode cX3_takenNotes 10 = .ok (.iload_n 3, 1) := by decide +kernel
theorem dX3_takenNotes_11 : decode cX3_takenNotes 11 = .ok (.baload, 1) := by decide +kernel
theorem dX3_takenNotes_12 : decode cX3_takenNotes 12 = .ok (.if_icmp .ne 7, 3) := by decide +kernel
theorem dX3_takenNotes_15 : decode cX3_takenNotes 15 = .ok (.iconst 1, 1) := by decide +kernel
theorem dX3_takenNotes_16 : decode cX3_takenNotes 16 = .ok (.iload_n 2, 1) := by decide +kernel
theorem dX3_takenNotes_17 : decode cX3_takenNotes 17 = .ok (.ishl, 1) := by decide +kernel
theorem dX3_takenNotes_18 : decode cX3_takenNotes 18 = .ok (.ireturn, 1) := by decide +kernel
theorem dX3_takenNotes_19 : decode cX3_takenNotes 19 = .ok (.aload_n 0, 1) := by decide +kernel
theorem dX3_takenNotes_20 : decode cX3_takenNotes 20 = .ok (.getfield 15, 3) := by decide +kernel
theorem dX3_takenNotes_23 : decode cX3_takenNotes 23 = .ok (.iload_n 1, 1) := by decide +kernel
theorem dX3_takenNotes_24 : decode cX3_takenNotes 24 = .ok (.baload, 1) := by decide +kernel
theorem dX3_takenNotes_25 : decode cX3_takenNotes 25 = .ok (.ifCond .eq 12, 3) := by decide +kernel
theorem dX3_takenNotes_28 : decode cX3_takenNotes 28 = .ok (.iload_n 2, 1) := by decide +kernel
theorem dX3_takenNotes_29 : decode cX3_takenNotes 29 = .ok (.bipush 12, 2) := by decide +kernel
theorem dX3_takenNotes_31 : decode cX3_takenNotes 31 = .ok (.iadd, 1) := by decide +kernel
theorem dX3_takenNotes_32 : decode cX3_takenNotes 32 = .ok (.iconst 5, 1) := by decide +kernel
theorem dX3_takenNotes_33 : decode cX3_takenNotes 33 = .ok (.isub, 1) := by decide +kernel
theorem dX3_takenNotes_34 : decode cX3_takenNotes 34 = .ok (.goto 4, 3) := by decide +kernel
theorem dX3_takenNotes_37 : decode cX3_takenNotes 37 = .ok (.iload_n 2, 1) := by decide +kernel
theorem dX3_takenNotes_38 : decode cX3_takenNotes 38 = .ok (.istore 4, 2) := by decide +kernel
theorem dX3_takenNotes_40 : decode cX3_takenNotes 40 = .ok (.bipush 63, 2) := by decide +kernel
theorem dX3_takenNotes_42 : decode cX3_takenNotes 42 = .ok (.iload 4, 2) := by decide +kernel
theorem dX3_takenNotes_44 : decode cX3_takenNotes 44 = .ok (.bipush 12, 2) := by decide +kernel
theorem dX3_takenNotes_46 : decode cX3_takenNotes 46 = .ok (.irem, 1) := by decide +kernel
theorem dX3_takenNotes_47 : decode cX3_takenNotes 47 = .ok (.ishl, 1) := by decide +kernel
theorem dX3_takenNotes_48 : decode cX3_takenNotes 48 = .ok (.istore 5, 2) := by decide +kernel
theorem dX3_takenNotes_50 : decode cX3_takenNotes 50 = .ok (.iload 5, 2) := by decide +kernel
theorem dX3_takenNotes_52 : decode cX3_takenNotes 52 = .ok (.iload 5, 2) := by decide +kernel
theorem dX3_takenNotes_54 : decode cX3_takenNotes 54 = .ok (.bipush 12, 2) := by decide +kernel
theorem dX3_takenNotes_56 : decode cX3_takenNotes 56 = .ok (.ishr, 1) := by decide +kernel
theorem dX3_takenNotes_57 : decode cX3_takenNotes 57 = .ok (.ior, 1) := by decide +kernel
theorem dX3_takenNotes_58 : decode cX3_takenNotes 58 = .ok (.sipush 4095, 3) := by decide +kernel
theorem dX3_takenNotes_61 : decode cX3_takenNotes 61 = .ok (.iand, 1) := by decide +kernel
theorem dX3_takenNotes_62 : decode cX3_takenNotes 62 = .ok (.ireturn, 1) := by decide +kernel
