theorem dX4_init_0 : decode cX4_init 0 = .ok (.aload_n 0, 1) := by decide +kernel
theorem dX4_init_1 : decode cX4_init 1 = .ok (.invokespecial 3, 3) := by decide +kernel
theorem dX4_init_4 : decode cX4_init 4 = .ok (.aload_n 0, 1) := by decide +kernel
theorem dX4_init_5 : decode cX4_init 5 = .ok (.bipush 8, 2) := by decide +kernel
theorem dX4_init_7 : decode cX4_init 7 = .ok (.newarray .int, 2) := by decide +kernel
theorem dX4_init_9 : decode cX4_init 9 = .ok (.putfield 9, 3) := by decide +kernel
theorem dX4_init_12 : decode cX4_init 12 = .ok (.return_, 1) := by decide +kernel
set_option maxRecDepth 20000 in
theorem ggX4_fewestGuards_X4_learnReaches : GoodIn wsX4_fewestGuards wsX4_learnReaches := goodIn_r _ [6, 7, 8, 9, 10, 11, 12, 13, 14, 15, 16, 17, 18, 19, 20, 21, 22, 23, 24, 25, 26, 27, 28, 29, 30, 31, 32, 33, 34, 35, 36, 37, 38, 39, 40, 41, 65, 66, 67, 68, 53, 54, 55, 56, 57, 58, 59, 60, 61, 62, 63, 64] (by decide +kernel) (by decide +kernel)
set_option maxRecDepth 20000 in
theorem gX4_fewestGuards_X4_learnReaches : GoodIn wsX4_fewestGuards (wsV RX4 15 RX4 yX4_learnReaches wsX4_learnReaches) := goodIn_app (goodIn_of _ (by decide +kernel)) ggX4_fewestGuards_X4_learnReaches
set_option maxRecDepth 20000 in
theorem ggX4_fewestGuards_X4_covers : GoodIn wsX4_fewestGuards wsX4_covers := goodIn_r _ [45, 7, 8, 46, 47, 48, 49, 50, 51, 52, 65, 66, 67, 68] (by decide +kernel) (by decide +kernel)
set_option maxRecDepth 20000 in
theorem gX4_fewestGuards_X4_covers : GoodIn wsX4_fewestGuards (wsV RX4 25 RX4 yX4_covers wsX4_covers) := goodIn_app (goodIn_of _ (by decide +kernel)) ggX4_fewestGuards_X4_covers
set_option maxRecDepth 20000 in
theorem ggX4_fewestGuards_J6_bitCount_0f7a4 : GoodIn wsX4_fewestGuards wsJ6_bitCount_0f7a4 := goodIn_r _ [49, 50, 51, 52] (by decide +kernel) (by decide +kernel)
set_option maxRecDepth 20000 in
theorem gX4_fewestGuards_J6_bitCount_0f7a4 : GoodIn wsX4_fewestGuards (va_wsS RX4 29 yJ6_bitCount_0f7a4 wsJ6_bitCount_0f7a4) := goodIn_app (goodIn_of _ (by decide +kernel)) ggX4_fewestGuards_J6_bitCount_0f7a4
theorem dX4_fewestGuards_0 : decode cX4_fewestGuards 0 = .ok (.aload_n 0, 1) := by decide +kernel
theorem dX4_fewestGuards_1 : decode cX4_fewestGuards 1 = .ok (.aload_n 1, 1) := by decide +kernel
theorem dX4_fewestGuards_2 : decode cX4_fewestGuards 2 = .ok (.invokevirtual 15, 3) := by decide +kernel
theorem dX4_fewestGuards_5 : decode cX4_fewestGuards 5 = .ok (.iconst 1, 1) := by decide +kernel
theorem dX4_fewestGuards_6 : decode cX4_fewestGuards 6 = .ok (.aload_n 1, 1) := by decide +kernel
theorem dX4_fewestGuards_7 : decode cX4_fewestGuards 7 = .ok (.getfield 19, 3) := by decide +kernel
theorem dX4_fewestGuards_10 : decode cX4_fewestGuards 10 = .ok (.ishl, 1) := by decide +kernel
theorem dX4_fewestGuards_11 : decode cX4_fewestGuards 11 = .ok (.iconst 1, 1) := by decide +kernel
theorem dX4_fewestGuards_12 : decode cX4_fewestGuards 12 = .ok (.isub, 1) := by decide +kernel
theorem dX4_fewestGuards_13 : decode cX4_fewestGuards 13 = .ok (.istore_n 3, 1) := by decide +kernel
theorem dX4_fewestGuards_14 : decode cX4_fewestGuards 14 = .ok (.aload_n 0, 1) := by decide +kernel
theorem dX4_fewestGuards_15 : decode cX4_fewestGuards 15 = .ok (.iload_n 3, 1) := by decide +kernel
theorem dX4_fewestGuards_16 : decode cX4_fewestGuards 16 = .ok (.iload_n 2, 1) := by decide +kernel
theorem dX4_fewestGuards_17 : decode cX4_fewestGuards 17 = .ok (.invokevirtual 25, 3) := by decide +kernel
theorem dX4_fewestGuards_20 : decode cX4_fewestGuards 20 = .ok (.ifCond .ne 5, 3) := by decide +kernel
theorem dX4_fewestGuards_23 : decode cX4_fewestGuards 23 = .ok (.iconst (-1), 1) := by decide +kernel
theorem dX4_fewestGuards_24 : decode cX4_fewestGuards 24 = .ok (.ireturn, 1) := by decide +kernel
theorem dX4_fewestGuards_25 : decode cX4_fewestGuards 25 = .ok (.iload_n 3, 1) := by decide +kernel
theorem dX4_fewestGuards_26 : decode cX4_fewestGuards 26 = .ok (.istore 4, 2) := by decide +kernel
theorem dX4_fewestGuards_28 : decode cX4_fewestGuards 28 = .ok (.aload_n 1, 1) := by decide +kernel
theorem dX4_fewestGuards_29 : decode cX4_fewestGuards 29 = .ok (.getfield 19, 3) := by decide +kernel
theorem dX4_fewestGuards_32 : decode cX4_fewestGuards 32 = .ok (.istore 5, 2) := by decide +kernel
theorem dX4_fewestGuards_34 : decode cX4_fewestGuards 34 = .ok (.iconst 0, 1) := by decide +kernel
theorem dX4_fewestGuards_35 : decode cX4_fewestGuards 35 = .ok (.istore 6, 2) := by decide +kernel
theorem dX4_fewestGuards_37 : decode cX4_fewestGuards 37 = .ok (.iload 6, 2) := by decide +kernel
theorem dX4_fewestGuards_39 : decode cX4_fewestGuards 39 = .ok (.iload_n 3, 1) := by decide +kernel
theorem dX4_fewestGuards_40 : decode cX4_fewestGuards 40 = .ok (.if_icmp .ge 41, 3) := by decide +kernel
theorem dX4_fewestGuards_43 : decode cX4_fewestGuards 43 = .ok (.iload 6, 2) := by decide +kernel
theorem dX4_fewestGuards_45 : decode cX4_fewestGuards 45 = .ok (.invokestatic 29, 3) := by decide +kernel
theorem dX4_fewestGuards_48 : decode cX4_fewestGuards 48 = .ok (.istore 7, 2) := by decide +kernel
theorem dX4_fewestGuards_50 : decode cX4_fewestGuards 50 = .ok (.iload 7, 2) := by decide +kernel
theorem dX4_fewestGuards_52 : decode cX4_fewestGuards 52 = .ok (.iload 5, 2) := by decide +kernel
theorem dX4_fewestGuards_54 : decode cX4_fewestGuards 54 = .ok (.if_icmp .ge 21, 3) := by decide +kernel
theorem dX4_fewestGuards_57 : decode cX4_fewestGuards 57 = .ok (.aload_n 0, 1) := by decide +kernel
theorem dX4_fewestGuards_58 : decode cX4_fewestGuards 58 = .ok (.iload 6, 2) := by decide +kernel
theorem dX4_fewestGuards_60 : decode cX4_fewestGuards 60 = .ok (.iload_n 2, 1) := by decide +kernel
theorem dX4_fewestGuards_61 : decode cX4_fewestGuards 61 = .ok (.invokevirtual 25, 3) := by decide +kernel
theorem dX4_fewestGuards_64 : decode cX4_fewestGuards 64 = .ok (.ifCond .eq 11, 3) := by decide +kernel
theorem dX4_fewestGuards_67 : decode cX4_fewestGuards 67 = .ok (.iload 7, 2) := by decide +kernel
theorem dX4_fewestGuards_69 : decode cX4_fewestGuards 69 = .ok (.istore 5, 2) := by decide +kernel
theorem dX4_fewestGuards_71 : decode cX4_fewestGuards 71 = .ok (.iload 6, 2) := by decide +kernel
theorem dX4_fewestGuards_73 : decode cX4_fewestGuards 73 = .ok (.istore 4, 2) := by decide +kernel
theorem dX4_fewestGuards_75 : decode cX4_fewestGuards 75 = .ok (.iinc 6 1, 3) := by decide +kernel
theorem dX4_fewestGuards_78 : decode cX4_fewestGuards 78 = .ok (.goto (-41), 3) := by decide +kernel
theorem dX4_fewestGuards_81 : decode cX4_fewestGuards 81 = .ok (.iload 4, 2) := by decide +kernel
theorem dX4_fewestGuards_83 : decode cX4_fewestGuards 83 = .ok (.ireturn, 1) := by decide +kernel
set_option maxRecDepth 20000 in
theorem ggX4_learnReaches_X0_wireCount : GoodIn wsX4_learnReaches wsX0_wireCount := goodIn_r _ [7, 8, 40, 41, 42, 43, 44, 45, 46, 47, 48, 49, 50, 51] (by decide +kernel) (by decide +kernel)
set_option maxRecDepth 20000 in
theorem gX4_learnReaches_X0_wireCount : GoodIn wsX4_learnReaches (wsV RX4 38 RX0 yX0_wireCount wsX0_wireCount) := goodIn_app (goodIn_of _ (by decide +kernel)) ggX4_learnReaches_X0_wireCount
set_option maxRecDepth 20000 in
theorem ggX4_learnReaches_X0_isCut : GoodIn wsX4_learnReaches wsX0_isCut := goodIn_r _ [12, 13, 40, 41, 42, 43, 44, 45, 46, 47, 48, 49, 50, 51] (by decide +kernel) (by decide +kernel)
set_option maxRecDepth 20000 in
theorem gX4_learnReaches_X0_isCut : GoodIn wsX4_learnReaches (wsV RX4 42 RX0 yX0_isCut wsX0_isCut) := goodIn_app (goodIn_of _ (by decide +kernel)) ggX4_learnReaches_X0_isCut
set_option maxRecDepth 20000 in
theorem ggX4_learnReaches_X0_reach : GoodIn wsX4_learnReaches wsX0_reach := goodIn_r _ [17, 18, 19, 20, 6, 21, 13, 22, 23, 24, 25, 26, 27, 28, 29, 30, 31, 32, 8, 33, 34, 35, 40, 41, 42, 43, 44, 45, 46, 47, 48, 49, 50, 51] (by decide +kernel) (by decide +kernel)
set_option maxRecDepth 20000 in
theorem gX4_learnReaches_X0_reach : GoodIn wsX4_learnReaches (wsV RX4 49 RX0 yX0_reach wsX0_reach) := goodIn_app (goodIn_of _ (by decide +kernel)) ggX4_learnReaches_X0_reach
theorem dX4_learnReaches_0 : decode cX4_learnReaches 0 = .ok (.aload_n 0, 1) := by decide +kernel
theorem dX4_learnReaches_1 : decode cX4_learnReaches 1 = .ok (.iconst 0, 1) := by decide +kernel
theorem dX4_learnReaches_2 : decode cX4_learnReaches 2 = .ok (.putfield 35, 3) := by decide +kernel
theorem dX4_learnReaches_5 : decode cX4_learnReaches 5 = .ok (.iconst 0, 1) := by decide +kernel
theorem dX4_learnReaches_6 : decode cX4_learnReaches 6 = .ok (.istore_n 2, 1) := by decide +kernel
theorem dX4_learnReaches_7 : decode cX4_learnReaches 7 = .ok (.iload_n 2, 1) := by decide +kernel
theorem dX4_learnReaches_8 : decode cX4_learnReaches 8 = .ok (.aload_n 1, 1) := by decide +kernel
theorem dX4_learnReaches_9 : decode cX4_learnReaches 9 = .ok (.invokevirtual 38, 3) := by decide +kernel
theorem dX4_learnReaches_12 : decode cX4_learnReaches 12 = .ok (.if_icmp .ge 46, 3) := by decide +kernel
theorem dX4_learnReaches_15 : decode cX4_learnReaches 15 = .ok (.aload_n 1, 1) := by decide +kernel
theorem dX4_learnReaches_16 : decode cX4_learnReaches 16 = .ok (.iload_n 2, 1) := by decide +kernel
theorem dX4_learnReaches_17 : decode cX4_learnReaches 17 = .ok (.invokevirtual 42, 3) := by decide +kernel
theorem dX4_learnReaches_20 : decode cX4_learnReaches 20 = .ok (.ifCond .ne 32, 3) := by decide +kernel
theorem dX4_learnReaches_23 : decode cX4_learnReaches 23 = .ok (.aload_n 0, 1) := by decide +kernel
theorem dX4_learnReaches_24 : decode cX4_learnReaches 24 = .ok (.getfield 9, 3) := by decide +kernel
theorem dX4_learnReaches_27 : decode cX4_learnReaches 27 = .ok (.aload_n 0, 1) := by decide +kernel
theorem dX4_learnReaches_28 : decode cX4_learnReaches 28 = .ok (.getfield 35, 3) := by decide +kernel
theorem dX4_learnReaches_31 : decode cX4_learnReaches 31 = .ok (.aload_n 1, 1) := by decide +kernel
theorem dX4_learnReaches_32 : decode cX4_learnReaches 32 = .ok (.iload_n 2, 1) := by decide +kernel
theorem dX4_learnReaches_33 : decode cX4_learnReaches 33 = .ok (.getstatic 46, 3) := by decide +kernel
theorem dX4_learnReaches_36 : decode cX4_learnReaches 36 = .ok (.iconst 0, 1) := by decide +kernel
theorem dX4_learnReaches_37 : decode cX4_learnReaches 37 = .ok (.iaload, 1) := by decide +kernel
theorem dX4_learnReaches_38 : decode cX4_learnReaches 38 = .ok (.invokevirtual 49, 3) := by decide +kernel
theorem dX4_learnReaches_41 : decode cX4_learnReaches 41 = .ok (.iastore, 1) := by decide +kernel
theorem dX4_learnReaches_42 : decode cX4_learnReaches 42 = .ok (.aload_n 0, 1) := by decide +kernel
theorem dX4_learnReaches_43 : decode cX4_learnReaches 43 = .ok (.dup, 1) := by decide +kernel
theorem dX4_learnReaches_44 : decode cX4_learnReaches 44 = .ok (.getfield 35, 3) := by decide +kernel
theorem dX4_learnReaches_47 : decode cX4_learnReaches 47 = .ok (.iconst 1, 1) := by decide +kernel
theorem dX4_learnReaches_48 : decode cX4_learnReaches 48 = .ok (.iadd, 1) := by decide +kernel
theorem dX4_learnReaches_49 : decode cX4_learnReaches 49 = .ok (.putfield 35, 3) := by decide +kernel
theorem dX4_learnReaches_52 : decode cX4_learnReaches 52 = .ok (.iinc 2 1, 3) := by decide +kernel
theorem dX4_learnReaches_55 : decode cX4_learnReaches 55 = .ok (.goto (-48), 3) := by decide +kernel
theorem dX4_learnReaches_58 : decode cX4_learnReaches 58 = .ok (.return_, 1) := by decide +kernel
set_option maxRecDepth 20000 in
theorem ggX4_covers_J6_bitCount_0f7a4 : GoodIn wsX4_covers wsJ6_bitCount_0f7a4 := goodIn_r _ [6, 7, 8, 9] (by decide +kernel) (by decide +kernel)
set_option maxRecDepth 20000 in
theorem gX4_covers_J6_bitCount_0f7a4 : GoodIn wsX4_covers (va_wsS RX4 29 yJ6_bitCount_0f7a4 wsJ6_bitCount_0f7a4) := goodIn_app (goodIn_of _ (by decide +kernel)) ggX4_covers_J6_bitCount_0f7a4
theorem dX4_covers_0 : decode cX4_covers 0 = .ok (.iconst 0, 1) := by decide +kernel
theorem dX4_covers_1 : decode cX4_covers 1 = .ok (.istore_n 3, 1) := by decide +kernel
theorem dX4_covers_2 : decode cX4_covers 2 = .ok (.iload_n 3, 1) := by decide +kernel
theorem dX4_covers_3 : decode cX4_covers 3 = .ok (.aload_n 0, 1) := by decide +kernel
theorem dX4_covers_4 : decode cX4_covers 4 = .ok (.getfield 35, 3) := by decide +kernel
theorem dX4_covers_7 : decode cX4_covers 7 = .ok (.if_icmp .ge 26, 3) := by decide +kernel
theorem dX4_covers_10 : decode cX4_covers 10 = .ok (.aload_n 0, 1) := by decide +kernel
theorem dX4_covers_11 : decode cX4_covers 11 = .ok (.getfield 9, 3) := by decide +kernel
theorem dX4_covers_14 : decode cX4_covers 14 = .ok (.iload_n 3, 1) := by decide +kernel
theorem dX4_covers_15 : decode cX4_covers 15 = .ok (.iaload, 1) := by decide +kernel
theorem dX4_covers_16 : decode cX4_covers 16 = .ok (.iload_n 1, 1) := by decide +kernel
theorem dX4_covers_17 : decode cX4_covers 17 = .ok (.iand, 1) := by decide +kernel
theorem dX4_covers_18 : decode cX4_covers 18 = .ok (.invokestatic 29, 3) := by decide +kernel
theorem dX4_covers_21 : decode cX4_covers 21 = .ok (.iload_n 2, 1) := by decide +kernel
theorem dX4_covers_22 : decode cX4_covers 22 = .ok (.if_icmp .ge 5, 3) := by decide +kernel
theorem dX4_covers_25 : decode cX4_covers 25 = .ok (.iconst 0, 1) := by decide +kernel
theorem dX4_covers_26 : decode cX4_covers 26 = .ok (.ireturn, 1) := by decide +kernel
theorem dX4_covers_27 : decode cX4_covers 27 = .ok (.iinc 3 1, 3) := by decide +kernel
theorem dX4_covers_30 : decode cX4_covers 30 = .ok (.goto (-28), 3) := by decide +kernel
theorem dX4_covers_33 : decode cX4_covers 33 = .ok (.iconst 1, 1) := by decide +kernel
theorem dX4_covers_34 : decode cX4_covers 34 = .ok (.ireturn, 1) := by decide +kernel
set_option maxRecDepth 20000 in
theorem ggX4_findSlip_X0_isWindy : GoodIn wsX4_findSlip wsX0_isWindy := goodIn_r _ [7, 8, 9, 67, 68, 69, 70, 71, 72, 73, 74, 75, 76, 77, 78] (by decide +kernel) (by decide +kernel)
set_option maxRecDepth 20000 in
theorem gX4_findSlip_X0_isWindy : GoodIn wsX4_findSlip (wsV RX4 59 RX0 yX0_isWindy wsX0_isWindy) := goodIn_app (goodIn_of _ (by decide +kernel)) ggX4_findSlip_X0_isWindy
set_option maxRecDepth 20000 in
theorem ggX4_findSlip_X4_lookAtMinute : GoodIn wsX4_findSlip wsX4_lookAtMinute := goodIn_r _ [14, 1, 2, 15, 16, 17, 6, 18, 19, 20, 21, 22, 23, 24, 25, 26, 13, 27, 28, 29, 30, 31, 32, 33, 34, 35, 36, 37, 38, 39, 40, 41, 42, 43, 44, 45, 46, 47, 48, 49, 50, 51, 52, 53, 54, 8, 9, 55, 56, 57, 58, 59, 60, 61, 62, 63, 64, 65, 66, 67, 68, 69, 70, 71, 72, 73, 74, 75, 76, 77, 78] (by decide +kernel) (by decide +kernel)
set_option maxRecDepth 20000 in
theorem gX4_findSlip_X4_lookAtMinute : GoodIn wsX4_findSlip (wsV RX4 62 RX4 yX4_lookAtMinute wsX4_lookAtMinute) := goodIn_app (goodIn_of _ (by decide +kernel)) ggX4_findSlip_X4_lookAtMinute
theorem dX4_findSlip_0 : decode cX4_findSlip 0 = .ok (.aload_n 0, 1) := by decide +kernel
theorem dX4_findSlip_1 : decode cX4_findSlip 1 = .ok (.iconst (-1), 1) := by decide +kernel
theorem dX4_findSlip_2 : decode cX4_findSlip 2 = .ok (.putfield 53, 3) := by decide +kernel
theorem dX4_findSlip_5 : decode cX4_findSlip 5 = .ok (.aload_n 0, 1) := by decide +kernel
theorem dX4_findSlip_6 : decode cX4_findSlip 6 = .ok (.iconst (-1), 1) := by decide +kernel
theorem dX4_findSlip_7 : decode cX4_findSlip 7 = .ok (.putfield 56, 3) := by decide +kernel
theorem dX4_findSlip_10 : decode cX4_findSlip 10 = .ok (.iconst 0, 1) := by decide +kernel
theorem dX4_findSlip_11 : decode cX4_findSlip 11 = .ok (.istore_n 2, 1) := by decide +kernel
theorem dX4_findSlip_12 : decode cX4_findSlip 12 = .ok (.iconst 0, 1) := by decide +kernel
theorem dX4_findSlip_13 : decode cX4_findSlip 13 = .ok (.istore_n 3, 1) := by decide +kernel
theorem dX4_findSlip_14 : decode cX4_findSlip 14 = .ok (.iload_n 3, 1) := by decide +kernel
theorem dX4_findSlip_15 : decode cX4_findSlip 15 = .ok (.bipush 60, 2) := by decide +kernel
theorem dX4_findSlip_17 : decode cX4_findSlip 17 = .ok (.if_icmp .ge 44, 3) := by decide +kernel
theorem dX4_findSlip_20 : decode cX4_findSlip 20 = .ok (.aload_n 1, 1) := by decide +kernel
theorem dX4_findSlip_21 : decode cX4_findSlip 21 = .ok (.iload_n 3, 1) := by decide +kernel
theorem dX4_findSlip_22 : decode cX4_findSlip 22 = .ok (.invokevirtual 59, 3) := by decide +kernel
theorem dX4_findSlip_25 : decode cX4_findSlip 25 = .ok (.istore 4, 2) := by decide +kernel
theorem dX4_findSlip_27 : decode cX4_findSlip 27 = .ok (.iload 4, 2) := by decide +kernel
theorem dX4_findSlip_29 : decode cX4_findSlip 29 = .ok (.ifCond .ne 7, 3) := by decide +kernel
theorem dX4_findSlip_32 : decode cX4_findSlip 32 = .ok (.iload_n 2, 1) := by decide +kernel
theorem dX4_findSlip_33 : decode cX4_findSlip 33 = .ok (.ifCond .ne 9, 3) := by decide +kernel
theorem dX4_findSlip_36 : decode cX4_findSlip 36 = .ok (.aload_n 0, 1) := by decide +kernel
theorem dX4_findSlip_37 : decode cX4_findSlip 37 = .ok (.aload_n 1, 1) := by decide +kernel
theorem dX4_findSlip_38 : decode cX4_findSlip 38 = .ok (.iload_n 3, 1) := by decide +kernel
theorem dX4_findSlip_39 : decode cX4_findSlip 39 = .ok (.invokevirtual 62, 3) := by decide +kernel
theorem dX4_findSlip_42 : decode cX4_findSlip 42 = .ok (.iload_n 2, 1) := by decide +kernel
theorem dX4_findSlip_43 : decode cX4_findSlip 43 = .ok (.iload 4, 2) := by decide +kernel
theorem dX4_findSlip_45 : decode cX4_findSlip 45 = .ok (.ifCond .ne 7, 3) := by decide +kernel
theorem dX4_findSlip_48 : decode cX4_findSlip 48 = .ok (.iconst 1, 1) := by decide +kernel
theorem dX4_findSlip_49 : decode cX4_findSlip 49 = .ok (.goto 4, 3) := by decide +kernel
theorem dX4_findSlip_52 : decode cX4_findSlip 52 = .ok (.iconst 0, 1) := by decide +kernel
theorem dX4_findSlip_53 : decode cX4_findSlip 53 = .ok (.ior, 1) := by decide +kernel
theorem dX4_findSlip_54 : decode cX4_findSlip 54 = .ok (.istore_n 2, 1) := by decide +kernel
theorem dX4_findSlip_55 : decode cX4_findSlip 55 = .ok (.iinc 3 1, 3) := by decide +kernel
theorem dX4_findSlip_58 : decode cX4_findSlip 58 = .ok (.goto (-44), 3) := by decide +kernel
theorem dX4_findSlip_61 : decode cX4_findSlip 61 = .ok (.return_, 1) := by decide +kernel
set_option maxRecDepth 20000 in
theorem ggX4_lookAtMinute_X0_wireCount : GoodIn wsX4_lookAtMinute wsX0_wireCount := goodIn_r _ [7, 8, 59, 60, 61, 62, 63, 64, 65, 66, 67, 68, 69, 70] (by decide +kernel) (by decide +kernel)
set_option maxRecDepth 20000 in
theorem gX4_lookAtMinute_X0_wireCount : GoodIn wsX4_lookAtMinute (wsV RX4 38 RX0 yX0_wireCount wsX0_wireCount) := goodIn_app (goodIn_of _ (by decide +kernel)) ggX4_lookAtMinute_X0_wireCount
set_option maxRecDepth 20000 in
theorem ggX4_lookAtMinute_X0_isCut : GoodIn wsX4_lookAtMinute wsX0_isCut := goodIn_r _ [12, 13, 59, 60, 61, 62, 63, 64, 65, 66, 67, 68, 69, 70] (by decide +kernel) (by decide +kernel)
set_option maxRecDepth 20000 in
theorem gX4_lookAtMinute_X0_isCut : GoodIn wsX4_lookAtMinute (wsV RX4 42 RX0 yX0_isCut wsX0_isCut) := goodIn_app (goodIn_of _ (by decide +kernel)) ggX4_lookAtMinute_X0_isCut
set_option maxRecDepth 20000 in
theorem ggX4_lookAtMinute_X4_noticers : GoodIn wsX4_lookAtMinute wsX4_noticers := goodIn_r _ [17, 18, 19, 20, 21, 6, 22, 23, 24, 25, 26, 13, 27, 28, 29, 30, 31, 32, 33, 34, 35, 36, 37, 8, 38, 39, 40, 41, 42, 43, 44, 45, 46, 47, 48, 49, 50, 51, 52, 53, 54, 59, 60, 61, 62, 63, 64, 65, 66, 67, 68, 69, 70] (by decide +kernel) (by decide +kernel)
set_option maxRecDepth 20000 in
theorem gX4_lookAtMinute_X4_noticers : GoodIn wsX4_lookAtMinute (va_wsS RX4 66 yX4_noticers wsX4_noticers) := goodIn_app (goodIn_of _ (by decide +kernel)) ggX4_lookAtMinute_X4_noticers
theorem dX4_lookAtMinute_0 : decode cX4_lookAtMinute 0 = .ok (.iconst 0, 1) := by decide +kernel
theorem dX4_lookAtMinute_1 : decode cX4_lookAtMinute 1 = .ok (.istore_n 3, 1) := by decide +kernel
theorem dX4_lookAtMinute_2 : decode cX4_lookAtMinute 2 = .ok (.iload_n 3, 1) := by decide +kernel
theorem dX4_lookAtMinute_3 : decode cX4_lookAtMinute 3 = .ok (.aload_n 1, 1) := by decide +kernel
theorem dX4_lookAtMinute_4 : decode cX4_lookAtMinute 4 = .ok (.invokevirtual 38, 3) := by decide +kernel
theorem dX4_lookAtMinute_7 : decode cX4_lookAtMinute 7 = .ok (.if_icmp .ge 58, 3) := by decide +kernel
theorem dX4_lookAtMinute_10 : decode cX4_lookAtMinute 10 = .ok (.aload_n 1, 1) := by decide +kernel
theorem dX4_lookAtMinute_11 : decode cX4_lookAtMinute 11 = .ok (.iload_n 3, 1) := by decide +kernel
theorem dX4_lookAtMinute_12 : decode cX4_lookAtMinute 12 = .ok (.invokevirtual 42, 3) := by decide +kernel
theorem dX4_lookAtMinute_15 : decode cX4_lookAtMinute 15 = .ok (.ifCond .ne 44, 3) := by decide +kernel
theorem dX4_lookAtMinute_18 : decode cX4_lookAtMinute 18 = .ok (.aload_n 1, 1) := by decide +kernel
theorem dX4_lookAtMinute_19 : decode cX4_lookAtMinute 19 = .ok (.iload_n 2, 1) := by decide +kernel
theorem dX4_lookAtMinute_20 : decode cX4_lookAtMinute 20 = .ok (.iload_n 3, 1) := by decide +kernel
theorem dX4_lookAtMinute_21 : decode cX4_lookAtMinute 21 = .ok (.invokestatic 66, 3) := by decide +kernel
theorem dX4_lookAtMinute_24 : decode cX4_lookAtMinute 24 = .ok (.istore 4, 2) := by decide +kernel
theorem dX4_lookAtMinute_26 : decode cX4_lookAtMinute 26 = .ok (.aload_n 0, 1) := by decide +kernel
theorem dX4_lookAtMinute_27 : decode cX4_lookAtMinute 27 = .ok (.getfield 53, 3) := by decide +kernel
theorem dX4_lookAtMinute_30 : decode cX4_lookAtMinute 30 = .ok (.iconst (-1), 1) := by decide +kernel
theorem dX4_lookAtMinute_31 : decode cX4_lookAtMinute 31 = .ok (.if_icmp .eq 12, 3) := by decide +kernel
theorem dX4_lookAtMinute_34 : decode cX4_lookAtMinute 34 = .ok (.iload 4, 2) := by decide +kernel
theorem dX4_lookAtMinute_36 : decode cX4_lookAtMinute 36 = .ok (.aload_n 0, 1) := by decide +kernel
theorem dX4_lookAtMinute_37 : decode cX4_lookAtMinute 37 = .ok (.getfield 53, 3) := by decide +kernel
theorem dX4_lookAtMinute_40 : decode cX4_lookAtMinute 40 = .ok (.if_icmp .ge 19, 3) := by decide +kernel
theorem dX4_lookAtMinute_43 : decode cX4_lookAtMinute 43 = .ok (.aload_n 0, 1) := by decide +kernel
theorem dX4_lookAtMinute_44 : decode cX4_lookAtMinute 44 = .ok (.iload 4, 2) := by decide +kernel
theorem dX4_lookAtMinute_46 : decode cX4_lookAtMinute 46 = .ok (.putfield 53, 3) := by decide +kernel
theorem dX4_lookAtMinute_49 : decode cX4_lookAtMinute 49 = .ok (.aload_n 0, 1) := by decide +kernel
theorem dX4_lookAtMinute_50 : decode cX4_lookAtMinute 50 = .ok (.bipush 100, 2) := by decide +kernel
theorem dX4_lookAtMinute_52 : decode cX4_lookAtMinute 52 = .ok (.iload_n 2, 1) := by decide +kernel
theorem dX4_lookAtMinute_53 : decode cX4_lookAtMinute 53 = .ok (.imul, 1) := by decide +kernel
theorem dX4_lookAtMinute_54 : decode cX4_lookAtMinute 54 = .ok (.iload_n 3, 1) := by decide +kernel
theorem dX4_lookAtMinute_55 : decode cX4_lookAtMinute 55 = .ok (.iadd, 1) := by decide +kernel
theorem dX4_lookAtMinute_56 : decode cX4_lookAtMinute 56 = .ok (.putfield 56, 3) := by decide +kernel
theorem dX4_lookAtMinute_59 : decode cX4_lookAtMinute 59 = .ok (.iinc 3 1, 3) := by decide +kernel
theorem dX4_lookAtMinute_62 : decode cX4_lookAtMinute 62 = .ok (.goto (-60), 3) := by decide +kernel
theorem dX4_lookAtMinute_65 : decode cX4_lookAtMinute 65 = .ok (.return_, 1) := by decide +kernel
set_option maxRecDepth 20000 in
theorem ggX4_noticers_X0_reach : GoodIn wsX4_noticers wsX0_reach := goodIn_r _ [6, 7, 8, 9, 5, 10, 11, 12, 13, 14, 15, 16, 17, 18, 19, 20, 21, 22, 23, 24, 25, 26, 41, 42, 43, 44, 45, 46, 47, 48, 49, 50, 51, 52] (by decide +kernel) (by decide +kernel)
set_option maxRecDepth 20000 in
theorem gX4_noticers_X0_reach : GoodIn wsX4_noticers (wsV RX4 49 RX0 yX0_reach wsX0_reach) := goodIn_app (goodIn_of _ (by decide +kernel)) ggX4_noticers_X0_reach
set_option maxRecDepth 20000 in
theorem ggX4_noticers_X0_isBlown : GoodIn wsX4_noticers wsX0_isBlown := goodIn_r _ [30, 31, 32, 33, 41, 42, 43, 44, 45, 46, 47, 48, 49, 50, 51, 52] (by decide +kernel) (by decide +kernel)
set_option maxRecDepth 20000 in
theorem gX4_noticers_X0_isBlown : GoodIn wsX4_noticers (wsV RX4 73 RX0 yX0_isBlown wsX0_isBlown) := goodIn_app (goodIn_of _ (by decide +kernel)) ggX4_noticers_X0_isBlown
set_option maxRecDepth 20000 in
theorem ggX4_noticers_J6_bitCount_0f7a4 : GoodIn wsX4_noticers wsJ6_bitCount_0f7a4 := goodIn_r _ [37, 38, 39, 40] (by decide +kernel) (by decide +kernel)
set_option maxRecDepth 20000 in
theorem gX4_noticers_J6_bitCount_0f7a4 : GoodIn wsX4_noticers (va_wsS RX4 29 yJ6_bitCount_0f7a4 wsJ6_bitCount_0f7a4) := goodIn_app (goodIn_of _ (by decide +kernel)) ggX4_noticers_J6_bitCount_0f7a4
theorem dX4_noticers_0 : decode cX4_noticers 0 = .ok (.aload_n 0, 1) := by decide +kernel
theorem dX4_noticers_1 : decode cX4_noticers 1 = .ok (.getfield 70, 3) := by decide +kernel
theorem dX4_noticers_4 : decode cX4_noticers 4 = .ok (.aload_n 0, 1) := by decide +kernel
theorem dX4_noticers_5 : decode cX4_noticers 5 = .ok (.iload_n 2, 1) := by decide +kernel
theorem dX4_noticers_6 : decode cX4_noticers 6 = .ok (.iconst 2, 1) := by decide +kernel
theorem dX4_noticers_7 : decode cX4_noticers 7 = .ok (.invokevirtual 49, 3) := by decide +kernel
theorem dX4_noticers_10 : decode cX4_noticers 10 = .ok (.iand, 1) := by decide +kernel
theorem dX4_noticers_11 : decode cX4_noticers 11 = .ok (.istore_n 3, 1) := by decide +kernel
theorem dX4_noticers_12 : decode cX4_noticers 12 = .ok (.aload_n 0, 1) := by decide +kernel
theorem dX4_noticers_13 : decode cX4_noticers 13 = .ok (.iload_n 1, 1) := by decide +kernel
theorem dX4_noticers_14 : decode cX4_noticers 14 = .ok (.iload_n 2, 1) := by decide +kernel
theorem dX4_noticers_15 : decode cX4_noticers 15 = .ok (.invokevirtual 73, 3) := by decide +kernel
theorem dX4_noticers_18 : decode cX4_noticers 18 = .ok (.ifCond .eq 14, 3) := by decide +kernel
theorem dX4_noticers_21 : decode cX4_noticers 21 = .ok (.iload_n 3, 1) := by decide +kernel
theorem dX4_noticers_22 : decode cX4_noticers 22 = .ok (.aload_n 0, 1) := by decide +kernel
theorem dX4_noticers_23 : decode cX4_noticers 23 = .ok (.iload_n 2, 1) := by decide +kernel
theorem dX4_noticers_24 : decode cX4_noticers 24 = .ok (.iconst 1, 1) := by decide +kernel
theorem dX4_noticers_25 : decode cX4_noticers 25 = .ok (.invokevirtual 49, 3) := by decide +kernel
theorem dX4_noticers_28 : decode cX4_noticers 28 = .ok (.iconst (-1), 1) := by decide +kernel
theorem dX4_noticers_29 : decode cX4_noticers 29 = .ok (.ixor, 1) := by decide +kernel
theorem dX4_noticers_30 : decode cX4_noticers 30 = .ok (.iand, 1) := by decide +kernel
theorem dX4_noticers_31 : decode cX4_noticers 31 = .ok (.istore_n 3, 1) := by decide +kernel
theorem dX4_noticers_32 : decode cX4_noticers 32 = .ok (.iload_n 3, 1) := by decide +kernel
theorem dX4_noticers_33 : decode cX4_noticers 33 = .ok (.invokestatic 29, 3) := by decide +kernel
theorem dX4_noticers_36 : decode cX4_noticers 36 = .ok (.ireturn, 1) := by decide +kernel
