set_option maxRecDepth 20000 in
theorem ggX5_init_X0_init : GoodIn wsX5_init wsX0_init := goodIn_r _ [29, 30, 2, 3, 31, 32, 33, 34, 35, 36, 37, 38, 39, 62, 63, 64, 65, 66, 67, 68, 69, 70, 71, 72, 73] (by decide +kernel) (by decide +kernel)
set_option maxRecDepth 20000 in
theorem gX5_init_X0_init_n11 : GoodIn wsX5_init (wsX0_init) := ggX5_init_X0_init
set_option maxRecDepth 20000 in
theorem ggX5_init_X1_init : GoodIn wsX5_init wsX1_init := goodIn_r _ [41, 42, 2, 3, 43, 44, 85, 86, 87, 88, 89] (by decide +kernel) (by decide +kernel)
set_option maxRecDepth 20000 in
theorem gX5_init_X1_init_n29 : GoodIn wsX5_init (wsX1_init) := ggX5_init_X1_init
set_option maxRecDepth 20000 in
theorem ggX5_init_X4_init : GoodIn wsX5_init wsX4_init := goodIn_r _ [46, 47, 2, 3, 32, 48, 90, 91, 92, 93] (by decide +kernel) (by decide +kernel)
set_option maxRecDepth 20000 in
theorem gX5_init_X4_init_n36 : GoodIn wsX5_init (wsX4_init) := ggX5_init_X4_init
set_option maxRecDepth 20000 in
theorem ggX5_init_X3_init : GoodIn wsX5_init wsX3_init := goodIn_r _ [50, 51, 2, 3, 32, 52, 10, 53, 54, 55, 56, 94, 95, 96, 97, 98] (by decide +kernel) (by decide +kernel)
set_option maxRecDepth 20000 in
theorem gX5_init_X3_init_n43 : GoodIn wsX5_init (wsX3_init) := ggX5_init_X3_init
set_option maxRecDepth 20000 in
theorem ggX5_init_X2_init : GoodIn wsX5_init wsX2_init := goodIn_r _ [58, 59, 2, 3, 60, 61, 99, 100] (by decide +kernel) (by decide +kernel)
set_option maxRecDepth 20000 in
theorem gX5_init_X2_init_n50 : GoodIn wsX5_init (wsX2_init) := ggX5_init_X2_init
theorem dX5_init_0 : decode cX5_init 0 = .ok (.aload_n 0, 1) := by decide +kernel
theorem dX5_init_1 : decode cX5_init 1 = .ok (.invokespecial 3, 3) := by decide +kernel
theorem dX5_init_4 : decode cX5_init 4 = .ok (.aload_n 0, 1) := by decide +kernel
theorem dX5_init_5 : decode cX5_init 5 = .ok (.new 9, 3) := by decide +kernel
theorem dX5_init_8 : decode cX5_init 8 = .ok (.dup, 1) := by decide +kernel
theorem dX5_init_9 : decode cX5_init 9 = .ok (.invokespecial 11, 3) := by decide +kernel
theorem dX5_init_12 : decode cX5_init 12 = .ok (.putfield 12, 3) := by decide +kernel
theorem dX5_init_15 : decode cX5_init 15 = .ok (.aload_n 0, 1) := by decide +kernel
theorem dX5_init_16 : decode cX5_init 16 = .ok (.new 9, 3) := by decide +kernel
theorem dX5_init_19 : decode cX5_init 19 = .ok (.dup, 1) := by decide +kernel
theorem dX5_init_20 : decode cX5_init 20 = .ok (.invokespecial 11, 3) := by decide +kernel
theorem dX5_init_23 : decode cX5_init 23 = .ok (.putfield 16, 3) := by decide +kernel
theorem dX5_init_26 : decode cX5_init 26 = .ok (.aload_n 0, 1) := by decide +kernel
theorem dX5_init_27 : decode cX5_init 27 = .ok (.iconst 2, 1) := by decide +kernel
theorem dX5_init_28 : decode cX5_init 28 = .ok (.anewarray 9, 3) := by decide +kernel
theorem dX5_init_31 : decode cX5_init 31 = .ok (.dup, 1) := by decide +kernel
theorem dX5_init_32 : decode cX5_init 32 = .ok (.iconst 0, 1) := by decide +kernel
theorem dX5_init_33 : decode cX5_init 33 = .ok (.new 9, 3) := by decide +kernel
theorem dX5_init_36 : decode cX5_init 36 = .ok (.dup, 1) := by decide +kernel
theorem dX5_init_37 : decode cX5_init 37 = .ok (.invokespecial 11, 3) := by decide +kernel
theorem dX5_init_40 : decode cX5_init 40 = .ok (.aastore, 1) := by decide +kernel
theorem dX5_init_41 : decode cX5_init 41 = .ok (.dup, 1) := by decide +kernel
theorem dX5_init_42 : decode cX5_init 42 = .ok (.iconst 1, 1) := by decide +kernel
theorem dX5_init_43 : decode cX5_init 43 = .ok (.new 9, 3) := by decide +kernel
theorem dX5_init_46 : decode cX5_init 46 = .ok (.dup, 1) := by decide +kernel
theorem dX5_init_47 : decode cX5_init 47 = .ok (.invokespecial 11, 3) := by decide +kernel
theorem dX5_init_50 : decode cX5_init 50 = .ok (.aastore, 1) := by decide +kernel
theorem dX5_init_51 : decode cX5_init 51 = .ok (.putfield 19, 3) := by decide +kernel
theorem dX5_init_54 : decode cX5_init 54 = .ok (.aload_n 0, 1) := by decide +kernel
theorem dX5_init_55 : decode cX5_init 55 = .ok (.iconst 2, 1) := by decide +kernel
theorem dX5_init_56 : decode cX5_init 56 = .ok (.newarray .boolean, 2) := by decide +kernel
theorem dX5_init_58 : decode cX5_init 58 = .ok (.putfield 23, 3) := by decide +kernel
theorem dX5_init_61 : decode cX5_init 61 = .ok (.aload_n 0, 1) := by decide +kernel
theorem dX5_init_62 : decode cX5_init 62 = .ok (.new 27, 3) := by decide +kernel
theorem dX5_init_65 : decode cX5_init 65 = .ok (.dup, 1) := by decide +kernel
theorem dX5_init_66 : decode cX5_init 66 = .ok (.invokespecial 29, 3) := by decide +kernel
theorem dX5_init_69 : decode cX5_init 69 = .ok (.putfield 30, 3) := by decide +kernel
theorem dX5_init_72 : decode cX5_init 72 = .ok (.aload_n 0, 1) := by decide +kernel
theorem dX5_init_73 : decode cX5_init 73 = .ok (.new 34, 3) := by decide +kernel
theorem dX5_init_76 : decode cX5_init 76 = .ok (.dup, 1) := by decide +kernel
theorem dX5_init_77 : decode cX5_init 77 = .ok (.invokespecial 36, 3) := by decide +kernel
theorem dX5_init_80 : decode cX5_init 80 = .ok (.putfield 37, 3) := by decide +kernel
theorem dX5_init_83 : decode cX5_init 83 = .ok (.aload_n 0, 1) := by decide +kernel
theorem dX5_init_84 : decode cX5_init 84 = .ok (.new 41, 3) := by decide +kernel
theorem dX5_init_87 : decode cX5_init 87 = .ok (.dup, 1) := by decide +kernel
theorem dX5_init_88 : decode cX5_init 88 = .ok (.invokespecial 43, 3) := by decide +kernel
theorem dX5_init_91 : decode cX5_init 91 = .ok (.putfield 44, 3) := by decide +kernel
theorem dX5_init_94 : decode cX5_init 94 = .ok (.aload_n 0, 1) := by decide +kernel
theorem dX5_init_95 : decode cX5_init 95 = .ok (.new 48, 3) := by decide +kernel
theorem dX5_init_98 : decode cX5_init 98 = .ok (.dup, 1) := by decide +kernel
theorem dX5_init_99 : decode cX5_init 99 = .ok (.invokespecial 50, 3) := by decide +kernel
theorem dX5_init_102 : decode cX5_init 102 = .ok (.putfield 51, 3) := by decide +kernel
theorem dX5_init_105 : decode cX5_init 105 = .ok (.return_, 1) := by decide +kernel
set_option maxRecDepth 20000 in
theorem ggX5_posts_X5_within : GoodIn wsX5_posts wsX5_within := goodIn_r _ [6] (by decide +kernel) (by decide +kernel)
set_option maxRecDepth 20000 in
theorem gX5_posts_X5_within : GoodIn wsX5_posts (va_wsS RX5 55 yX5_within wsX5_within) := goodIn_app (goodIn_of _ (by decide +kernel)) ggX5_posts_X5_within
set_option maxRecDepth 20000 in
theorem ggX5_posts_X5_bad : GoodIn wsX5_posts wsX5_bad := goodIn_r _ [10, 11, 28, 29, 30, 31, 32, 33, 34, 35, 36, 37, 38] (by decide +kernel) (by decide +kernel)
set_option maxRecDepth 20000 in
theorem gX5_posts_X5_bad : GoodIn wsX5_posts (wsV RX5 59 RX5 yX5_bad wsX5_bad) := goodIn_app (goodIn_of _ (by decide +kernel)) ggX5_posts_X5_bad
set_option maxRecDepth 20000 in
theorem ggX5_posts_X0_startOver : GoodIn wsX5_posts wsX0_startOver := goodIn_r _ [16, 17, 18, 19, 20, 21, 22, 23, 24, 15, 25, 26, 27, 39, 40, 41, 42, 43, 44, 45, 46, 47, 48, 49, 50] (by decide +kernel) (by decide +kernel)
set_option maxRecDepth 20000 in
theorem gX5_posts_X0_startOver : GoodIn wsX5_posts (wsV RX5 67 RX0 yX0_startOver wsX0_startOver) := goodIn_app (goodIn_of _ (by decide +kernel)) ggX5_posts_X0_startOver
theorem dX5_posts_0 : decode cX5_posts 0 = .ok (.iload_n 1, 1) := by decide +kernel
theorem dX5_posts_1 : decode cX5_posts 1 = .ok (.iconst 2, 1) := by decide +kernel
theorem dX5_posts_2 : decode cX5_posts 2 = .ok (.bipush 9, 2) := by decide +kernel
theorem dX5_posts_4 : decode cX5_posts 4 = .ok (.invokestatic 55, 3) := by decide +kernel
theorem dX5_posts_7 : decode cX5_posts 7 = .ok (.ifCond .ne 10, 3) := by decide +kernel
theorem dX5_posts_10 : decode cX5_posts 10 = .ok (.aload_n 0, 1) := by decide +kernel
theorem dX5_posts_11 : decode cX5_posts 11 = .ok (.bipush (-2), 2) := by decide +kernel
theorem dX5_posts_13 : decode cX5_posts 13 = .ok (.invokevirtual 59, 3) := by decide +kernel
theorem dX5_posts_16 : decode cX5_posts 16 = .ok (.ireturn, 1) := by decide +kernel
theorem dX5_posts_17 : decode cX5_posts 17 = .ok (.aload_n 0, 1) := by decide +kernel
theorem dX5_posts_18 : decode cX5_posts 18 = .ok (.getfield 12, 3) := by decide +kernel
theorem dX5_posts_21 : decode cX5_posts 21 = .ok (.getfield 63, 3) := by decide +kernel
theorem dX5_posts_24 : decode cX5_posts 24 = .ok (.istore_n 2, 1) := by decide +kernel
theorem dX5_posts_25 : decode cX5_posts 25 = .ok (.aload_n 0, 1) := by decide +kernel
theorem dX5_posts_26 : decode cX5_posts 26 = .ok (.getfield 12, 3) := by decide +kernel
theorem dX5_posts_29 : decode cX5_posts 29 = .ok (.iload_n 1, 1) := by decide +kernel
theorem dX5_posts_30 : decode cX5_posts 30 = .ok (.invokevirtual 67, 3) := by decide +kernel
theorem dX5_posts_33 : decode cX5_posts 33 = .ok (.iload_n 2, 1) := by decide +kernel
theorem dX5_posts_34 : decode cX5_posts 34 = .ok (.ireturn, 1) := by decide +kernel
set_option maxRecDepth 20000 in
theorem ggX5_wire_X0_isWire : GoodIn wsX5_wire wsX0_isWire := goodIn_r _ [8, 9, 10, 11, 7, 12, 13, 14, 15, 16, 40, 41, 42, 43, 44, 45, 46, 47, 48, 49, 50, 51] (by decide +kernel) (by decide +kernel)
set_option maxRecDepth 20000 in
theorem gX5_wire_X0_isWire : GoodIn wsX5_wire (wsV RX5 71 RX0 yX0_isWire wsX0_isWire) := goodIn_app (goodIn_of _ (by decide +kernel)) ggX5_wire_X0_isWire
set_option maxRecDepth 20000 in
theorem ggX5_wire_X5_inRow : GoodIn wsX5_wire wsX5_inRow := goodIn_r _ [16] (by decide +kernel) (by decide +kernel)
set_option maxRecDepth 20000 in
theorem gX5_wire_X5_inRow : GoodIn wsX5_wire (va_wsS RX5 75 yX5_inRow wsX5_inRow) := goodIn_app (goodIn_of _ (by decide +kernel)) ggX5_wire_X5_inRow
set_option maxRecDepth 20000 in
theorem ggX5_wire_X5_bad : GoodIn wsX5_wire wsX5_bad := goodIn_r _ [21, 22, 29, 30, 31, 32, 33, 34, 35, 36, 37, 38, 39] (by decide +kernel) (by decide +kernel)
set_option maxRecDepth 20000 in
theorem gX5_wire_X5_bad : GoodIn wsX5_wire (wsV RX5 59 RX5 yX5_bad wsX5_bad) := goodIn_app (goodIn_of _ (by decide +kernel)) ggX5_wire_X5_bad
set_option maxRecDepth 20000 in
theorem ggX5_wire_X0_stringWire : GoodIn wsX5_wire wsX0_stringWire := goodIn_r _ [26, 27, 28, 40, 41, 42, 43, 44, 45, 46, 47, 48, 49, 50, 51] (by decide +kernel) (by decide +kernel)
set_option maxRecDepth 20000 in
theorem gX5_wire_X0_stringWire : GoodIn wsX5_wire (wsV RX5 86 RX0 yX0_stringWire wsX0_stringWire) := goodIn_app (goodIn_of _ (by decide +kernel)) ggX5_wire_X0_stringWire
theorem dX5_wire_0 : decode cX5_wire 0 = .ok (.aload_n 0, 1) := by decide +kernel
theorem dX5_wire_1 : decode cX5_wire 1 = .ok (.getfield 12, 3) := by decide +kernel
theorem dX5_wire_4 : decode cX5_wire 4 = .ok (.iload_n 1, 1) := by decide +kernel
theorem dX5_wire_5 : decode cX5_wire 5 = .ok (.invokevirtual 71, 3) := by decide +kernel
theorem dX5_wire_8 : decode cX5_wire 8 = .ok (.ifCond .eq 20, 3) := by decide +kernel
theorem dX5_wire_11 : decode cX5_wire 11 = .ok (.iload_n 2, 1) := by decide +kernel
theorem dX5_wire_12 : decode cX5_wire 12 = .ok (.iconst 5, 1) := by decide +kernel
theorem dX5_wire_13 : decode cX5_wire 13 = .ok (.invokestatic 75, 3) := by decide +kernel
theorem dX5_wire_16 : decode cX5_wire 16 = .ok (.ifCond .eq 12, 3) := by decide +kernel
theorem dX5_wire_19 : decode cX5_wire 19 = .ok (.iload_n 3, 1) := by decide +kernel
theorem dX5_wire_20 : decode cX5_wire 20 = .ok (.bipush 12, 2) := by decide +kernel
theorem dX5_wire_22 : decode cX5_wire 22 = .ok (.invokestatic 75, 3) := by decide +kernel
theorem dX5_wire_25 : decode cX5_wire 25 = .ok (.ifCond .ne 10, 3) := by decide +kernel
theorem dX5_wire_28 : decode cX5_wire 28 = .ok (.aload_n 0, 1) := by decide +kernel
theorem dX5_wire_29 : decode cX5_wire 29 = .ok (.bipush (-2), 2) := by decide +kernel
theorem dX5_wire_31 : decode cX5_wire 31 = .ok (.invokevirtual 59, 3) := by decide +kernel
theorem dX5_wire_34 : decode cX5_wire 34 = .ok (.ireturn, 1) := by decide +kernel
theorem dX5_wire_35 : decode cX5_wire 35 = .ok (.bipush 12, 2) := by decide +kernel
theorem dX5_wire_37 : decode cX5_wire 37 = .ok (.aload_n 0, 1) := by decide +kernel
theorem dX5_wire_38 : decode cX5_wire 38 = .ok (.getfield 12, 3) := by decide +kernel
theorem dX5_wire_41 : decode cX5_wire 41 = .ok (.getfield 79, 3) := by decide +kernel
theorem dX5_wire_44 : decode cX5_wire 44 = .ok (.iload_n 1, 1) := by decide +kernel
theorem dX5_wire_45 : decode cX5_wire 45 = .ok (.iaload, 1) := by decide +kernel
theorem dX5_wire_46 : decode cX5_wire 46 = .ok (.imul, 1) := by decide +kernel
theorem dX5_wire_47 : decode cX5_wire 47 = .ok (.aload_n 0, 1) := by decide +kernel
theorem dX5_wire_48 : decode cX5_wire 48 = .ok (.getfield 12, 3) := by decide +kernel
theorem dX5_wire_51 : decode cX5_wire 51 = .ok (.getfield 83, 3) := by decide +kernel
theorem dX5_wire_54 : decode cX5_wire 54 = .ok (.iload_n 1, 1) := by decide +kernel
theorem dX5_wire_55 : decode cX5_wire 55 = .ok (.iaload, 1) := by decide +kernel
theorem dX5_wire_56 : decode cX5_wire 56 = .ok (.iadd, 1) := by decide +kernel
theorem dX5_wire_57 : decode cX5_wire 57 = .ok (.istore 4, 2) := by decide +kernel
theorem dX5_wire_59 : decode cX5_wire 59 = .ok (.aload_n 0, 1) := by decide +kernel
theorem dX5_wire_60 : decode cX5_wire 60 = .ok (.getfield 12, 3) := by decide +kernel
theorem dX5_wire_63 : decode cX5_wire 63 = .ok (.iload_n 1, 1) := by decide +kernel
theorem dX5_wire_64 : decode cX5_wire 64 = .ok (.iload_n 2, 1) := by decide +kernel
theorem dX5_wire_65 : decode cX5_wire 65 = .ok (.iload_n 3, 1) := by decide +kernel
theorem dX5_wire_66 : decode cX5_wire 66 = .ok (.invokevirtual 86, 3) := by decide +kernel
theorem dX5_wire_69 : decode cX5_wire 69 = .ok (.iload 4, 2) := by decide +kernel
theorem dX5_wire_71 : decode cX5_wire 71 = .ok (.ireturn, 1) := by decide +kernel
set_option maxRecDepth 20000 in
theorem ggX5_frost_X5_within : GoodIn wsX5_frost wsX5_within := goodIn_r _ [6] (by decide +kernel) (by decide +kernel)
set_option maxRecDepth 20000 in
theorem gX5_frost_X5_within : GoodIn wsX5_frost (va_wsS RX5 55 yX5_within wsX5_within) := goodIn_app (goodIn_of _ (by decide +kernel)) ggX5_frost_X5_within
set_option maxRecDepth 20000 in
theorem ggX5_frost_X5_bad : GoodIn wsX5_frost wsX5_bad := goodIn_r _ [10, 11, 12, 13, 14, 15, 16, 17, 18, 19, 20, 21, 22] (by decide +kernel) (by decide +kernel)
set_option maxRecDepth 20000 in
theorem gX5_frost_X5_bad : GoodIn wsX5_frost (wsV RX5 59 RX5 yX5_bad wsX5_bad) := goodIn_app (goodIn_of _ (by decide +kernel)) ggX5_frost_X5_bad
theorem dX5_frost_0 : decode cX5_frost 0 = .ok (.iload_n 1, 1) := by decide +kernel
theorem dX5_frost_1 : decode cX5_frost 1 = .ok (.iconst 0, 1) := by decide +kernel
theorem dX5_frost_2 : decode cX5_frost 2 = .ok (.iconst 5, 1) := by decide +kernel
theorem dX5_frost_3 : decode cX5_frost 3 = .ok (.invokestatic 55, 3) := by decide +kernel
theorem dX5_frost_6 : decode cX5_frost 6 = .ok (.ifCond .ne 10, 3) := by decide +kernel
theorem dX5_frost_9 : decode cX5_frost 9 = .ok (.aload_n 0, 1) := by decide +kernel
theorem dX5_frost_10 : decode cX5_frost 10 = .ok (.bipush (-2), 2) := by decide +kernel
theorem dX5_frost_12 : decode cX5_frost 12 = .ok (.invokevirtual 59, 3) := by decide +kernel
theorem dX5_frost_15 : decode cX5_frost 15 = .ok (.ireturn, 1) := by decide +kernel
theorem dX5_frost_16 : decode cX5_frost 16 = .ok (.aload_n 0, 1) := by decide +kernel
theorem dX5_frost_17 : decode cX5_frost 17 = .ok (.getfield 12, 3) := by decide +kernel
theorem dX5_frost_20 : decode cX5_frost 20 = .ok (.getfield 90, 3) := by decide +kernel
theorem dX5_frost_23 : decode cX5_frost 23 = .ok (.istore_n 2, 1) := by decide +kernel
theorem dX5_frost_24 : decode cX5_frost 24 = .ok (.aload_n 0, 1) := by decide +kernel
theorem dX5_frost_25 : decode cX5_frost 25 = .ok (.getfield 12, 3) := by decide +kernel
theorem dX5_frost_28 : decode cX5_frost 28 = .ok (.iload_n 1, 1) := by decide +kernel
theorem dX5_frost_29 : decode cX5_frost 29 = .ok (.putfield 90, 3) := by decide +kernel
theorem dX5_frost_32 : decode cX5_frost 32 = .ok (.iload_n 2, 1) := by decide +kernel
theorem dX5_frost_33 : decode cX5_frost 33 = .ok (.ireturn, 1) := by decide +kernel
set_option maxRecDepth 20000 in
theorem ggX5_guard_X0_isPost : GoodIn wsX5_guard wsX0_isPost := goodIn_r _ [7, 8, 9, 10, 11, 40, 41, 42, 43, 44, 45, 46, 47, 48, 49, 50, 51] (by decide +kernel) (by decide +kernel)
set_option maxRecDepth 20000 in
theorem gX5_guard_X0_isPost : GoodIn wsX5_guard (wsV RX5 93 RX0 yX0_isPost wsX0_isPost) := goodIn_app (goodIn_of _ (by decide +kernel)) ggX5_guard_X0_isPost
set_option maxRecDepth 20000 in
theorem ggX5_guard_X5_bad : GoodIn wsX5_guard wsX5_bad := goodIn_r _ [15, 16, 29, 30, 31, 32, 33, 34, 35, 36, 37, 38, 39] (by decide +kernel) (by decide +kernel)
set_option maxRecDepth 20000 in
theorem gX5_guard_X5_bad : GoodIn wsX5_guard (wsV RX5 59 RX5 yX5_bad wsX5_bad) := goodIn_app (goodIn_of _ (by decide +kernel)) ggX5_guard_X5_bad
set_option maxRecDepth 20000 in
theorem ggX5_guard_X0_hasGuard : GoodIn wsX5_guard wsX0_hasGuard := goodIn_r _ [20, 21, 22, 10, 23, 40, 41, 42, 43, 44, 45, 46, 47, 48, 49, 50, 51] (by decide +kernel) (by decide +kernel)
set_option maxRecDepth 20000 in
theorem gX5_guard_X0_hasGuard : GoodIn wsX5_guard (wsV RX5 96 RX0 yX0_hasGuard wsX0_hasGuard) := goodIn_app (goodIn_of _ (by decide +kernel)) ggX5_guard_X0_hasGuard
set_option maxRecDepth 20000 in
theorem ggX5_guard_X5_no : GoodIn wsX5_guard wsX5_no := goodIn_r _ [27, 28, 29, 30, 31, 32, 33, 34, 35, 36, 37, 38, 39] (by decide +kernel) (by decide +kernel)
set_option maxRecDepth 20000 in
theorem gX5_guard_X5_no : GoodIn wsX5_guard (wsV RX5 99 RX5 yX5_no wsX5_no) := goodIn_app (goodIn_of _ (by decide +kernel)) ggX5_guard_X5_no
theorem dX5_guard_0 : decode cX5_guard 0 = .ok (.aload_n 0, 1) := by decide +kernel
theorem dX5_guard_1 : decode cX5_guard 1 = .ok (.getfield 12, 3) := by decide +kernel
theorem dX5_guard_4 : decode cX5_guard 4 = .ok (.iload_n 1, 1) := by decide +kernel
theorem dX5_guard_5 : decode cX5_guard 5 = .ok (.invokevirtual 93, 3) := by decide +kernel
theorem dX5_guard_8 : decode cX5_guard 8 = .ok (.ifCond .ne 10, 3) := by decide +kernel
theorem dX5_guard_11 : decode cX5_guard 11 = .ok (.aload_n 0, 1) := by decide +kernel
theorem dX5_guard_12 : decode cX5_guard 12 = .ok (.bipush (-2), 2) := by decide +kernel
theorem dX5_guard_14 : decode cX5_guard 14 = .ok (.invokevirtual 59, 3) := by decide +kernel
theorem dX5_guard_17 : decode cX5_guard 17 = .ok (.ireturn, 1) := by decide +kernel
theorem dX5_guard_18 : decode cX5_guard 18 = .ok (.aload_n 0, 1) := by decide +kernel
theorem dX5_guard_19 : decode cX5_guard 19 = .ok (.getfield 12, 3) := by decide +kernel
theorem dX5_guard_22 : decode cX5_guard 22 = .ok (.iload_n 1, 1) := by decide +kernel
theorem dX5_guard_23 : decode cX5_guard 23 = .ok (.invokevirtual 96, 3) := by decide +kernel
theorem dX5_guard_26 : decode cX5_guard 26 = .ok (.iload_n 2, 1) := by decide +kernel
theorem dX5_guard_27 : decode cX5_guard 27 = .ok (.if_icmp .ne 8, 3) := by decide +kernel
theorem dX5_guard_30 : decode cX5_guard 30 = .ok (.aload_n 0, 1) := by decide +kernel
theorem dX5_guard_31 : decode cX5_guard 31 = .ok (.invokevirtual 99, 3) := by decide +kernel
theorem dX5_guard_34 : decode cX5_guard 34 = .ok (.ireturn, 1) := by decide +kernel
theorem dX5_guard_35 : decode cX5_guard 35 = .ok (.aload_n 0, 1) := by decide +kernel
theorem dX5_guard_36 : decode cX5_guard 36 = .ok (.getfield 12, 3) := by decide +kernel
theorem dX5_guard_39 : decode cX5_guard 39 = .ok (.dup, 1) := by decide +kernel
theorem dX5_guard_40 : decode cX5_guard 40 = .ok (.getfield 103, 3) := by decide +kernel
theorem dX5_guard_43 : decode cX5_guard 43 = .ok (.iconst 1, 1) := by decide +kernel
theorem dX5_guard_44 : decode cX5_guard 44 = .ok (.iload_n 1, 1) := by decide +kernel
theorem dX5_guard_45 : decode cX5_guard 45 = .ok (.ishl, 1) := by decide +kernel
theorem dX5_guard_46 : decode cX5_guard 46 = .ok (.ixor, 1) := by decide +kernel
theorem dX5_guard_47 : decode cX5_guard 47 = .ok (.putfield 103, 3) := by decide +kernel
theorem dX5_guard_50 : decode cX5_guard 50 = .ok (.iconst 1, 1) := by decide +kernel
theorem dX5_guard_51 : decode cX5_guard 51 = .ok (.ireturn, 1) := by decide +kernel
set_option maxRecDepth 20000 in
theorem ggX5_wind_X5_inRow : GoodIn wsX5_wind wsX5_inRow := goodIn_r _ [6] (by decide +kernel) (by decide +kernel)
set_option maxRecDepth 20000 in
theorem gX5_wind_X5_inRow : GoodIn wsX5_wind (va_wsS RX5 75 yX5_inRow wsX5_inRow) := goodIn_app (goodIn_of _ (by decide +kernel)) ggX5_wind_X5_inRow
set_option maxRecDepth 20000 in
theorem ggX5_wind_X0_isWire : GoodIn wsX5_wind wsX0_isWire := goodIn_r _ [11, 12, 13, 14, 10, 15, 16, 4, 5, 6, 45, 46, 47, 48, 49, 50, 51, 52, 53, 54, 55, 56] (by decide +kernel) (by decide +kernel)
set_option maxRecDepth 20000 in
theorem gX5_wind_X0_isWire : GoodIn wsX5_wind (wsV RX5 71 RX0 yX0_isWire wsX0_isWire) := goodIn_app (goodIn_of _ (by decide +kernel)) ggX5_wind_X0_isWire
set_option maxRecDepth 20000 in
theorem ggX5_wind_X5_bad : GoodIn wsX5_wind wsX5_bad := goodIn_r _ [20, 21, 34, 35, 36, 37, 38, 39, 40, 41, 42, 43, 44] (by decide +kernel) (by decide +kernel)
set_option maxRecDepth 20000 in
theorem gX5_wind_X5_bad : GoodIn wsX5_wind (wsV RX5 59 RX5 yX5_bad wsX5_bad) := goodIn_app (goodIn_of _ (by decide +kernel)) ggX5_wind_X5_bad
set_option maxRecDepth 20000 in
theorem ggX5_wind_X5_full : GoodIn wsX5_wind wsX5_full := goodIn_r _ [25, 26, 34, 35, 36, 37, 38, 39, 40, 41, 42, 43, 44] (by decide +kernel) (by decide +kernel)
set_option maxRecDepth 20000 in
theorem gX5_wind_X5_full : GoodIn wsX5_wind (wsV RX5 109 RX5 yX5_full wsX5_full) := goodIn_app (goodIn_of _ (by decide +kernel)) ggX5_wind_X5_full
set_option maxRecDepth 20000 in
theorem ggX5_wind_X0_addWind : GoodIn wsX5_wind wsX0_addWind := goodIn_r _ [30, 31, 32, 33, 45, 46, 47, 48, 49, 50, 51, 52, 53, 54, 55, 56] (by decide +kernel) (by decide +kernel)
set_option maxRecDepth 20000 in
theorem gX5_wind_X0_addWind : GoodIn wsX5_wind (wsV RX5 112 RX0 yX0_addWind wsX0_addWind) := goodIn_app (goodIn_of _ (by decide +kernel)) ggX5_wind_X0_addWind
theorem dX5_wind_0 : decode cX5_wind 0 = .ok (.iload_n 1, 1) := by decide +kernel
theorem dX5_wind_1 : decode cX5_wind 1 = .ok (.bipush 60, 2) := by decide +kernel
theorem dX5_wind_3 : decode cX5_wind 3 = .ok (.invokestatic 75, 3) := by decide +kernel
theorem dX5_wind_6 : decode cX5_wind 6 = .ok (.ifCond .eq 14, 3) := by decide +kernel
theorem dX5_wind_9 : decode cX5_wind 9 = .ok (.aload_n 0, 1) := by decide +kernel
theorem dX5_wind_10 : decode cX5_wind 10 = .ok (.getfield 12, 3) := by decide +kernel
theorem dX5_wind_13 : decode cX5_wind 13 = .ok (.iload_n 2, 1) := by decide +kernel
theorem dX5_wind_14 : decode cX5_wind 14 = .ok (.invokevirtual 71, 3) := by decide +kernel
theorem dX5_wind_17 : decode cX5_wind 17 = .ok (.ifCond .ne 10, 3) := by decide +kernel
theorem dX5_wind_20 : decode cX5_wind 20 = .ok (.aload_n 0, 1) := by decide +kernel
theorem dX5_wind_21 : decode cX5_wind 21 = .ok (.bipush (-2), 2) := by decide +kernel
theorem dX5_wind_23 : decode cX5_wind 23 = .ok (.invokevirtual 59, 3) := by decide +kernel
theorem dX5_wind_26 : decode cX5_wind 26 = .ok (.ireturn, 1) := by decide +kernel
theorem dX5_wind_27 : decode cX5_wind 27 = .ok (.aload_n 0, 1) := by decide +kernel
theorem dX5_wind_28 : decode cX5_wind 28 = .ok (.getfield 12, 3) := by decide +kernel
theorem dX5_wind_31 : decode cX5_wind 31 = .ok (.getfield 106, 3) := by decide +kernel
theorem dX5_wind_34 : decode cX5_wind 34 = .ok (.bipush 6, 2) := by decide +kernel
theorem dX5_wind_36 : decode cX5_wind 36 = .ok (.if_icmp .lt 8, 3) := by decide +kernel
theorem dX5_wind_39 : decode cX5_wind 39 = .ok (.aload_n 0, 1) := by decide +kernel
theorem dX5_wind_40 : decode cX5_wind 40 = .ok (.invokevirtual 109, 3) := by decide +kernel
theorem dX5_wind_43 : decode cX5_wind 43 = .ok (.ireturn, 1) := by decide +kernel
theorem dX5_wind_44 : decode cX5_wind 44 = .ok (.aload_n 0, 1) := by decide +kernel
theorem dX5_wind_45 : decode cX5_wind 45 = .ok (.getfield 12, 3) := by decide +kernel
theorem dX5_wind_48 : decode cX5_wind 48 = .ok (.iload_n 1, 1) := by decide +kernel
theorem dX5_wind_49 : decode cX5_wind 49 = .ok (.iload_n 2, 1) := by decide +kernel
theorem dX5_wind_50 : decode cX5_wind 50 = .ok (.invokevirtual 112, 3) := by decide +kernel
theorem dX5_wind_53 : decode cX5_wind 53 = .ok (.aload_n 0, 1) := by decide +kernel
theorem dX5_wind_54 : decode cX5_wind 54 = .ok (.getfield 12, 3) := by decide +kernel
theorem dX5_wind_57 : decode cX5_wind 57 = .ok (.getfield 106, 3) := by decide +kernel
theorem dX5_wind_60 : decode cX5_wind 60 = .ok (.iconst 1, 1) := by decide +kernel
theorem dX5_wind_61 : decode cX5_wind 61 = .ok (.isub, 1) := by decide +kernel
theorem dX5_wind_62 : decode cX5_wind 62 = .ok (.ireturn, 1) := by decide +kernel
theorem dX5_calm_0 : decode cX5_calm 0 = .ok (.aload_n 0, 1) := by decide +kernel
theorem dX5_calm_1 : decode cX5_calm 1 = .ok (.getfield 12, 3) := by decide +kernel
theorem dX5_calm_4 : decode cX5_calm 4 = .ok (.getfield 106, 3) := by decide +kernel
theorem dX5_calm_7 : decode cX5_calm 7 = .ok (.istore_n 1, 1) := by decide +kernel
theorem dX5_calm_8 : decode cX5_calm 8 = .ok (.aload_n 0, 1) := by decide +kernel
theorem dX5_calm_9 : decode cX5_calm 9 = .ok (.getfield 12, 3) := by decide +kernel
theorem dX5_calm_12 : decode cX5_calm 12 = .ok (.iconst 0, 1) := by decide +kernel
theorem dX5_calm_13 : decode cX5_calm 13 = .ok (.putfield 106, 3) := by decide +kernel
theorem dX5_calm_16 : decode cX5_calm 16 = .ok (.iload_n 1, 1) := by decide +kernel
theorem dX5_calm_17 : decode cX5_calm 17 = .ok (.ireturn, 1) := by decide +kernel
set_option maxRecDepth 20000 in
theorem ggX5_pass_X5_inRow : GoodIn wsX5_pass wsX5_inRow := goodIn_r _ [6] (by decide +kernel) (by decide +kernel)
set_option maxRecDepth 20000 in
theorem gX5_pass_X5_inRow : GoodIn wsX5_pass (va_wsS RX5 75 yX5_inRow wsX5_inRow) := goodIn_app (goodIn_of _ (by decide +kernel)) ggX5_pass_X5_inRow
set_option maxRecDepth 20000 in
theorem ggX5_pass_X0_isWire : GoodIn wsX5_pass wsX0_isWire := goodIn_r _ [11, 12, 13, 14, 10, 15, 16, 4, 5, 6, 46, 47, 48, 49, 50, 51, 52, 53, 54, 55, 56, 57] (by decide +kernel) (by decide +kernel)
set_option maxRecDepth 20000 in
theorem gX5_pass_X0_isWire : GoodIn wsX5_pass (wsV RX5 71 RX0 yX0_isWire wsX0_isWire) := goodIn_app (goodIn_of _ (by decide +kernel)) ggX5_pass_X0_isWire
set_option maxRecDepth 20000 in
theorem ggX5_pass_X5_bad : GoodIn wsX5_pass wsX5_bad := goodIn_r _ [20, 21, 35, 36, 37, 38, 39, 40, 41, 42, 43, 44, 45] (by decide +kernel) (by decide +kernel)
set_option maxRecDepth 20000 in
theorem gX5_pass_X5_bad : GoodIn wsX5_pass (wsV RX5 59 RX5 yX5_bad wsX5_bad) := goodIn_app (goodIn_of _ (by decide +kernel)) ggX5_pass_X5_bad
set_option maxRecDepth 20000 in
theorem ggX5_pass_X5_full : GoodIn wsX5_pass wsX5_full := goodIn_r _ [25, 26, 35, 36, 37, 38, 39, 40, 41, 42, 43, 44, 45] (by decide +kernel) (by decide +kernel)
set_option maxRecDepth 20000 in
theorem gX5_pass_X5_full : GoodIn wsX5_pass (wsV RX5 109 RX5 yX5_full wsX5_full) := goodIn_app (goodIn_of _ (by decide +kernel)) ggX5_pass_X5_full
set_option maxRecDepth 20000 in
theorem ggX5_pass_X0_addPass : GoodIn wsX5_pass wsX0_addPass := goodIn_r _ [30, 31, 32, 33, 34, 46, 47, 48, 49, 50, 51, 52, 53, 54, 55, 56, 57] (by decide +kernel) (by decide +kernel)
set_option maxRecDepth 20000 in
theorem gX5_pass_X0_addPass : GoodIn wsX5_pass (wsV RX5 119 RX0 yX0_addPass wsX0_addPass) := goodIn_app (goodIn_of _ (by decide +kernel)) ggX5_pass_X0_addPass
theorem dX5_pass_0 : decode cX5_pass 0 = .ok (.iload_n 1, 1) := by decide +kernel
theorem dX5_pass_1 : decode cX5_pass 1 = .ok (.bipush 60, 2) := by decide +kernel
theorem dX5_pass_3 : decode cX5_pass 3 = .ok (.invokestatic 75, 3) := by decide +kernel
theorem dX5_pass_6 : decode cX5_pass 6 = .ok (.ifCond .eq 22, 3) := by decide +kernel
theorem dX5_pass_9 : decode cX5_pass 9 = .ok (.aload_n 0, 1) := by decide +kernel
theorem dX5_pass_10 : decode cX5_pass 10 = .ok (.getfield 12, 3) := by decide +kernel
theorem dX5_pass_13 : decode cX5_pass 13 = .ok (.iload_n 2, 1) := by decide +kernel
theorem dX5_pass_14 : decode cX5_pass 14 = .ok (.invokevirtual 71, 3) := by decide +kernel
theorem dX5_pass_17 : decode cX5_pass 17 = .ok (.ifCond .eq 11, 3) := by decide +kernel
theorem dX5_pass_20 : decode cX5_pass 20 = .ok (.iload_n 3, 1) := by decide +kernel
theorem dX5_pass_21 : decode cX5_pass 21 = .ok (.iconst 4, 1) := by decide +kernel
theorem dX5_pass_22 : decode cX5_pass 22 = .ok (.invokestatic 75, 3) := by decide +kernel
theorem dX5_pass_25 : decode cX5_pass 25 = .ok (.ifCond .ne 10, 3) := by decide +kernel
theorem dX5_pass_28 : decode cX5_pass 28 = .ok (.aload_n 0, 1) := by decide +kernel
theorem dX5_pass_29 : decode cX5_pass 29 = .ok (.bipush (-2), 2) := by decide +kernel
theorem dX5_pass_31 : decode cX5_pass 31 = .ok (.invokevirtual 59, 3) := by decide +kernel
theorem dX5_pass_34 : decode cX5_pass 34 = .ok (.ireturn, 1) := by decide +kernel
theorem dX5_pass_35 : decode cX5_pass 35 = .ok (.aload_n 0, 1) := by decide +kernel
theorem dX5_pass_36 : decode cX5_pass 36 = .ok (.getfield 12, 3) := by decide +kernel
theorem dX5_pass_39 : decode cX5_pass 39 = .ok (.getfield 116, 3) := by decide +kernel
theorem dX5_pass_42 : decode cX5_pass 42 = .ok (.bipush 8, 2) := by decide +kernel
theorem dX5_pass_44 : decode cX5_pass 44 = .ok (.if_icmp .lt 8, 3) := by decide +kernel
theorem dX5_pass_47 : decode cX5_pass 47 = .ok (.aload_n 0, 1) := by decide +kernel
theorem dX5_pass_48 : decode cX5_pass 48 = .ok (.invokevirtual 109, 3) := by decide +kernel
theorem dX5_pass_51 : decode cX5_pass 51 = .ok (.ireturn, 1) := by decide +kernel
theorem dX5_pass_52 : decode cX5_pass 52 = .ok (.aload_n 0, 1) := by decide +kernel
theorem dX5_pass_53 : decode cX5_pass 53 = .ok (.getfield 12, 3) := by decide +kernel
theorem dX5_pass_56 : decode cX5_pass 56 = .ok (.iload_n 1, 1) := by decide +kernel
theorem dX5_pass_57 : decode cX5_pass 57 = .ok (.iload_n 2, 1) := by decide +kernel
theorem dX5_pass_58 : decode cX5_pass 58 = .ok (.iload_n 3, 1) := by decide +kernel
theorem dX5_pass_59 : decode cX5_pass 59 = .ok (.invokevirtual 119, 3) := by decide +kernel
theorem dX5_pass_62 : decode cX5_pass 62 = .ok (.aload_n 0, 1) := by decide +kernel
theorem dX5_pass_63 : decode cX5_pass 63 = .ok (.getfield 12, 3) := by decide +kernel
theorem dX5_pass_66 : decode cX5_pass 66 = .ok (.getfield 116, 3) := by decide +kernel
theorem dX5_pass_69 : decode cX5_pass 69 = .ok (.iconst 1, 1) := by decide +kernel
theorem dX5_pass_70 : decode cX5_pass 70 = .ok (.isub, 1) := by decide +kernel
theorem dX5_pass_71 : decode cX5_pass 71 = .ok (.ireturn, 1) := by decide +kernel
set_option maxRecDepth 20000 in
theorem ggX5_undo_X5_no : GoodIn wsX5_undo wsX5_no := goodIn_r _ [7, 8, 9, 10, 11, 12, 13, 14, 15, 16, 17, 18, 19] (by decide +kernel) (by decide +kernel)
set_option maxRecDepth 20000 in
theorem gX5_undo_X5_no : GoodIn wsX5_undo (wsV RX5 99 RX5 yX5_no wsX5_no) := goodIn_app (goodIn_of _ (by decide +kernel)) ggX5_undo_X5_no
theorem dX5_undo_0 : decode cX5_undo 0 = .ok (.aload_n 0, 1) := by decide +kernel
theorem dX5_undo_1 : decode cX5_undo 1 = .ok (.getfield 12, 3) := by decide +kernel
theorem dX5_undo_4 : decode cX5_undo 4 = .ok (.getfield 116, 3) := by decide +kernel
theorem dX5_undo_7 : decode cX5_undo 7 = .ok (.ifCond .gt 8, 3) := by decide +kernel
theorem dX5_undo_10 : decode cX5_undo 10 = .ok (.aload_n 0, 1) := by decide +kernel
theorem dX5_undo_11 : decode cX5_undo 11 = .ok (.invokevirtual 99, 3) := by decide +kernel
theorem dX5_undo_14 : decode cX5_undo 14 = .ok (.ireturn, 1) := by decide +kernel
theorem dX5_undo_15 : decode cX5_undo 15 = .ok (.aload_n 0, 1) := by decide +kernel
theorem dX5_undo_16 : decode cX5_undo 16 = .ok (.getfield 12, 3) := by decide +kernel
theorem dX5_undo_19 : decode cX5_undo 19 = .ok (.dup, 1) := by decide +kernel
theorem dX5_undo_20 : decode cX5_undo 20 = .ok (.getfield 116, 3) := by decide +kernel
theorem dX5_undo_23 : decode cX5_undo 23 = .ok (.iconst 1, 1) := by decide +kernel
theorem dX5_undo_24 : decode cX5_undo 24 = .ok (.isub, 1) := by decide +kernel
theorem dX5_undo_25 : decode cX5_undo 25 = .ok (.putfield 116, 3) := by decide +kernel
theorem dX5_undo_28 : decode cX5_undo 28 = .ok (.aload_n 0, 1) := by decide +kernel
theorem dX5_undo_29 : decode cX5_undo 29 = .ok (.getfield 12, 3) := by decide +kernel
theorem dX5_undo_32 : decode cX5_undo 32 = .ok (.getfield 116, 3) := by decide +kernel
theorem dX5_undo_35 : decode cX5_undo 35 = .ok (.ireturn, 1) := by decide +kernel
set_option maxRecDepth 20000 in
theorem ggX5_type_X5_within : GoodIn wsX5_type wsX5_within := goodIn_r _ [6] (by decide +kernel) (by decide +kernel)
set_option maxRecDepth 20000 in
theorem gX5_type_X5_within : GoodIn wsX5_type (va_wsS RX5 55 yX5_within wsX5_within) := goodIn_app (goodIn_of _ (by decide +kernel)) ggX5_type_X5_within
set_option maxRecDepth 20000 in
theorem ggX5_type_X5_bad : GoodIn wsX5_type wsX5_bad := goodIn_r _ [10, 11, 24, 25, 26, 27, 28, 29, 30, 31, 32, 33, 34] (by decide +kernel) (by decide +kernel)
set_option maxRecDepth 20000 in
theorem gX5_type_X5_bad : GoodIn wsX5_type (wsV RX5 59 RX5 yX5_bad wsX5_bad) := goodIn_app (goodIn_of _ (by decide +kernel)) ggX5_type_X5_bad
set_option maxRecDepth 20000 in
theorem ggX5_type_X5_full : GoodIn wsX5_type wsX5_full := goodIn_r _ [15, 16, 24, 25, 26, 27, 28, 29, 30, 31, 32, 33, 34] (by decide +kernel) (by decide +kernel)
set_option maxRecDepth 20000 in
theorem gX5_type_X5_full : GoodIn wsX5_type (wsV RX5 109 RX5 yX5_full wsX5_full) := goodIn_app (goodIn_of _ (by decide +kernel)) ggX5_type_X5_full
set_option maxRecDepth 20000 in
theorem ggX5_type_X1_append : GoodIn wsX5_type wsX1_append := goodIn_r _ [21, 22, 23, 35, 36, 37, 38, 39] (by decide +kernel) (by decide +kernel)
set_option maxRecDepth 20000 in
theorem gX5_type_X1_append : GoodIn wsX5_type (wsV RX5 125 RX1 yX1_append wsX1_append) := goodIn_app (goodIn_of _ (by decide +kernel)) ggX5_type_X1_append
theorem dX5_type_0 : decode cX5_type 0 = .ok (.iload_n 3, 1) := by decide +kernel
theorem dX5_type_1 : decode cX5_type 1 = .ok (.iconst 1, 1) := by decide +kernel
theorem dX5_type_2 : decode cX5_type 2 = .ok (.bipush 8, 2) := by decide +kernel
theorem dX5_type_4 : decode cX5_type 4 = .ok (.invokestatic 55, 3) := by decide +kernel
theorem dX5_type_7 : decode cX5_type 7 = .ok (.ifCond .ne 10, 3) := by decide +kernel
theorem dX5_type_10 : decode cX5_type 10 = .ok (.aload_n 0, 1) := by decide +kernel
theorem dX5_type_11 : decode cX5_type 11 = .ok (.bipush (-2), 2) := by decide +kernel
theorem dX5_type_13 : decode cX5_type 13 = .ok (.invokevirtual 59, 3) := by decide +kernel
theorem dX5_type_16 : decode cX5_type 16 = .ok (.ireturn, 1) := by decide +kernel
theorem dX5_type_17 : decode cX5_type 17 = .ok (.aload_n 0, 1) := by decide +kernel
theorem dX5_type_18 : decode cX5_type 18 = .ok (.getfield 30, 3) := by decide +kernel
theorem dX5_type_21 : decode cX5_type 21 = .ok (.getfield 122, 3) := by decide +kernel
theorem dX5_type_24 : decode cX5_type 24 = .ok (.iload_n 3, 1) := by decide +kernel
theorem dX5_type_25 : decode cX5_type 25 = .ok (.iadd, 1) := by decide +kernel
theorem dX5_type_26 : decode cX5_type 26 = .ok (.sipush 200, 3) := by decide +kernel
theorem dX5_type_29 : decode cX5_type 29 = .ok (.if_icmp .le 8, 3) := by decide +kernel
theorem dX5_type_32 : decode cX5_type 32 = .ok (.aload_n 0, 1) := by decide +kernel
theorem dX5_type_33 : decode cX5_type 33 = .ok (.invokevirtual 109, 3) := by decide +kernel
theorem dX5_type_36 : decode cX5_type 36 = .ok (.ireturn, 1) := by decide +kernel
theorem dX5_type_37 : decode cX5_type 37 = .ok (.aload_n 0, 1) := by decide +kernel
theorem dX5_type_38 : decode cX5_type 38 = .ok (.getfield 30, 3) := by decide +kernel
theorem dX5_type_41 : decode cX5_type 41 = .ok (.lload_n 1, 1) := by decide +kernel
theorem dX5_type_42 : decode cX5_type 42 = .ok (.iload_n 3, 1) := by decide +kernel
theorem dX5_type_43 : decode cX5_type 43 = .ok (.invokevirtual 125, 3) := by decide +kernel
theorem dX5_type_46 : decode cX5_type 46 = .ok (.aload_n 0, 1) := by decide +kernel
theorem dX5_type_47 : decode cX5_type 47 = .ok (.getfield 30, 3) := by decide +kernel
theorem dX5_type_50 : decode cX5_type 50 = .ok (.getfield 122, 3) := by decide +kernel
theorem dX5_type_53 : decode cX5_type 53 = .ok (.ireturn, 1) := by decide +kernel
theorem dX5_clear_0 : decode cX5_clear 0 = .ok (.aload_n 0, 1) := by decide +kernel
theorem dX5_clear_1 : decode cX5_clear 1 = .ok (.getfield 30, 3) := by decide +kernel
theorem dX5_clear_4 : decode cX5_clear 4 = .ok (.getfield 122, 3) := by decide +kernel
theorem dX5_clear_7 : decode cX5_clear 7 = .ok (.istore_n 1, 1) := by decide +kernel
theorem dX5_clear_8 : decode cX5_clear 8 = .ok (.aload_n 0, 1) := by decide +kernel
theorem dX5_clear_9 : decode cX5_clear 9 = .ok (.getfield 30, 3) := by decide +kernel
theorem dX5_clear_12 : decode cX5_clear 12 = .ok (.iconst 0, 1) := by decide +kernel
theorem dX5_clear_13 : decode cX5_clear 13 = .ok (.putfield 122, 3) := by decide +kernel
theorem dX5_clear_16 : decode cX5_clear 16 = .ok (.iload_n 1, 1) := by decide +kernel
theorem dX5_clear_17 : decode cX5_clear 17 = .ok (.ireturn, 1) := by decide +kernel
set_option maxRecDepth 20000 in
theorem ggX5_read_X1_readInto : GoodIn wsX5_read wsX1_readInto := goodIn_r _ [8, 9, 10, 11, 12, 13, 14, 15, 7, 16, 17, 18, 19, 20, 21, 22, 23, 24, 25, 26, 27, 28, 29, 30, 31, 32, 33, 34, 35, 36, 37, 38, 39, 40, 41, 42, 43, 44, 45, 46, 47, 48, 49, 50, 51, 52, 53, 54, 55, 56, 57, 58, 59, 60, 61, 62, 63, 64, 65, 66, 67, 68, 69, 70, 71, 72, 73, 74, 75, 76, 77, 78, 79, 80, 81, 82, 83, 84, 85, 86, 87, 88, 89, 90, 91, 92, 93, 94, 95, 96, 97, 98, 99, 100, 101, 102, 103, 104, 105, 106, 107, 108, 109, 110, 111, 112, 113, 114, 115, 116, 117, 118, 119, 120, 121, 122, 123, 124, 125, 126, 127, 128, 129, 130, 131, 132, 133, 134, 135, 136, 137, 138, 139, 140, 141, 142, 143, 144, 145, 146, 147, 148, 149, 150, 151, 152, 153, 154, 155, 156, 157, 158, 159, 160, 161, 181, 182, 183, 184, 185, 186, 187, 188, 189, 190, 191, 192, 193, 194, 195, 196, 197] (by decide +kernel) (by decide +kernel)
set_option maxRecDepth 20000 in
theorem gX5_read_X1_readInto : GoodIn wsX5_read (wsV RX5 129 RX1 yX1_readInto wsX1_readInto) := goodIn_app (goodIn_of _ (by decide +kernel)) ggX5_read_X1_readInto
set_option maxRecDepth 20000 in
theorem ggX5_read_X0_takeFrom : GoodIn wsX5_read wsX0_takeFrom := goodIn_r _ [165, 94, 95, 96, 97, 98, 103, 166, 167, 168, 169, 104, 148, 149, 159, 160, 161, 186, 187, 188, 189, 190, 191, 192, 193, 194, 195, 196, 197] (by decide +kernel) (by decide +kernel)
set_option maxRecDepth 20000 in
theorem gX5_read_X0_takeFrom : GoodIn wsX5_read (wsV RX5 133 RX0 yX0_takeFrom wsX0_takeFrom) := goodIn_app (goodIn_of _ (by decide +kernel)) ggX5_read_X0_takeFrom
theorem dX5_read_0 : decode cX5_read 0 = .ok (.aload_n 0, 1) := by decide +kernel
theorem dX5_read_1 : decode cX5_read 1 = .ok (.getfield 30, 3) := by decide +kernel
theorem dX5_read_4 : decode cX5_read 4 = .ok (.aload_n 0, 1) := by decide +kernel
theorem dX5_read_5 : decode cX5_read 5 = .ok (.getfield 16, 3) := by decide +kernel
theorem dX5_read_8 : decode cX5_read 8 = .ok (.invokevirtual 129, 3) := by decide +kernel
theorem dX5_read_11 : decode cX5_read 11 = .ok (.istore_n 1, 1) := by decide +kernel
theorem dX5_read_12 : decode cX5_read 12 = .ok (.iload_n 1, 1) := by decide +kernel
theorem dX5_read_13 : decode cX5_read 13 = .ok (.ifCond .lt 14, 3) := by decide +kernel
theorem dX5_read_16 : decode cX5_read 16 = .ok (.aload_n 0, 1) := by decide +kernel
theorem dX5_read_17 : decode cX5_read 17 = .ok (.getfield 12, 3) := by decide +kernel
theorem dX5_read_20 : decode cX5_read 20 = .ok (.aload_n 0, 1) := by decide +kernel
theorem dX5_read_21 : decode cX5_read 21 = .ok (.getfield 16, 3) := by decide +kernel
theorem dX5_read_24 : decode cX5_read 24 = .ok (.invokevirtual 133, 3) := by decide +kernel
theorem dX5_read_27 : decode cX5_read 27 = .ok (.iload_n 1, 1) := by decide +kernel
theorem dX5_read_28 : decode cX5_read 28 = .ok (.ireturn, 1) := by decide +kernel
set_option maxRecDepth 20000 in
theorem ggX5_sounds_X0_isWire : GoodIn wsX5_sounds wsX0_isWire := goodIn_r _ [6, 7, 8, 9, 5, 10, 11, 12, 13, 14, 50, 51, 52, 53, 54, 55, 56, 57, 58, 59, 60, 61] (by decide +kernel) (by decide +kernel)
set_option maxRecDepth 20000 in
theorem gX5_sounds_X0_isWire : GoodIn wsX5_sounds (wsV RX5 71 RX0 yX0_isWire wsX0_isWire) := goodIn_app (goodIn_of _ (by decide +kernel)) ggX5_sounds_X0_isWire
set_option maxRecDepth 20000 in
theorem ggX5_sounds_X5_within : GoodIn wsX5_sounds wsX5_within := goodIn_r _ [17] (by decide +kernel) (by decide +kernel)
set_option maxRecDepth 20000 in
theorem gX5_sounds_X5_within : GoodIn wsX5_sounds (va_wsS RX5 55 yX5_within wsX5_within) := goodIn_app (goodIn_of _ (by decide +kernel)) ggX5_sounds_X5_within
set_option maxRecDepth 20000 in
theorem ggX5_sounds_X5_inRow : GoodIn wsX5_sounds wsX5_inRow := goodIn_r _ [14] (by decide +kernel) (by decide +kernel)
set_option maxRecDepth 20000 in
theorem gX5_sounds_X5_inRow : GoodIn wsX5_sounds (va_wsS RX5 75 yX5_inRow wsX5_inRow) := goodIn_app (goodIn_of _ (by decide +kernel)) ggX5_sounds_X5_inRow
set_option maxRecDepth 20000 in
theorem ggX5_sounds_X5_bad : GoodIn wsX5_sounds wsX5_bad := goodIn_r _ [22, 23, 39, 40, 41, 42, 43, 44, 45, 46, 47, 48, 49] (by decide +kernel) (by decide +kernel)
set_option maxRecDepth 20000 in
theorem gX5_sounds_X5_bad : GoodIn wsX5_sounds (wsV RX5 59 RX5 yX5_bad wsX5_bad) := goodIn_app (goodIn_of _ (by decide +kernel)) ggX5_sounds_X5_bad
set_option maxRecDepth 20000 in
theorem ggX5_sounds_X0_loudnessOf : GoodIn wsX5_sounds wsX0_loudnessOf := goodIn_r _ [27, 28, 29, 13, 30, 50, 51, 52, 53, 54, 55, 56, 57, 58, 59, 60, 61] (by decide +kernel) (by decide +kernel)
set_option maxRecDepth 20000 in
theorem gX5_sounds_X0_loudnessOf : GoodIn wsX5_sounds (wsV RX5 137 RX0 yX0_loudnessOf wsX0_loudnessOf) := goodIn_app (goodIn_of _ (by decide +kernel)) ggX5_sounds_X0_loudnessOf
set_option maxRecDepth 20000 in
theorem ggX5_sounds_X0_noteOf : GoodIn wsX5_sounds wsX0_noteOf := goodIn_r _ [34, 28, 35, 36, 37, 13, 38, 50, 51, 52, 53, 54, 55, 56, 57, 58, 59, 60, 61] (by decide +kernel) (by decide +kernel)
set_option maxRecDepth 20000 in
theorem gX5_sounds_X0_noteOf : GoodIn wsX5_sounds (wsV RX5 141 RX0 yX0_noteOf wsX0_noteOf) := goodIn_app (goodIn_of _ (by decide +kernel)) ggX5_sounds_X0_noteOf
theorem dX5_sounds_0 : decode cX5_sounds 0 = .ok (.aload_n 0, 1) := by decide +kernel
theorem dX5_sounds_1 : decode cX5_sounds 1 = .ok (.getfield 12, 3) := by decide +kernel
theorem dX5_sounds_4 : decode cX5_sounds 4 = .ok (.iload_n 1, 1) := by decide +kernel
theorem dX5_sounds_5 : decode cX5_sounds 5 = .ok (.invokevirtual 71, 3) := by decide +kernel
theorem dX5_sounds_8 : decode cX5_sounds 8 = .ok (.ifCond .eq 20, 3) := by decide +kernel
theorem dX5_sounds_11 : decode cX5_sounds 11 = .ok (.iload_n 2, 1) := by decide +kernel
theorem dX5_sounds_12 : decode cX5_sounds 12 = .ok (.iconst 1, 1) := by decide +kernel
theorem dX5_sounds_13 : decode cX5_sounds 13 = .ok (.iconst 3, 1) := by decide +kernel
theorem dX5_sounds_14 : decode cX5_sounds 14 = .ok (.invokestatic 55, 3) := by decide +kernel
theorem dX5_sounds_17 : decode cX5_sounds 17 = .ok (.ifCond .eq 11, 3) := by decide +kernel
theorem dX5_sounds_20 : decode cX5_sounds 20 = .ok (.iload_n 3, 1) := by decide +kernel
theorem dX5_sounds_21 : decode cX5_sounds 21 = .ok (.iconst 2, 1) := by decide +kernel
theorem dX5_sounds_22 : decode cX5_sounds 22 = .ok (.invokestatic 75, 3) := by decide +kernel
theorem dX5_sounds_25 : decode cX5_sounds 25 = .ok (.ifCond .ne 10, 3) := by decide +kernel
theorem dX5_sounds_28 : decode cX5_sounds 28 = .ok (.aload_n 0, 1) := by decide +kernel
theorem dX5_sounds_29 : decode cX5_sounds 29 = .ok (.bipush (-2), 2) := by decide +kernel
theorem dX5_sounds_31 : decode cX5_sounds 31 = .ok (.invokevirtual 59, 3) := by decide +kernel
theorem dX5_sounds_34 : decode cX5_sounds 34 = .ok (.ireturn, 1) := by decide +kernel
theorem dX5_sounds_35 : decode cX5_sounds 35 = .ok (.iload_n 3, 1) := by decide +kernel
theorem dX5_sounds_36 : decode cX5_sounds 36 = .ok (.ifCond .ne 15, 3) := by decide +kernel
theorem dX5_sounds_39 : decode cX5_sounds 39 = .ok (.aload_n 0, 1) := by decide +kernel
theorem dX5_sounds_40 : decode cX5_sounds 40 = .ok (.getfield 12, 3) := by decide +kernel
theorem dX5_sounds_43 : decode cX5_sounds 43 = .ok (.iload_n 1, 1) := by decide +kernel
theorem dX5_sounds_44 : decode cX5_sounds 44 = .ok (.iload_n 2, 1) := by decide +kernel
theorem dX5_sounds_45 : decode cX5_sounds 45 = .ok (.invokevirtual 137, 3) := by decide +kernel
theorem dX5_sounds_48 : decode cX5_sounds 48 = .ok (.goto 11, 3) := by decide +kernel
theorem dX5_sounds_51 : decode cX5_sounds 51 = .ok (.aload_n 0, 1) := by decide +kernel
theorem dX5_sounds_52 : decode cX5_sounds 52 = .ok (.getfield 12, 3) := by decide +kernel
theorem dX5_sounds_55 : decode cX5_sounds 55 = .ok (.iload_n 1, 1) := by decide +kernel
theorem dX5_sounds_56 : decode cX5_sounds 56 = .ok (.invokevirtual 141, 3) := by decide +kernel
theorem dX5_sounds_59 : decode cX5_sounds 59 = .ok (.ireturn, 1) := by decide +kernel
set_option maxRecDepth 20000 in
theorem ggX5_away_X0_isPost : GoodIn wsX5_away wsX0_isPost := goodIn_r _ [6, 7, 8, 9, 10, 35, 36, 37, 38, 39, 40, 41, 42, 43, 44, 45, 46] (by decide +kernel) (by decide +kernel)
set_option maxRecDepth 20000 in
theorem gX5_away_X0_isPost : GoodIn wsX5_away (wsV RX5 93 RX0 yX0_isPost wsX0_isPost) := goodIn_app (goodIn_of _ (by decide +kernel)) ggX5_away_X0_isPost
set_option maxRecDepth 20000 in
theorem ggX5_away_X0_isWire : GoodIn wsX5_away wsX0_isWire := goodIn_r _ [14, 15, 16, 17, 5, 18, 7, 8, 9, 10, 35, 36, 37, 38, 39, 40, 41, 42, 43, 44, 45, 46] (by decide +kernel) (by decide +kernel)
set_option maxRecDepth 20000 in
theorem gX5_away_X0_isWire : GoodIn wsX5_away (wsV RX5 71 RX0 yX0_isWire wsX0_isWire) := goodIn_app (goodIn_of _ (by decide +kernel)) ggX5_away_X0_isWire
set_option maxRecDepth 20000 in
theorem ggX5_away_X5_bad : GoodIn wsX5_away wsX5_bad := goodIn_r _ [22, 23, 24, 25, 26, 27, 28, 29, 30, 31, 32, 33, 34] (by decide +kernel) (by decide +kernel)
set_option maxRecDepth 20000 in
theorem gX5_away_X5_bad : GoodIn wsX5_away (wsV RX5 59 RX5 yX5_bad wsX5_bad) := goodIn_app (goodIn_of _ (by decide +kernel)) ggX5_away_X5_bad
theorem dX5_away_0 : decode cX5_away 0 = .ok (.aload_n 0, 1) := by decide +kernel
theorem dX5_away_1 : decode cX5_away 1 = .ok (.getfield 12, 3) := by decide +kernel
theorem dX5_away_4 : decode cX5_away 4 = .ok (.iload_n 1, 1) := by decide +kernel
theorem dX5_away_5 : decode cX5_away 5 = .ok (.invokevirtual 93, 3) := by decide +kernel
theorem dX5_away_8 : decode cX5_away 8 = .ok (.ifCond .eq 14, 3) := by decide +kernel
theorem dX5_away_11 : decode cX5_away 11 = .ok (.aload_n 0, 1) := by decide +kernel
theorem dX5_away_12 : decode cX5_away 12 = .ok (.getfield 12, 3) := by decide +kernel
theorem dX5_away_15 : decode cX5_away 15 = .ok (.iload_n 2, 1) := by decide +kernel
theorem dX5_away_16 : decode cX5_away 16 = .ok (.invokevirtual 71, 3) := by decide +kernel
theorem dX5_away_19 : decode cX5_away 19 = .ok (.ifCond .ne 10, 3) := by decide +kernel
theorem dX5_away_22 : decode cX5_away 22 = .ok (.aload_n 0, 1) := by decide +kernel
theorem dX5_away_23 : decode cX5_away 23 = .ok (.bipush (-2), 2) := by decide +kernel
theorem dX5_away_25 : decode cX5_away 25 = .ok (.invokevirtual 59, 3) := by decide +kernel
theorem dX5_away_28 : decode cX5_away 28 = .ok (.ireturn, 1) := by decide +kernel
theorem dX5_away_29 : decode cX5_away 29 = .ok (.iload_n 1, 1) := by decide +kernel
theorem dX5_away_30 : decode cX5_away 30 = .ok (.iload_n 2, 1) := by decide +kernel
theorem dX5_away_31 : decode cX5_away 31 = .ok (.if_icmp .gt 9, 3) := by decide +kernel
theorem dX5_away_34 : decode cX5_away 34 = .ok (.iload_n 2, 1) := by decide +kernel
theorem dX5_away_35 : decode cX5_away 35 = .ok (.iload_n 1, 1) := by decide +kernel
theorem dX5_away_36 : decode cX5_away 36 = .ok (.isub, 1) := by decide +kernel
theorem dX5_away_37 : decode cX5_away 37 = .ok (.goto 8, 3) := by decide +kernel
theorem dX5_away_40 : decode cX5_away 40 = .ok (.iload_n 1, 1) := by decide +kernel
theorem dX5_away_41 : decode cX5_away 41 = .ok (.iload_n 2, 1) := by decide +kernel
theorem dX5_away_42 : decode cX5_away 42 = .ok (.isub, 1) := by decide +kernel
theorem dX5_away_43 : decode cX5_away 43 = .ok (.iconst 1, 1) := by decide +kernel
theorem dX5_away_44 : decode cX5_away 44 = .ok (.isub, 1) := by decide +kernel
theorem dX5_away_45 : decode cX5_away 45 = .ok (.ireturn, 1) := by decide +kernel
set_option maxRecDepth 20000 in
theorem ggX5_heard_X0_isPost : GoodIn wsX5_heard wsX0_isPost := goodIn_r _ [6, 7, 8, 9, 10, 87, 88, 89, 90, 91, 92, 93, 94, 95, 96, 97, 98] (by decide +kernel) (by decide +kernel)
set_option maxRecDepth 20000 in
theorem gX5_heard_X0_isPost : GoodIn wsX5_heard (wsV RX5 93 RX0 yX0_isPost wsX0_isPost) := goodIn_app (goodIn_of _ (by decide +kernel)) ggX5_heard_X0_isPost
set_option maxRecDepth 20000 in
theorem ggX5_heard_X5_inRow : GoodIn wsX5_heard wsX5_inRow := goodIn_r _ [10] (by decide +kernel) (by decide +kernel)
set_option maxRecDepth 20000 in
theorem gX5_heard_X5_inRow : GoodIn wsX5_heard (va_wsS RX5 75 yX5_inRow wsX5_inRow) := goodIn_app (goodIn_of _ (by decide +kernel)) ggX5_heard_X5_inRow
set_option maxRecDepth 20000 in
theorem ggX5_heard_X5_bad : GoodIn wsX5_heard wsX5_bad := goodIn_r _ [15, 16, 76, 77, 78, 79, 80, 81, 82, 83, 84, 85, 86] (by decide +kernel) (by decide +kernel)
set_option maxRecDepth 20000 in
theorem gX5_heard_X5_bad : GoodIn wsX5_heard (wsV RX5 59 RX5 yX5_bad wsX5_bad) := goodIn_app (goodIn_of _ (by decide +kernel)) ggX5_heard_X5_bad
set_option maxRecDepth 20000 in
theorem ggX5_heard_X0_notesAt : GoodIn wsX5_heard wsX0_notesAt := goodIn_r _ [20, 21, 22, 23, 24, 25, 26, 27, 28, 29, 30, 5, 31, 32, 33, 34, 35, 36, 37, 38, 39, 40, 41, 42, 43, 44, 45, 9, 46, 47, 48, 49, 50, 51, 52, 53, 54, 7, 55, 56, 57, 58, 59, 60, 61, 62, 63, 64, 65, 66, 67, 68, 69, 70, 71, 72, 73, 74, 75, 8, 10, 87, 88, 89, 90, 91, 92, 93, 94, 95, 96, 97, 98] (by decide +kernel) (by decide +kernel)
set_option maxRecDepth 20000 in
theorem gX5_heard_X0_notesAt : GoodIn wsX5_heard (wsV RX5 144 RX0 yX0_notesAt wsX0_notesAt) := goodIn_app (goodIn_of _ (by decide +kernel)) ggX5_heard_X0_notesAt
theorem dX5_heard_0 : decode cX5_heard 0 = .ok (.aload_n 0, 1) := by decide +kernel
theorem dX5_heard_1 : decode cX5_heard 1 = .ok (.getfield 12, 3) := by decide +kernel
theorem dX5_heard_4 : decode cX5_heard 4 = .ok (.iload_n 1, 1) := by decide +kernel
theorem dX5_heard_5 : decode cX5_heard 5 = .ok (.invokevirtual 93, 3) := by decide +kernel
theorem dX5_heard_8 : decode cX5_heard 8 = .ok (.ifCond .eq 12, 3) := by decide +kernel
theorem dX5_heard_11 : decode cX5_heard 11 = .ok (.iload_n 2, 1) := by decide +kernel
theorem dX5_heard_12 : decode cX5_heard 12 = .ok (.bipush 60, 2) := by decide +kernel
theorem dX5_heard_14 : decode cX5_heard 14 = .ok (.invokestatic 75, 3) := by decide +kernel
theorem dX5_heard_17 : decode cX5_heard 17 = .ok (.ifCond .ne 10, 3) := by decide +kernel
theorem dX5_heard_20 : decode cX5_heard 20 = .ok (.aload_n 0, 1) := by decide +kernel
theorem dX5_heard_21 : decode cX5_heard 21 = .ok (.bipush (-2), 2) := by decide +kernel
theorem dX5_heard_23 : decode cX5_heard 23 = .ok (.invokevirtual 59, 3) := by decide +kernel
theorem dX5_heard_26 : decode cX5_heard 26 = .ok (.ireturn, 1) := by decide +kernel
theorem dX5_heard_27 : decode cX5_heard 27 = .ok (.aload_n 0, 1) := by decide +kernel
theorem dX5_heard_28 : decode cX5_heard 28 = .ok (.getfield 12, 3) := by decide +kernel
theorem dX5_heard_31 : decode cX5_heard 31 = .ok (.iload_n 1, 1) := by decide +kernel
theorem dX5_heard_32 : decode cX5_heard 32 = .ok (.iload_n 2, 1) := by decide +kernel
theorem dX5_heard_33 : decode cX5_heard 33 = .ok (.invokevirtual 144, 3) := by decide +kernel
theorem dX5_heard_36 : decode cX5_heard 36 = .ok (.ireturn, 1) := by decide +kernel
set_option maxRecDepth 20000 in
theorem ggX5_alarm_X5_inRow : GoodIn wsX5_alarm wsX5_inRow := goodIn_r _ [6] (by decide +kernel) (by decide +kernel)
set_option maxRecDepth 20000 in
theorem gX5_alarm_X5_inRow : GoodIn wsX5_alarm (va_wsS RX5 75 yX5_inRow wsX5_inRow) := goodIn_app (goodIn_of _ (by decide +kernel)) ggX5_alarm_X5_inRow
set_option maxRecDepth 20000 in
theorem ggX5_alarm_X5_bad : GoodIn wsX5_alarm wsX5_bad := goodIn_r _ [10, 11, 78, 79, 80, 81, 82, 83, 84, 85, 86, 87, 88] (by decide +kernel) (by decide +kernel)
set_option maxRecDepth 20000 in
theorem gX5_alarm_X5_bad : GoodIn wsX5_alarm (wsV RX5 59 RX5 yX5_bad wsX5_bad) := goodIn_app (goodIn_of _ (by decide +kernel)) ggX5_alarm_X5_bad
set_option maxRecDepth 20000 in
theorem ggX5_alarm_X0_hasGuard : GoodIn wsX5_alarm wsX0_hasGuard := goodIn_r _ [16, 17, 18, 5, 19, 89, 90, 91, 92, 93, 94, 95, 96, 97, 98, 99, 100] (by decide +kernel) (by decide +kernel)
set_option maxRecDepth 20000 in
theorem gX5_alarm_X0_hasGuard : GoodIn wsX5_alarm (wsV RX5 96 RX0 yX0_hasGuard wsX0_hasGuard) := goodIn_app (goodIn_of _ (by decide +kernel)) ggX5_alarm_X0_hasGuard
set_option maxRecDepth 20000 in
theorem ggX5_alarm_X0_notesAt : GoodIn wsX5_alarm wsX0_notesAt := goodIn_r _ [23, 24, 25, 26, 27, 28, 29, 30, 31, 32, 33, 15, 34, 35, 36, 37, 38, 39, 40, 41, 42, 43, 44, 45, 46, 47, 48, 5, 49, 50, 51, 52, 53, 54, 55, 56, 57, 58, 59, 60, 61, 18, 19, 62, 63, 64, 65, 66, 67, 68, 69, 70, 71, 72, 73, 74, 75, 76, 77, 4, 6, 89, 90, 91, 92, 93, 94, 95, 96, 97, 98, 99, 100] (by decide +kernel) (by decide +kernel)
set_option maxRecDepth 20000 in
theorem gX5_alarm_X0_notesAt : GoodIn wsX5_alarm (wsV RX5 144 RX0 yX0_notesAt wsX0_notesAt) := goodIn_app (goodIn_of _ (by decide +kernel)) ggX5_alarm_X0_notesAt
theorem dX5_alarm_0 : decode cX5_alarm 0 = .ok (.iload_n 1, 1) := by decide +kernel
theorem dX5_alarm_1 : decode cX5_alarm 1 = .ok (.bipush 60, 2) := by decide +kernel
theorem dX5_alarm_3 : decode cX5_alarm 3 = .ok (.invokestatic 75, 3) := by decide +kernel
theorem dX5_alarm_6 : decode cX5_alarm 6 = .ok (.ifCond .ne 10, 3) := by decide +kernel
theorem dX5_alarm_9 : decode cX5_alarm 9 = .ok (.aload_n 0, 1) := by decide +kernel
theorem dX5_alarm_10 : decode cX5_alarm 10 = .ok (.bipush (-2), 2) := by decide +kernel
theorem dX5_alarm_12 : decode cX5_alarm 12 = .ok (.invokevirtual 59, 3) := by decide +kernel
theorem dX5_alarm_15 : decode cX5_alarm 15 = .ok (.ireturn, 1) := by decide +kernel
theorem dX5_alarm_16 : decode cX5_alarm 16 = .ok (.iconst 0, 1) := by decide +kernel
theorem dX5_alarm_17 : decode cX5_alarm 17 = .ok (.istore_n 2, 1) := by decide +kernel
theorem dX5_alarm_18 : decode cX5_alarm 18 = .ok (.iconst 0, 1) := by decide +kernel
theorem dX5_alarm_19 : decode cX5_alarm 19 = .ok (.istore_n 3, 1) := by decide +kernel
theorem dX5_alarm_20 : decode cX5_alarm 20 = .ok (.iload_n 3, 1) := by decide +kernel
theorem dX5_alarm_21 : decode cX5_alarm 21 = .ok (.aload_n 0, 1) := by decide +kernel
theorem dX5_alarm_22 : decode cX5_alarm 22 = .ok (.getfield 12, 3) := by decide +kernel
theorem dX5_alarm_25 : decode cX5_alarm 25 = .ok (.getfield 63, 3) := by decide +kernel
theorem dX5_alarm_28 : decode cX5_alarm 28 = .ok (.if_icmp .ge 35, 3) := by decide +kernel
theorem dX5_alarm_31 : decode cX5_alarm 31 = .ok (.aload_n 0, 1) := by decide +kernel
theorem dX5_alarm_32 : decode cX5_alarm 32 = .ok (.getfield 12, 3) := by decide +kernel
theorem dX5_alarm_35 : decode cX5_alarm 35 = .ok (.iload_n 3, 1) := by decide +kernel
theorem dX5_alarm_36 : decode cX5_alarm 36 = .ok (.invokevirtual 96, 3) := by decide +kernel
theorem dX5_alarm_39 : decode cX5_alarm 39 = .ok (.ifCond .eq 18, 3) := by decide +kernel
theorem dX5_alarm_42 : decode cX5_alarm 42 = .ok (.aload_n 0, 1) := by decide +kernel
theorem dX5_alarm_43 : decode cX5_alarm 43 = .ok (.getfield 12, 3) := by decide +kernel
theorem dX5_alarm_46 : decode cX5_alarm 46 = .ok (.iload_n 3, 1) := by decide +kernel
theorem dX5_alarm_47 : decode cX5_alarm 47 = .ok (.iload_n 1, 1) := by decide +kernel
theorem dX5_alarm_48 : decode cX5_alarm 48 = .ok (.invokevirtual 144, 3) := by decide +kernel
theorem dX5_alarm_51 : decode cX5_alarm 51 = .ok (.ifCond .eq 6, 3) := by decide +kernel
theorem dX5_alarm_54 : decode cX5_alarm 54 = .ok (.iinc 2 1, 3) := by decide +kernel
theorem dX5_alarm_57 : decode cX5_alarm 57 = .ok (.iinc 3 1, 3) := by decide +kernel
theorem dX5_alarm_60 : decode cX5_alarm 60 = .ok (.goto (-40), 3) := by decide +kernel
theorem dX5_alarm_63 : decode cX5_alarm 63 = .ok (.iload_n 2, 1) := by decide +kernel
theorem dX5_alarm_64 : decode cX5_alarm 64 = .ok (.ireturn, 1) := by decide +kernel
set_option maxRecDepth 20000 in
theorem ggX5_which_X0_isPost : GoodIn wsX5_which wsX0_isPost := goodIn_r _ [6, 7, 8, 9, 10, 79, 80, 81, 82, 83, 84, 85, 86, 87, 88, 89, 90] (by decide +kernel) (by decide +kernel)
set_option maxRecDepth 20000 in
theorem gX5_which_X0_isPost : GoodIn wsX5_which (wsV RX5 93 RX0 yX0_isPost wsX0_isPost) := goodIn_app (goodIn_of _ (by decide +kernel)) ggX5_which_X0_isPost
set_option maxRecDepth 20000 in
theorem ggX5_which_X5_within : GoodIn wsX5_which wsX5_within := goodIn_r _ [13] (by decide +kernel) (by decide +kernel)
set_option maxRecDepth 20000 in
theorem gX5_which_X5_within : GoodIn wsX5_which (va_wsS RX5 55 yX5_within wsX5_within) := goodIn_app (goodIn_of _ (by decide +kernel)) ggX5_which_X5_within
set_option maxRecDepth 20000 in
theorem ggX5_which_X5_bad : GoodIn wsX5_which wsX5_bad := goodIn_r _ [17, 18, 68, 69, 70, 71, 72, 73, 74, 75, 76, 77, 78] (by decide +kernel) (by decide +kernel)
set_option maxRecDepth 20000 in
theorem gX5_which_X5_bad : GoodIn wsX5_which (wsV RX5 59 RX5 yX5_bad wsX5_bad) := goodIn_app (goodIn_of _ (by decide +kernel)) ggX5_which_X5_bad
set_option maxRecDepth 20000 in
theorem ggX5_which_X0_wireCount : GoodIn wsX5_which wsX0_wireCount := goodIn_r _ [22, 7, 79, 80, 81, 82, 83, 84, 85, 86, 87, 88, 89, 90] (by decide +kernel) (by decide +kernel)
set_option maxRecDepth 20000 in
theorem gX5_which_X0_wireCount : GoodIn wsX5_which (wsV RX5 147 RX0 yX0_wireCount wsX0_wireCount) := goodIn_app (goodIn_of _ (by decide +kernel)) ggX5_which_X0_wireCount
set_option maxRecDepth 20000 in
theorem ggX5_which_X0_stepNotes : GoodIn wsX5_which wsX0_stepNotes := goodIn_r _ [26, 27, 28, 29, 5, 30, 31, 32, 33, 34, 35, 36, 37, 38, 39, 40, 9, 41, 42, 43, 44, 45, 46, 47, 48, 49, 7, 50, 51, 52, 53, 54, 55, 56, 57, 58, 59, 60, 61, 62, 63, 64, 65, 66, 67, 20, 21, 22, 8, 10, 79, 80, 81, 82, 83, 84, 85, 86, 87, 88, 89, 90] (by decide +kernel) (by decide +kernel)
set_option maxRecDepth 20000 in
theorem gX5_which_X0_stepNotes : GoodIn wsX5_which (wsV RX5 150 RX0 yX0_stepNotes wsX0_stepNotes) := goodIn_app (goodIn_of _ (by decide +kernel)) ggX5_which_X0_stepNotes
theorem dX5_which_0 : decode cX5_which 0 = .ok (.aload_n 0, 1) := by decide +kernel
theorem dX5_which_1 : decode cX5_which 1 = .ok (.getfield 12, 3) := by decide +kernel
theorem dX5_which_4 : decode cX5_which 4 = .ok (.iload_n 1, 1) := by decide +kernel
theorem dX5_which_5 : decode cX5_which 5 = .ok (.invokevirtual 93, 3) := by decide +kernel
theorem dX5_which_8 : decode cX5_which 8 = .ok (.ifCond .eq 48, 3) := by decide +kernel
theorem dX5_which_11 : decode cX5_which 11 = .ok (.aload_n 0, 1) := by decide +kernel
theorem dX5_which_12 : decode cX5_which 12 = .ok (.getfield 12, 3) := by decide +kernel
theorem dX5_which_15 : decode cX5_which 15 = .ok (.iload_n 3, 1) := by decide +kernel
theorem dX5_which_16 : decode cX5_which 16 = .ok (.invokevirtual 93, 3) := by decide +kernel
theorem dX5_which_19 : decode cX5_which 19 = .ok (.ifCond .eq 37, 3) := by decide +kernel
theorem dX5_which_22 : decode cX5_which 22 = .ok (.iload_n 1, 1) := by decide +kernel
theorem dX5_which_23 : decode cX5_which 23 = .ok (.iload_n 3, 1) := by decide +kernel
theorem dX5_which_24 : decode cX5_which 24 = .ok (.if_icmp .eq 32, 3) := by decide +kernel
theorem dX5_which_27 : decode cX5_which 27 = .ok (.iload 5, 2) := by decide +kernel
theorem dX5_which_29 : decode cX5_which 29 = .ok (.iconst (-1), 1) := by decide +kernel
theorem dX5_which_30 : decode cX5_which 30 = .ok (.if_icmp .lt 26, 3) := by decide +kernel
theorem dX5_which_33 : decode cX5_which 33 = .ok (.iload_n 2, 1) := by decide +kernel
theorem dX5_which_34 : decode cX5_which 34 = .ok (.iconst 0, 1) := by decide +kernel
theorem dX5_which_35 : decode cX5_which 35 = .ok (.sipush 4095, 3) := by decide +kernel
theorem dX5_which_38 : decode cX5_which 38 = .ok (.invokestatic 55, 3) := by decide +kernel
theorem dX5_which_41 : decode cX5_which 41 = .ok (.ifCond .eq 15, 3) := by decide +kernel
theorem dX5_which_44 : decode cX5_which 44 = .ok (.iload 4, 2) := by decide +kernel
theorem dX5_which_46 : decode cX5_which 46 = .ok (.iconst 0, 1) := by decide +kernel
theorem dX5_which_47 : decode cX5_which 47 = .ok (.sipush 4095, 3) := by decide +kernel
theorem dX5_which_50 : decode cX5_which 50 = .ok (.invokestatic 55, 3) := by decide +kernel
theorem dX5_which_53 : decode cX5_which 53 = .ok (.ifCond .ne 10, 3) := by decide +kernel
theorem dX5_which_56 : decode cX5_which 56 = .ok (.aload_n 0, 1) := by decide +kernel
theorem dX5_which_57 : decode cX5_which 57 = .ok (.bipush (-10), 2) := by decide +kernel
theorem dX5_which_59 : decode cX5_which 59 = .ok (.invokevirtual 59, 3) := by decide +kernel
theorem dX5_which_62 : decode cX5_which 62 = .ok (.ireturn, 1) := by decide +kernel
theorem dX5_which_63 : decode cX5_which 63 = .ok (.iconst 0, 1) := by decide +kernel
theorem dX5_which_64 : decode cX5_which 64 = .ok (.istore 6, 2) := by decide +kernel
theorem dX5_which_66 : decode cX5_which 66 = .ok (.iconst 0, 1) := by decide +kernel
theorem dX5_which_67 : decode cX5_which 67 = .ok (.istore 7, 2) := by decide +kernel
theorem dX5_which_69 : decode cX5_which 69 = .ok (.iload 7, 2) := by decide +kernel
theorem dX5_which_71 : decode cX5_which 71 = .ok (.aload_n 0, 1) := by decide +kernel
theorem dX5_which_72 : decode cX5_which 72 = .ok (.getfield 12, 3) := by decide +kernel
theorem dX5_which_75 : decode cX5_which 75 = .ok (.invokevirtual 147, 3) := by decide +kernel
theorem dX5_which_78 : decode cX5_which 78 = .ok (.if_icmp .ge 76, 3) := by decide +kernel
theorem dX5_which_81 : decode cX5_which 81 = .ok (.iconst 0, 1) := by decide +kernel
theorem dX5_which_82 : decode cX5_which 82 = .ok (.istore 8, 2) := by decide +kernel
theorem dX5_which_84 : decode cX5_which 84 = .ok (.iload 8, 2) := by decide +kernel
theorem dX5_which_86 : decode cX5_which 86 = .ok (.iconst 4, 1) := by decide +kernel
theorem dX5_which_87 : decode cX5_which 87 = .ok (.if_icmp .ge 61, 3) := by decide +kernel
theorem dX5_which_90 : decode cX5_which 90 = .ok (.aload_n 0, 1) := by decide +kernel
theorem dX5_which_91 : decode cX5_which 91 = .ok (.getfield 12, 3) := by decide +kernel
theorem dX5_which_94 : decode cX5_which 94 = .ok (.iload_n 1, 1) := by decide +kernel
theorem dX5_which_95 : decode cX5_which 95 = .ok (.iload 7, 2) := by decide +kernel
theorem dX5_which_97 : decode cX5_which 97 = .ok (.iload 8, 2) := by decide +kernel
theorem dX5_which_99 : decode cX5_which 99 = .ok (.invokevirtual 150, 3) := by decide +kernel
theorem dX5_which_102 : decode cX5_which 102 = .ok (.iload_n 2, 1) := by decide +kernel
theorem dX5_which_103 : decode cX5_which 103 = .ok (.if_icmp .ne 39, 3) := by decide +kernel
theorem dX5_which_106 : decode cX5_which 106 = .ok (.aload_n 0, 1) := by decide +kernel
theorem dX5_which_107 : decode cX5_which 107 = .ok (.getfield 12, 3) := by decide +kernel
theorem dX5_which_110 : decode cX5_which 110 = .ok (.iload_n 3, 1) := by decide +kernel
theorem dX5_which_111 : decode cX5_which 111 = .ok (.iload 7, 2) := by decide +kernel
theorem dX5_which_113 : decode cX5_which 113 = .ok (.iload 8, 2) := by decide +kernel
theorem dX5_which_115 : decode cX5_which 115 = .ok (.invokevirtual 150, 3) := by decide +kernel
theorem dX5_which_118 : decode cX5_which 118 = .ok (.iload 4, 2) := by decide +kernel
theorem dX5_which_120 : decode cX5_which 120 = .ok (.if_icmp .ne 22, 3) := by decide +kernel
theorem dX5_which_123 : decode cX5_which 123 = .ok (.iload 6, 2) := by decide +kernel
theorem dX5_which_125 : decode cX5_which 125 = .ok (.iload 5, 2) := by decide +kernel
theorem dX5_which_127 : decode cX5_which 127 = .ok (.if_icmp .ne 12, 3) := by decide +kernel
theorem dX5_which_130 : decode cX5_which 130 = .ok (.bipush 10, 2) := by decide +kernel
theorem dX5_which_132 : decode cX5_which 132 = .ok (.iload 7, 2) := by decide +kernel
theorem dX5_which_134 : decode cX5_which 134 = .ok (.imul, 1) := by decide +kernel
theorem dX5_which_135 : decode cX5_which 135 = .ok (.iload 8, 2) := by decide +kernel
theorem dX5_which_137 : decode cX5_which 137 = .ok (.iadd, 1) := by decide +kernel
theorem dX5_which_138 : decode cX5_which 138 = .ok (.ireturn, 1) := by decide +kernel
theorem dX5_which_139 : decode cX5_which 139 = .ok (.iinc 6 1, 3) := by decide +kernel
theorem dX5_which_142 : decode cX5_which 142 = .ok (.iinc 8 1, 3) := by decide +kernel
theorem dX5_which_145 : decode cX5_which 145 = .ok (.goto (-61), 3) := by decide +kernel
theorem dX5_which_148 : decode cX5_which 148 = .ok (.iinc 7 1, 3) := by decide +kernel
theorem dX5_which_151 : decode cX5_which 151 = .ok (.goto (-82), 3) := by decide +kernel
theorem dX5_which_154 : decode cX5_which 154 = .ok (.iload 5, 2) := by decide +kernel
theorem dX5_which_156 : decode cX5_which 156 = .ok (.iconst (-1), 1) := by decide +kernel
theorem dX5_which_157 : decode cX5_which 157 = .ok (.if_icmp .ne 8, 3) := by decide +kernel
theorem dX5_which_160 : decode cX5_which 160 = .ok (.iload 6, 2) := by decide +kernel
theorem dX5_which_162 : decode cX5_which 162 = .ok (.goto 5, 3) := by decide +kernel
theorem dX5_which_165 : decode cX5_which 165 = .ok (.bipush (-5), 2) := by decide +kernel
theorem dX5_which_167 : decode cX5_which 167 = .ok (.ireturn, 1) := by decide +kernel
set_option maxRecDepth 20000 in
theorem ggX5_cover_X5_within : GoodIn wsX5_cover wsX5_within := goodIn_r _ [6] (by decide +kernel) (by decide +kernel)
set_option maxRecDepth 20000 in
theorem gX5_cover_X5_within : GoodIn wsX5_cover (va_wsS RX5 55 yX5_within wsX5_within) := goodIn_app (goodIn_of _ (by decide +kernel)) ggX5_cover_X5_within
set_option maxRecDepth 20000 in
theorem ggX5_cover_X5_bad : GoodIn wsX5_cover wsX5_bad := goodIn_r _ [10, 11, 67, 68, 69, 70, 71, 72, 73, 74, 75, 76, 77] (by decide +kernel) (by decide +kernel)
set_option maxRecDepth 20000 in
theorem gX5_cover_X5_bad : GoodIn wsX5_cover (wsV RX5 59 RX5 yX5_bad wsX5_bad) := goodIn_app (goodIn_of _ (by decide +kernel)) ggX5_cover_X5_bad
set_option maxRecDepth 20000 in
theorem ggX5_cover_X4_fewestGuards : GoodIn wsX5_cover wsX4_fewestGuards := goodIn_r _ [16, 17, 18, 19, 20, 15, 21, 22, 23, 24, 25, 26, 27, 28, 29, 30, 31, 32, 33, 34, 35, 36, 37, 38, 39, 40, 41, 42, 43, 5, 44, 45, 46, 47, 48, 49, 50, 51, 52, 53, 54, 55, 56, 57, 58, 59, 60, 61, 62, 63, 64, 65, 66, 78, 79, 80, 81, 82, 83, 84, 85, 86, 87, 88, 89, 90, 91, 92, 93] (by decide +kernel) (by decide +kernel)
set_option maxRecDepth 20000 in
theorem gX5_cover_X4_fewestGuards : GoodIn wsX5_cover (wsV RX5 154 RX4 yX4_fewestGuards wsX4_fewestGuards) := goodIn_app (goodIn_of _ (by decide +kernel)) ggX5_cover_X4_fewestGuards
theorem dX5_cover_0 : decode cX5_cover 0 = .ok (.iload_n 1, 1) := by decide +kernel
theorem dX5_cover_1 : decode cX5_cover 1 = .ok (.iconst 1, 1) := by decide +kernel
theorem dX5_cover_2 : decode cX5_cover 2 = .ok (.iconst 3, 1) := by decide +kernel
theorem dX5_cover_3 : decode cX5_cover 3 = .ok (.invokestatic 55, 3) := by decide +kernel
theorem dX5_cover_6 : decode cX5_cover 6 = .ok (.ifCond .ne 10, 3) := by decide +kernel
theorem dX5_cover_9 : decode cX5_cover 9 = .ok (.aload_n 0, 1) := by decide +kernel
theorem dX5_cover_10 : decode cX5_cover 10 = .ok (.bipush (-2), 2) := by decide +kernel
theorem dX5_cover_12 : decode cX5_cover 12 = .ok (.invokevirtual 59, 3) := by decide +kernel
theorem dX5_cover_15 : decode cX5_cover 15 = .ok (.ireturn, 1) := by decide +kernel
theorem dX5_cover_16 : decode cX5_cover 16 = .ok (.aload_n 0, 1) := by decide +kernel
theorem dX5_cover_17 : decode cX5_cover 17 = .ok (.getfield 37, 3) := by decide +kernel
theorem dX5_cover_20 : decode cX5_cover 20 = .ok (.aload_n 0, 1) := by decide +kernel
theorem dX5_cover_21 : decode cX5_cover 21 = .ok (.getfield 12, 3) := by decide +kernel
theorem dX5_cover_24 : decode cX5_cover 24 = .ok (.iload_n 1, 1) := by decide +kernel
theorem dX5_cover_25 : decode cX5_cover 25 = .ok (.invokevirtual 154, 3) := by decide +kernel
theorem dX5_cover_28 : decode cX5_cover 28 = .ok (.ireturn, 1) := by decide +kernel
set_option maxRecDepth 20000 in
theorem ggX5_clashes_X0_wireCount : GoodIn wsX5_clashes wsX0_wireCount := goodIn_r _ [6, 7, 54, 55, 56, 57, 58, 59, 60, 61, 62, 63, 64, 65] (by decide +kernel) (by decide +kernel)
set_option maxRecDepth 20000 in
theorem gX5_clashes_X0_wireCount : GoodIn wsX5_clashes (wsV RX5 147 RX0 yX0_wireCount wsX0_wireCount) := goodIn_app (goodIn_of _ (by decide +kernel)) ggX5_clashes_X0_wireCount
set_option maxRecDepth 20000 in
theorem ggX5_clashes_X0_meet : GoodIn wsX5_clashes wsX0_meet := goodIn_r _ [11, 12, 13, 14, 5, 15, 16, 17, 18, 19, 20, 21, 22, 23, 24, 25, 26, 27, 28, 29, 30, 31, 7, 32, 33, 34, 54, 55, 56, 57, 58, 59, 60, 61, 62, 63, 64, 65] (by decide +kernel) (by decide +kernel)
set_option maxRecDepth 20000 in
theorem gX5_clashes_X0_meet : GoodIn wsX5_clashes (wsV RX5 158 RX0 yX0_meet wsX0_meet) := goodIn_app (goodIn_of _ (by decide +kernel)) ggX5_clashes_X0_meet
set_option maxRecDepth 20000 in
theorem ggX5_clashes_X0_noteOf : GoodIn wsX5_clashes wsX0_noteOf := goodIn_r _ [38, 20, 39, 40, 41, 22, 42, 54, 55, 56, 57, 58, 59, 60, 61, 62, 63, 64, 65] (by decide +kernel) (by decide +kernel)
set_option maxRecDepth 20000 in
theorem gX5_clashes_X0_noteOf : GoodIn wsX5_clashes (wsV RX5 141 RX0 yX0_noteOf wsX0_noteOf) := goodIn_app (goodIn_of _ (by decide +kernel)) ggX5_clashes_X0_noteOf
theorem dX5_clashes_0 : decode cX5_clashes 0 = .ok (.iconst 0, 1) := by decide +kernel
theorem dX5_clashes_1 : decode cX5_clashes 1 = .ok (.istore_n 1, 1) := by decide +kernel
theorem dX5_clashes_2 : decode cX5_clashes 2 = .ok (.iconst 0, 1) := by decide +kernel
theorem dX5_clashes_3 : decode cX5_clashes 3 = .ok (.istore_n 2, 1) := by decide +kernel
theorem dX5_clashes_4 : decode cX5_clashes 4 = .ok (.iload_n 2, 1) := by decide +kernel
theorem dX5_clashes_5 : decode cX5_clashes 5 = .ok (.aload_n 0, 1) := by decide +kernel
theorem dX5_clashes_6 : decode cX5_clashes 6 = .ok (.getfield 12, 3) := by decide +kernel
theorem dX5_clashes_9 : decode cX5_clashes 9 = .ok (.invokevirtual 147, 3) := by decide +kernel
theorem dX5_clashes_12 : decode cX5_clashes 12 = .ok (.if_icmp .ge 56, 3) := by decide +kernel
theorem dX5_clashes_15 : decode cX5_clashes 15 = .ok (.iconst 0, 1) := by decide +kernel
theorem dX5_clashes_16 : decode cX5_clashes 16 = .ok (.istore_n 3, 1) := by decide +kernel
theorem dX5_clashes_17 : decode cX5_clashes 17 = .ok (.iload_n 3, 1) := by decide +kernel
theorem dX5_clashes_18 : decode cX5_clashes 18 = .ok (.iload_n 2, 1) := by decide +kernel
theorem dX5_clashes_19 : decode cX5_clashes 19 = .ok (.if_icmp .ge 43, 3) := by decide +kernel
theorem dX5_clashes_22 : decode cX5_clashes 22 = .ok (.aload_n 0, 1) := by decide +kernel
theorem dX5_clashes_23 : decode cX5_clashes 23 = .ok (.getfield 12, 3) := by decide +kernel
theorem dX5_clashes_26 : decode cX5_clashes 26 = .ok (.iload_n 3, 1) := by decide +kernel
theorem dX5_clashes_27 : decode cX5_clashes 27 = .ok (.iload_n 2, 1) := by decide +kernel
theorem dX5_clashes_28 : decode cX5_clashes 28 = .ok (.invokevirtual 158, 3) := by decide +kernel
theorem dX5_clashes_31 : decode cX5_clashes 31 = .ok (.ifCond .eq 25, 3) := by decide +kernel
theorem dX5_clashes_34 : decode cX5_clashes 34 = .ok (.aload_n 0, 1) := by decide +kernel
theorem dX5_clashes_35 : decode cX5_clashes 35 = .ok (.getfield 12, 3) := by decide +kernel
theorem dX5_clashes_38 : decode cX5_clashes 38 = .ok (.iload_n 3, 1) := by decide +kernel
theorem dX5_clashes_39 : decode cX5_clashes 39 = .ok (.invokevirtual 141, 3) := by decide +kernel
theorem dX5_clashes_42 : decode cX5_clashes 42 = .ok (.aload_n 0, 1) := by decide +kernel
theorem dX5_clashes_43 : decode cX5_clashes 43 = .ok (.getfield 12, 3) := by decide +kernel
theorem dX5_clashes_46 : decode cX5_clashes 46 = .ok (.iload_n 2, 1) := by decide +kernel
theorem dX5_clashes_47 : decode cX5_clashes 47 = .ok (.invokevirtual 141, 3) := by decide +kernel
theorem dX5_clashes_50 : decode cX5_clashes 50 = .ok (.if_icmp .ne 6, 3) := by decide +kernel
theorem dX5_clashes_53 : decode cX5_clashes 53 = .ok (.iinc 1 1, 3) := by decide +kernel
theorem dX5_clashes_56 : decode cX5_clashes 56 = .ok (.iinc 3 1, 3) := by decide +kernel
theorem dX5_clashes_59 : decode cX5_clashes 59 = .ok (.goto (-42), 3) := by decide +kernel
theorem dX5_clashes_62 : decode cX5_clashes 62 = .ok (.iinc 2 1, 3) := by decide +kernel
theorem dX5_clashes_65 : decode cX5_clashes 65 = .ok (.goto (-61), 3) := by decide +kernel
theorem dX5_clashes_68 : decode cX5_clashes 68 = .ok (.iload_n 1, 1) := by decide +kernel
theorem dX5_clashes_69 : decode cX5_clashes 69 = .ok (.ireturn, 1) := by decide +kernel
set_option maxRecDepth 20000 in
theorem ggX5_retune_X3_fewestWires : GoodIn wsX5_retune wsX3_fewestWires := goodIn_r _ [7, 8, 9, 10, 11, 6, 12, 13, 14, 15, 16, 17, 18, 19, 20, 21, 22, 23, 24, 25, 26, 27, 28, 29, 30, 31, 32, 33, 34, 35, 36, 37, 38, 39, 40, 41, 42, 43, 44, 45, 46, 47, 48, 49, 50, 51, 52, 53, 54, 55, 56, 57, 58, 59, 60, 61, 62, 63, 64, 65, 66, 67, 68, 69, 70, 71, 72, 73, 74, 75, 76, 77, 78, 79, 80, 81, 82, 83, 84, 85, 86, 98, 99, 100, 101, 102, 103, 104, 105, 106, 107, 108, 109, 110, 111, 112, 113, 114] (by decide +kernel) (by decide +kernel)
set_option maxRecDepth 20000 in
theorem gX5_retune_X3_fewestWires : GoodIn wsX5_retune (wsV RX5 161 RX3 yX3_fewestWires wsX3_fewestWires) := goodIn_app (goodIn_of _ (by decide +kernel)) ggX5_retune_X3_fewestWires
theorem dX5_retune_0 : decode cX5_retune 0 = .ok (.aload_n 0, 1) := by decide +kernel
theorem dX5_retune_1 : decode cX5_retune 1 = .ok (.getfield 44, 3) := by decide +kernel
theorem dX5_retune_4 : decode cX5_retune 4 = .ok (.aload_n 0, 1) := by decide +kernel
theorem dX5_retune_5 : decode cX5_retune 5 = .ok (.getfield 12, 3) := by decide +kernel
theorem dX5_retune_8 : decode cX5_retune 8 = .ok (.invokevirtual 161, 3) := by decide +kernel
theorem dX5_retune_11 : decode cX5_retune 11 = .ok (.ireturn, 1) := by decide +kernel
set_option maxRecDepth 20000 in
theorem ggX5_slip_X5_inRow : GoodIn wsX5_slip wsX5_inRow := goodIn_r _ [8] (by decide +kernel) (by decide +kernel)
set_option maxRecDepth 20000 in
theorem gX5_slip_X5_inRow : GoodIn wsX5_slip (va_wsS RX5 75 yX5_inRow wsX5_inRow) := goodIn_app (goodIn_of _ (by decide +kernel)) ggX5_slip_X5_inRow
set_option maxRecDepth 20000 in
theorem ggX5_slip_X5_bad : GoodIn wsX5_slip wsX5_bad := goodIn_r _ [12, 13, 79, 80, 81, 82, 83, 84, 85, 86, 87, 88, 89] (by decide +kernel) (by decide +kernel)
set_option maxRecDepth 20000 in
theorem gX5_slip_X5_bad : GoodIn wsX5_slip (wsV RX5 59 RX5 yX5_bad wsX5_bad) := goodIn_app (goodIn_of _ (by decide +kernel)) ggX5_slip_X5_bad
set_option maxRecDepth 20000 in
theorem ggX5_slip_X4_findSlip : GoodIn wsX5_slip wsX4_findSlip := goodIn_r _ [18, 19, 20, 21, 22, 23, 24, 25, 26, 27, 28, 29, 30, 17, 31, 32, 33, 34, 35, 36, 37, 38, 39, 40, 41, 42, 43, 44, 45, 46, 47, 48, 49, 50, 51, 52, 53, 54, 7, 55, 56, 57, 58, 59, 60, 61, 62, 63, 64, 65, 66, 67, 68, 69, 70, 71, 72, 73, 74, 75, 76, 77, 78, 90, 91, 92, 93, 94, 95, 96, 97, 98, 99, 100, 101, 102, 103, 104, 105] (by decide +kernel) (by decide +kernel)
set_option maxRecDepth 20000 in
theorem gX5_slip_X4_findSlip : GoodIn wsX5_slip (wsV RX5 164 RX4 yX4_findSlip wsX4_findSlip) := goodIn_app (goodIn_of _ (by decide +kernel)) ggX5_slip_X4_findSlip
theorem dX5_slip_0 : decode cX5_slip 0 = .ok (.iload_n 1, 1) := by decide +kernel
theorem dX5_slip_1 : decode cX5_slip 1 = .ok (.iconst 2, 1) := by decide +kernel
theorem dX5_slip_2 : decode cX5_slip 2 = .ok (.invokestatic 75, 3) := by decide +kernel
theorem dX5_slip_5 : decode cX5_slip 5 = .ok (.ifCond .ne 10, 3) := by decide +kernel
theorem dX5_slip_8 : decode cX5_slip 8 = .ok (.aload_n 0, 1) := by decide +kernel
theorem dX5_slip_9 : decode cX5_slip 9 = .ok (.bipush (-10), 2) := by decide +kernel
theorem dX5_slip_11 : decode cX5_slip 11 = .ok (.invokevirtual 59, 3) := by decide +kernel
theorem dX5_slip_14 : decode cX5_slip 14 = .ok (.ireturn, 1) := by decide +kernel
theorem dX5_slip_15 : decode cX5_slip 15 = .ok (.aload_n 0, 1) := by decide +kernel
theorem dX5_slip_16 : decode cX5_slip 16 = .ok (.getfield 37, 3) := by decide +kernel
theorem dX5_slip_19 : decode cX5_slip 19 = .ok (.aload_n 0, 1) := by decide +kernel
theorem dX5_slip_20 : decode cX5_slip 20 = .ok (.getfield 12, 3) := by decide +kernel
theorem dX5_slip_23 : decode cX5_slip 23 = .ok (.invokevirtual 164, 3) := by decide +kernel
theorem dX5_slip_26 : decode cX5_slip 26 = .ok (.iload_n 1, 1) := by decide +kernel
theorem dX5_slip_27 : decode cX5_slip 27 = .ok (.ifCond .ne 13, 3) := by decide +kernel
theorem dX5_slip_30 : decode cX5_slip 30 = .ok (.aload_n 0, 1) := by decide +kernel
theorem dX5_slip_31 : decode cX5_slip 31 = .ok (.getfield 37, 3) := by decide +kernel
theorem dX5_slip_34 : decode cX5_slip 34 = .ok (.getfield 167, 3) := by decide +kernel
theorem dX5_slip_37 : decode cX5_slip 37 = .ok (.goto 10, 3) := by decide +kernel
theorem dX5_slip_40 : decode cX5_slip 40 = .ok (.aload_n 0, 1) := by decide +kernel
theorem dX5_slip_41 : decode cX5_slip 41 = .ok (.getfield 37, 3) := by decide +kernel
theorem dX5_slip_44 : decode cX5_slip 44 = .ok (.getfield 170, 3) := by decide +kernel
theorem dX5_slip_47 : decode cX5_slip 47 = .ok (.ireturn, 1) := by decide +kernel
set_option maxRecDepth 20000 in
theorem ggX5_lot_X5_within : GoodIn wsX5_lot wsX5_within := goodIn_r _ [7] (by decide +kernel) (by decide +kernel)
set_option maxRecDepth 20000 in
theorem gX5_lot_X5_within : GoodIn wsX5_lot (va_wsS RX5 55 yX5_within wsX5_within) := goodIn_app (goodIn_of _ (by decide +kernel)) ggX5_lot_X5_within
set_option maxRecDepth 20000 in
theorem ggX5_lot_X0_isWire : GoodIn wsX5_lot wsX0_isWire := goodIn_r _ [12, 13, 14, 15, 11, 16, 17, 18, 6, 19, 84, 85, 86, 87, 88, 89, 90, 91, 92, 93, 94, 95] (by decide +kernel) (by decide +kernel)
set_option maxRecDepth 20000 in
theorem gX5_lot_X0_isWire : GoodIn wsX5_lot (wsV RX5 71 RX0 yX0_isWire wsX0_isWire) := goodIn_app (goodIn_of _ (by decide +kernel)) ggX5_lot_X0_isWire
set_option maxRecDepth 20000 in
theorem ggX5_lot_X5_inRow : GoodIn wsX5_lot wsX5_inRow := goodIn_r _ [19] (by decide +kernel) (by decide +kernel)
set_option maxRecDepth 20000 in
theorem gX5_lot_X5_inRow : GoodIn wsX5_lot (va_wsS RX5 75 yX5_inRow wsX5_inRow) := goodIn_app (goodIn_of _ (by decide +kernel)) ggX5_lot_X5_inRow
set_option maxRecDepth 20000 in
theorem ggX5_lot_X5_bad : GoodIn wsX5_lot wsX5_bad := goodIn_r _ [24, 25, 73, 74, 75, 76, 77, 78, 79, 80, 81, 82, 83] (by decide +kernel) (by decide +kernel)
set_option maxRecDepth 20000 in
theorem gX5_lot_X5_bad : GoodIn wsX5_lot (wsV RX5 59 RX5 yX5_bad wsX5_bad) := goodIn_app (goodIn_of _ (by decide +kernel)) ggX5_lot_X5_bad
set_option maxRecDepth 20000 in
theorem ggX5_lot_X5_deafLots : GoodIn wsX5_lot wsX5_deafLots := goodIn_r _ [29, 1, 30, 2, 31, 32, 33, 11, 34, 35, 36, 37, 38, 39, 40, 6, 41, 42, 43, 44, 45, 46, 47, 48, 49, 17, 50, 51, 52, 53, 54, 55, 56, 57, 58, 59, 60, 61, 62, 73, 74, 75, 76, 77, 78, 79, 80, 81, 82, 83, 84, 85, 86, 87, 88, 89, 90, 91, 92, 93, 94, 95] (by decide +kernel) (by decide +kernel)
set_option maxRecDepth 20000 in
theorem gX5_lot_X5_deafLots : GoodIn wsX5_lot (wsV RX5 173 RX5 yX5_deafLots wsX5_deafLots) := goodIn_app (goodIn_of _ (by decide +kernel)) ggX5_lot_X5_deafLots
set_option maxRecDepth 20000 in
theorem ggX5_lot_X5_choose : GoodIn wsX5_lot wsX5_choose := goodIn_r _ [62] (by decide +kernel) (by decide +kernel)
set_option maxRecDepth 20000 in
theorem gX5_lot_X5_choose : GoodIn wsX5_lot (va_wsS RX5 176 yX5_choose wsX5_choose) := goodIn_app (goodIn_of _ (by decide +kernel)) ggX5_lot_X5_choose
set_option maxRecDepth 20000 in
theorem ggX5_lot_X2_become : GoodIn wsX5_lot wsX2_become := goodIn_r _ [67, 68, 69, 70, 71, 66, 72, 96, 97] (by decide +kernel) (by decide +kernel)
set_option maxRecDepth 20000 in
theorem gX5_lot_X2_become : GoodIn wsX5_lot (wsV RX5 179 RX2 yX2_become wsX2_become) := goodIn_app (goodIn_of _ (by decide +kernel)) ggX5_lot_X2_become
theorem dX5_lot_0 : decode cX5_lot 0 = .ok (.iload_n 1, 1) := by decide +kernel
theorem dX5_lot_1 : decode cX5_lot 1 = .ok (.iconst 1, 1) := by decide +kernel
theorem dX5_lot_2 : decode cX5_lot 2 = .ok (.aload_n 0, 1) := by decide +kernel
theorem dX5_lot_3 : decode cX5_lot 3 = .ok (.getfield 12, 3) := by decide +kernel
theorem dX5_lot_6 : decode cX5_lot 6 = .ok (.getfield 63, 3) := by decide +kernel
theorem dX5_lot_9 : decode cX5_lot 9 = .ok (.invokestatic 55, 3) := by decide +kernel
theorem dX5_lot_12 : decode cX5_lot 12 = .ok (.ifCond .eq 22, 3) := by decide +kernel
theorem dX5_lot_15 : decode cX5_lot 15 = .ok (.aload_n 0, 1) := by decide +kernel
theorem dX5_lot_16 : decode cX5_lot 16 = .ok (.getfield 12, 3) := by decide +kernel
theorem dX5_lot_19 : decode cX5_lot 19 = .ok (.iload_n 2, 1) := by decide +kernel
theorem dX5_lot_20 : decode cX5_lot 20 = .ok (.invokevirtual 71, 3) := by decide +kernel
theorem dX5_lot_23 : decode cX5_lot 23 = .ok (.ifCond .eq 11, 3) := by decide +kernel
theorem dX5_lot_26 : decode cX5_lot 26 = .ok (.iload_n 3, 1) := by decide +kernel
theorem dX5_lot_27 : decode cX5_lot 27 = .ok (.iconst 4, 1) := by decide +kernel
theorem dX5_lot_28 : decode cX5_lot 28 = .ok (.invokestatic 75, 3) := by decide +kernel
theorem dX5_lot_31 : decode cX5_lot 31 = .ok (.ifCond .ne 10, 3) := by decide +kernel
theorem dX5_lot_34 : decode cX5_lot 34 = .ok (.aload_n 0, 1) := by decide +kernel
theorem dX5_lot_35 : decode cX5_lot 35 = .ok (.bipush (-2), 2) := by decide +kernel
theorem dX5_lot_37 : decode cX5_lot 37 = .ok (.invokevirtual 59, 3) := by decide +kernel
theorem dX5_lot_40 : decode cX5_lot 40 = .ok (.ireturn, 1) := by decide +kernel
theorem dX5_lot_41 : decode cX5_lot 41 = .ok (.aload_n 0, 1) := by decide +kernel
theorem dX5_lot_42 : decode cX5_lot 42 = .ok (.getfield 51, 3) := by decide +kernel
theorem dX5_lot_45 : decode cX5_lot 45 = .ok (.aload_n 0, 1) := by decide +kernel
theorem dX5_lot_46 : decode cX5_lot 46 = .ok (.iload_n 1, 1) := by decide +kernel
theorem dX5_lot_47 : decode cX5_lot 47 = .ok (.iload_n 2, 1) := by decide +kernel
theorem dX5_lot_48 : decode cX5_lot 48 = .ok (.iload_n 3, 1) := by decide +kernel
theorem dX5_lot_49 : decode cX5_lot 49 = .ok (.invokevirtual 173, 3) := by decide +kernel
theorem dX5_lot_52 : decode cX5_lot 52 = .ok (.i2l, 1) := by decide +kernel
theorem dX5_lot_53 : decode cX5_lot 53 = .ok (.aload_n 0, 1) := by decide +kernel
theorem dX5_lot_54 : decode cX5_lot 54 = .ok (.getfield 12, 3) := by decide +kernel
theorem dX5_lot_57 : decode cX5_lot 57 = .ok (.getfield 63, 3) := by decide +kernel
theorem dX5_lot_60 : decode cX5_lot 60 = .ok (.iload_n 1, 1) := by decide +kernel
theorem dX5_lot_61 : decode cX5_lot 61 = .ok (.invokestatic 176, 3) := by decide +kernel
theorem dX5_lot_64 : decode cX5_lot 64 = .ok (.i2l, 1) := by decide +kernel
theorem dX5_lot_65 : decode cX5_lot 65 = .ok (.invokevirtual 179, 3) := by decide +kernel
theorem dX5_lot_68 : decode cX5_lot 68 = .ok (.iconst 1, 1) := by decide +kernel
theorem dX5_lot_69 : decode cX5_lot 69 = .ok (.ireturn, 1) := by decide +kernel
set_option maxRecDepth 20000 in
theorem ggX5_surest_X5_within : GoodIn wsX5_surest wsX5_within := goodIn_r _ [7] (by decide +kernel) (by decide +kernel)
set_option maxRecDepth 20000 in
theorem gX5_surest_X5_within : GoodIn wsX5_surest (va_wsS RX5 55 yX5_within wsX5_within) := goodIn_app (goodIn_of _ (by decide +kernel)) ggX5_surest_X5_within
set_option maxRecDepth 20000 in
theorem ggX5_surest_X5_inRow : GoodIn wsX5_surest wsX5_inRow := goodIn_r _ [10] (by decide +kernel) (by decide +kernel)
set_option maxRecDepth 20000 in
theorem gX5_surest_X5_inRow : GoodIn wsX5_surest (va_wsS RX5 75 yX5_inRow wsX5_inRow) := goodIn_app (goodIn_of _ (by decide +kernel)) ggX5_surest_X5_inRow
set_option maxRecDepth 20000 in
theorem ggX5_surest_X5_bad : GoodIn wsX5_surest wsX5_bad := goodIn_r _ [14, 15, 73, 74, 75, 76, 77, 78, 79, 80, 81, 82, 83] (by decide +kernel) (by decide +kernel)
set_option maxRecDepth 20000 in
theorem gX5_surest_X5_bad : GoodIn wsX5_surest (wsV RX5 59 RX5 yX5_bad wsX5_bad) := goodIn_app (goodIn_of _ (by decide +kernel)) ggX5_surest_X5_bad
set_option maxRecDepth 20000 in
theorem ggX5_surest_X0_wireCount : GoodIn wsX5_surest wsX0_wireCount := goodIn_r _ [20, 21, 84, 85, 86, 87, 88, 89, 90, 91, 92, 93, 94, 95] (by decide +kernel) (by decide +kernel)
set_option maxRecDepth 20000 in
theorem gX5_surest_X0_wireCount : GoodIn wsX5_surest (wsV RX5 147 RX0 yX0_wireCount wsX0_wireCount) := goodIn_app (goodIn_of _ (by decide +kernel)) ggX5_surest_X0_wireCount
set_option maxRecDepth 20000 in
theorem ggX5_surest_X0_isCut : GoodIn wsX5_surest wsX0_isCut := goodIn_r _ [25, 26, 84, 85, 86, 87, 88, 89, 90, 91, 92, 93, 94, 95] (by decide +kernel) (by decide +kernel)
set_option maxRecDepth 20000 in
theorem gX5_surest_X0_isCut : GoodIn wsX5_surest (wsV RX5 183 RX0 yX0_isCut wsX0_isCut) := goodIn_app (goodIn_of _ (by decide +kernel)) ggX5_surest_X0_isCut
set_option maxRecDepth 20000 in
theorem ggX5_surest_X5_deafLots : GoodIn wsX5_surest wsX5_deafLots := goodIn_r _ [30, 1, 31, 2, 32, 33, 34, 19, 35, 36, 37, 38, 39, 26, 40, 6, 41, 42, 43, 44, 45, 46, 47, 48, 49, 21, 50, 51, 52, 53, 54, 55, 56, 57, 58, 59, 60, 61, 62, 73, 74, 75, 76, 77, 78, 79, 80, 81, 82, 83, 84, 85, 86, 87, 88, 89, 90, 91, 92, 93, 94, 95] (by decide +kernel) (by decide +kernel)
set_option maxRecDepth 20000 in
theorem gX5_surest_X5_deafLots : GoodIn wsX5_surest (wsV RX5 173 RX5 yX5_deafLots wsX5_deafLots) := goodIn_app (goodIn_of _ (by decide +kernel)) ggX5_surest_X5_deafLots
set_option maxRecDepth 20000 in
theorem ggX5_surest_X5_choose : GoodIn wsX5_surest wsX5_choose := goodIn_r _ [62] (by decide +kernel) (by decide +kernel)
set_option maxRecDepth 20000 in
theorem gX5_surest_X5_choose : GoodIn wsX5_surest (va_wsS RX5 176 yX5_choose wsX5_choose) := goodIn_app (goodIn_of _ (by decide +kernel)) ggX5_surest_X5_choose
set_option maxRecDepth 20000 in
theorem ggX5_surest_X2_become : GoodIn wsX5_surest wsX2_become := goodIn_r _ [67, 68, 69, 70, 71, 66, 72, 96, 97] (by decide +kernel) (by decide +kernel)
set_option maxRecDepth 20000 in
theorem gX5_surest_X2_become : GoodIn wsX5_surest (wsV RX5 179 RX2 yX2_become wsX2_become) := goodIn_app (goodIn_of _ (by decide +kernel)) ggX5_surest_X2_become
theorem dX5_surest_0 : decode cX5_surest 0 = .ok (.iload_n 1, 1) := by decide +kernel
theorem dX5_surest_1 : decode cX5_surest 1 = .ok (.iconst 1, 1) := by decide +kernel
theorem dX5_surest_2 : decode cX5_surest 2 = .ok (.aload_n 0, 1) := by decide +kernel
theorem dX5_surest_3 : decode cX5_surest 3 = .ok (.getfield 12, 3) := by decide +kernel
theorem dX5_surest_6 : decode cX5_surest 6 = .ok (.getfield 63, 3) := by decide +kernel
theorem dX5_surest_9 : decode cX5_surest 9 = .ok (.invokestatic 55, 3) := by decide +kernel
theorem dX5_surest_12 : decode cX5_surest 12 = .ok (.ifCond .eq 11, 3) := by decide +kernel
theorem dX5_surest_15 : decode cX5_surest 15 = .ok (.iload_n 2, 1) := by decide +kernel
theorem dX5_surest_16 : decode cX5_surest 16 = .ok (.iconst 4, 1) := by decide +kernel
theorem dX5_surest_17 : decode cX5_surest 17 = .ok (.invokestatic 75, 3) := by decide +kernel
theorem dX5_surest_20 : decode cX5_surest 20 = .ok (.ifCond .ne 10, 3) := by decide +kernel
theorem dX5_surest_23 : decode cX5_surest 23 = .ok (.aload_n 0, 1) := by decide +kernel
theorem dX5_surest_24 : decode cX5_surest 24 = .ok (.bipush (-2), 2) := by decide +kernel
theorem dX5_surest_26 : decode cX5_surest 26 = .ok (.invokevirtual 59, 3) := by decide +kernel
theorem dX5_surest_29 : decode cX5_surest 29 = .ok (.ireturn, 1) := by decide +kernel
theorem dX5_surest_30 : decode cX5_surest 30 = .ok (.iconst (-1), 1) := by decide +kernel
theorem dX5_surest_31 : decode cX5_surest 31 = .ok (.istore_n 3, 1) := by decide +kernel
theorem dX5_surest_32 : decode cX5_surest 32 = .ok (.iconst (-1), 1) := by decide +kernel
theorem dX5_surest_33 : decode cX5_surest 33 = .ok (.istore 4, 2) := by decide +kernel
theorem dX5_surest_35 : decode cX5_surest 35 = .ok (.iconst 0, 1) := by decide +kernel
theorem dX5_surest_36 : decode cX5_surest 36 = .ok (.istore 5, 2) := by decide +kernel
theorem dX5_surest_38 : decode cX5_surest 38 = .ok (.iload 5, 2) := by decide +kernel
theorem dX5_surest_40 : decode cX5_surest 40 = .ok (.aload_n 0, 1) := by decide +kernel
theorem dX5_surest_41 : decode cX5_surest 41 = .ok (.getfield 12, 3) := by decide +kernel
theorem dX5_surest_44 : decode cX5_surest 44 = .ok (.invokevirtual 147, 3) := by decide +kernel
theorem dX5_surest_47 : decode cX5_surest 47 = .ok (.if_icmp .ge 49, 3) := by decide +kernel
theorem dX5_surest_50 : decode cX5_surest 50 = .ok (.aload_n 0, 1) := by decide +kernel
theorem dX5_surest_51 : decode cX5_surest 51 = .ok (.getfield 12, 3) := by decide +kernel
theorem dX5_surest_54 : decode cX5_surest 54 = .ok (.iload 5, 2) := by decide +kernel
theorem dX5_surest_56 : decode cX5_surest 56 = .ok (.invokevirtual 183, 3) := by decide +kernel
theorem dX5_surest_59 : decode cX5_surest 59 = .ok (.ifCond .eq 7, 3) := by decide +kernel
theorem dX5_surest_62 : decode cX5_surest 62 = .ok (.iconst (-1), 1) := by decide +kernel
theorem dX5_surest_63 : decode cX5_surest 63 = .ok (.goto 11, 3) := by decide +kernel
theorem dX5_surest_66 : decode cX5_surest 66 = .ok (.aload_n 0, 1) := by decide +kernel
theorem dX5_surest_67 : decode cX5_surest 67 = .ok (.iload_n 1, 1) := by decide +kernel
theorem dX5_surest_68 : decode cX5_surest 68 = .ok (.iload 5, 2) := by decide +kernel
theorem dX5_surest_70 : decode cX5_surest 70 = .ok (.iload_n 2, 1) := by decide +kernel
theorem dX5_surest_71 : decode cX5_surest 71 = .ok (.invokevirtual 173, 3) := by decide +kernel
theorem dX5_surest_74 : decode cX5_surest 74 = .ok (.istore 6, 2) := by decide +kernel
theorem dX5_surest_76 : decode cX5_surest 76 = .ok (.iload 6, 2) := by decide +kernel
theorem dX5_surest_78 : decode cX5_surest 78 = .ok (.iload 4, 2) := by decide +kernel
theorem dX5_surest_80 : decode cX5_surest 80 = .ok (.if_icmp .le 10, 3) := by decide +kernel
theorem dX5_surest_83 : decode cX5_surest 83 = .ok (.iload 5, 2) := by decide +kernel
theorem dX5_surest_85 : decode cX5_surest 85 = .ok (.istore_n 3, 1) := by decide +kernel
theorem dX5_surest_86 : decode cX5_surest 86 = .ok (.iload 6, 2) := by decide +kernel
theorem dX5_surest_88 : decode cX5_surest 88 = .ok (.istore 4, 2) := by decide +kernel
theorem dX5_surest_90 : decode cX5_surest 90 = .ok (.iinc 5 1, 3) := by decide +kernel
theorem dX5_surest_93 : decode cX5_surest 93 = .ok (.goto (-55), 3) := by decide +kernel
theorem dX5_surest_96 : decode cX5_surest 96 = .ok (.iload_n 3, 1) := by decide +kernel
theorem dX5_surest_97 : decode cX5_surest 97 = .ok (.iconst (-1), 1) := by decide +kernel
theorem dX5_surest_98 : decode cX5_surest 98 = .ok (.if_icmp .eq 25, 3) := by decide +kernel
theorem dX5_surest_101 : decode cX5_surest 101 = .ok (.aload_n 0, 1) := by decide +kernel
theorem dX5_surest_102 : decode cX5_surest 102 = .ok (.getfield 51, 3) := by decide +kernel
theorem dX5_surest_105 : decode cX5_surest 105 = .ok (.iload 4, 2) := by decide +kernel
theorem dX5_surest_107 : decode cX5_surest 107 = .ok (.i2l, 1) := by decide +kernel
theorem dX5_surest_108 : decode cX5_surest 108 = .ok (.aload_n 0, 1) := by decide +kernel
theorem dX5_surest_109 : decode cX5_surest 109 = .ok (.getfield 12, 3) := by decide +kernel
theorem dX5_surest_112 : decode cX5_surest 112 = .ok (.getfield 63, 3) := by decide +kernel
theorem dX5_surest_115 : decode cX5_surest 115 = .ok (.iload_n 1, 1) := by decide +kernel
theorem dX5_surest_116 : decode cX5_surest 116 = .ok (.invokestatic 176, 3) := by decide +kernel
theorem dX5_surest_119 : decode cX5_surest 119 = .ok (.i2l, 1) := by decide +kernel
theorem dX5_surest_120 : decode cX5_surest 120 = .ok (.invokevirtual 179, 3) := by decide +kernel
theorem dX5_surest_123 : decode cX5_surest 123 = .ok (.iload_n 3, 1) := by decide +kernel
theorem dX5_surest_124 : decode cX5_surest 124 = .ok (.ireturn, 1) := by decide +kernel
set_option maxRecDepth 20000 in
theorem ggX5_whence_X0_isPost : GoodIn wsX5_whence wsX0_isPost := goodIn_r _ [6, 7, 8, 9, 10, 68, 69, 70, 71, 72, 73, 74, 75, 76, 77, 78, 79] (by decide +kernel) (by decide +kernel)
set_option maxRecDepth 20000 in
theorem gX5_whence_X0_isPost : GoodIn wsX5_whence (wsV RX5 93 RX0 yX0_isPost wsX0_isPost) := goodIn_app (goodIn_of _ (by decide +kernel)) ggX5_whence_X0_isPost
set_option maxRecDepth 20000 in
theorem ggX5_whence_X5_inRow : GoodIn wsX5_whence wsX5_inRow := goodIn_r _ [10] (by decide +kernel) (by decide +kernel)
set_option maxRecDepth 20000 in
theorem gX5_whence_X5_inRow : GoodIn wsX5_whence (va_wsS RX5 75 yX5_inRow wsX5_inRow) := goodIn_app (goodIn_of _ (by decide +kernel)) ggX5_whence_X5_inRow
set_option maxRecDepth 20000 in
theorem ggX5_whence_X5_within : GoodIn wsX5_whence wsX5_within := goodIn_r _ [14] (by decide +kernel) (by decide +kernel)
set_option maxRecDepth 20000 in
theorem gX5_whence_X5_within : GoodIn wsX5_whence (va_wsS RX5 55 yX5_within wsX5_within) := goodIn_app (goodIn_of _ (by decide +kernel)) ggX5_whence_X5_within
set_option maxRecDepth 20000 in
theorem ggX5_whence_X5_bad : GoodIn wsX5_whence wsX5_bad := goodIn_r _ [18, 19, 57, 58, 59, 60, 61, 62, 63, 64, 65, 66, 67] (by decide +kernel) (by decide +kernel)
set_option maxRecDepth 20000 in
theorem gX5_whence_X5_bad : GoodIn wsX5_whence (wsV RX5 59 RX5 yX5_bad wsX5_bad) := goodIn_app (goodIn_of _ (by decide +kernel)) ggX5_whence_X5_bad
set_option maxRecDepth 20000 in
theorem ggX5_whence_X0_wireCount : GoodIn wsX5_whence wsX0_wireCount := goodIn_r _ [23, 7, 68, 69, 70, 71, 72, 73, 74, 75, 76, 77, 78, 79] (by decide +kernel) (by decide +kernel)
set_option maxRecDepth 20000 in
theorem gX5_whence_X0_wireCount : GoodIn wsX5_whence (wsV RX5 147 RX0 yX0_wireCount wsX0_wireCount) := goodIn_app (goodIn_of _ (by decide +kernel)) ggX5_whence_X0_wireCount
set_option maxRecDepth 20000 in
theorem ggX5_whence_X0_noteOf : GoodIn wsX5_whence wsX0_noteOf := goodIn_r _ [27, 28, 29, 30, 31, 9, 32, 68, 69, 70, 71, 72, 73, 74, 75, 76, 77, 78, 79] (by decide +kernel) (by decide +kernel)
set_option maxRecDepth 20000 in
theorem gX5_whence_X0_noteOf : GoodIn wsX5_whence (wsV RX5 141 RX0 yX0_noteOf wsX0_noteOf) := goodIn_app (goodIn_of _ (by decide +kernel)) ggX5_whence_X0_noteOf
set_option maxRecDepth 20000 in
theorem ggX5_whence_X0_reach : GoodIn wsX5_whence wsX0_reach := goodIn_r _ [36, 37, 38, 39, 5, 40, 28, 41, 9, 42, 43, 44, 45, 46, 47, 48, 49, 50, 7, 51, 52, 53, 68, 69, 70, 71, 72, 73, 74, 75, 76, 77, 78, 79] (by decide +kernel) (by decide +kernel)
set_option maxRecDepth 20000 in
theorem gX5_whence_X0_reach : GoodIn wsX5_whence (wsV RX5 186 RX0 yX0_reach wsX0_reach) := goodIn_app (goodIn_of _ (by decide +kernel)) ggX5_whence_X0_reach
set_option maxRecDepth 20000 in
theorem ggX5_whence_X5_has : GoodIn wsX5_whence wsX5_has := goodIn_r _ [56] (by decide +kernel) (by decide +kernel)
set_option maxRecDepth 20000 in
theorem gX5_whence_X5_has : GoodIn wsX5_whence (va_wsS RX5 189 yX5_has wsX5_has) := goodIn_app (goodIn_of _ (by decide +kernel)) ggX5_whence_X5_has
theorem dX5_whence_0 : decode cX5_whence 0 = .ok (.aload_n 0, 1) := by decide +kernel
theorem dX5_whence_1 : decode cX5_whence 1 = .ok (.getfield 12, 3) := by decide +kernel
theorem dX5_whence_4 : decode cX5_whence 4 = .ok (.iload_n 1, 1) := by decide +kernel
theorem dX5_whence_5 : decode cX5_whence 5 = .ok (.invokevirtual 93, 3) := by decide +kernel
theorem dX5_whence_8 : decode cX5_whence 8 = .ok (.ifCond .eq 21, 3) := by decide +kernel
theorem dX5_whence_11 : decode cX5_whence 11 = .ok (.iload_n 2, 1) := by decide +kernel
theorem dX5_whence_12 : decode cX5_whence 12 = .ok (.bipush 12, 2) := by decide +kernel
theorem dX5_whence_14 : decode cX5_whence 14 = .ok (.invokestatic 75, 3) := by decide +kernel
theorem dX5_whence_17 : decode cX5_whence 17 = .ok (.ifCond .eq 12, 3) := by decide +kernel
theorem dX5_whence_20 : decode cX5_whence 20 = .ok (.iload_n 3, 1) := by decide +kernel
theorem dX5_whence_21 : decode cX5_whence 21 = .ok (.iconst 1, 1) := by decide +kernel
theorem dX5_whence_22 : decode cX5_whence 22 = .ok (.iconst 3, 1) := by decide +kernel
theorem dX5_whence_23 : decode cX5_whence 23 = .ok (.invokestatic 55, 3) := by decide +kernel
theorem dX5_whence_26 : decode cX5_whence 26 = .ok (.ifCond .ne 10, 3) := by decide +kernel
theorem dX5_whence_29 : decode cX5_whence 29 = .ok (.aload_n 0, 1) := by decide +kernel
theorem dX5_whence_30 : decode cX5_whence 30 = .ok (.bipush (-2), 2) := by decide +kernel
theorem dX5_whence_32 : decode cX5_whence 32 = .ok (.invokevirtual 59, 3) := by decide +kernel
theorem dX5_whence_35 : decode cX5_whence 35 = .ok (.ireturn, 1) := by decide +kernel
theorem dX5_whence_36 : decode cX5_whence 36 = .ok (.iconst 0, 1) := by decide +kernel
theorem dX5_whence_37 : decode cX5_whence 37 = .ok (.istore 4, 2) := by decide +kernel
theorem dX5_whence_39 : decode cX5_whence 39 = .ok (.iconst 0, 1) := by decide +kernel
theorem dX5_whence_40 : decode cX5_whence 40 = .ok (.istore 5, 2) := by decide +kernel
theorem dX5_whence_42 : decode cX5_whence 42 = .ok (.iload 5, 2) := by decide +kernel
theorem dX5_whence_44 : decode cX5_whence 44 = .ok (.aload_n 0, 1) := by decide +kernel
theorem dX5_whence_45 : decode cX5_whence 45 = .ok (.getfield 12, 3) := by decide +kernel
theorem dX5_whence_48 : decode cX5_whence 48 = .ok (.invokevirtual 147, 3) := by decide +kernel
theorem dX5_whence_51 : decode cX5_whence 51 = .ok (.if_icmp .ge 48, 3) := by decide +kernel
theorem dX5_whence_54 : decode cX5_whence 54 = .ok (.aload_n 0, 1) := by decide +kernel
theorem dX5_whence_55 : decode cX5_whence 55 = .ok (.getfield 12, 3) := by decide +kernel
theorem dX5_whence_58 : decode cX5_whence 58 = .ok (.iload 5, 2) := by decide +kernel
theorem dX5_whence_60 : decode cX5_whence 60 = .ok (.invokevirtual 141, 3) := by decide +kernel
theorem dX5_whence_63 : decode cX5_whence 63 = .ok (.iload_n 2, 1) := by decide +kernel
theorem dX5_whence_64 : decode cX5_whence 64 = .ok (.if_icmp .ne 29, 3) := by decide +kernel
theorem dX5_whence_67 : decode cX5_whence 67 = .ok (.aload_n 0, 1) := by decide +kernel
theorem dX5_whence_68 : decode cX5_whence 68 = .ok (.getfield 12, 3) := by decide +kernel
theorem dX5_whence_71 : decode cX5_whence 71 = .ok (.iload 5, 2) := by decide +kernel
theorem dX5_whence_73 : decode cX5_whence 73 = .ok (.iload_n 3, 1) := by decide +kernel
theorem dX5_whence_74 : decode cX5_whence 74 = .ok (.invokevirtual 186, 3) := by decide +kernel
theorem dX5_whence_77 : decode cX5_whence 77 = .ok (.iload_n 1, 1) := by decide +kernel
theorem dX5_whence_78 : decode cX5_whence 78 = .ok (.invokestatic 189, 3) := by decide +kernel
theorem dX5_whence_81 : decode cX5_whence 81 = .ok (.ifCond .eq 12, 3) := by decide +kernel
theorem dX5_whence_84 : decode cX5_whence 84 = .ok (.iload 4, 2) := by decide +kernel
theorem dX5_whence_86 : decode cX5_whence 86 = .ok (.iconst 1, 1) := by decide +kernel
theorem dX5_whence_87 : decode cX5_whence 87 = .ok (.iload 5, 2) := by decide +kernel
theorem dX5_whence_89 : decode cX5_whence 89 = .ok (.ishl, 1) := by decide +kernel
theorem dX5_whence_90 : decode cX5_whence 90 = .ok (.ior, 1) := by decide +kernel
theorem dX5_whence_91 : decode cX5_whence 91 = .ok (.istore 4, 2) := by decide +kernel
theorem dX5_whence_93 : decode cX5_whence 93 = .ok (.iinc 5 1, 3) := by decide +kernel
theorem dX5_whence_96 : decode cX5_whence 96 = .ok (.goto (-54), 3) := by decide +kernel
theorem dX5_whence_99 : decode cX5_whence 99 = .ok (.iload 4, 2) := by decide +kernel
theorem dX5_whence_101 : decode cX5_whence 101 = .ok (.ireturn, 1) := by decide +kernel
set_option maxRecDepth 20000 in
theorem ggX5_doubled_X0_wireCount : GoodIn wsX5_doubled wsX0_wireCount := goodIn_r _ [7, 8, 52, 53, 54, 55, 56, 57, 58, 59, 60, 61, 62, 63] (by decide +kernel) (by decide +kernel)
set_option maxRecDepth 20000 in
theorem gX5_doubled_X0_wireCount : GoodIn wsX5_doubled (wsV RX5 147 RX0 yX0_wireCount wsX0_wireCount) := goodIn_app (goodIn_of _ (by decide +kernel)) ggX5_doubled_X0_wireCount
set_option maxRecDepth 20000 in
theorem ggX5_doubled_X0_reach : GoodIn wsX5_doubled wsX0_reach := goodIn_r _ [12, 13, 14, 15, 6, 16, 17, 18, 19, 20, 21, 22, 23, 24, 25, 26, 27, 28, 8, 29, 30, 31, 52, 53, 54, 55, 56, 57, 58, 59, 60, 61, 62, 63] (by decide +kernel) (by decide +kernel)
set_option maxRecDepth 20000 in
theorem gX5_doubled_X0_reach : GoodIn wsX5_doubled (wsV RX5 186 RX0 yX0_reach wsX0_reach) := goodIn_app (goodIn_of _ (by decide +kernel)) ggX5_doubled_X0_reach
set_option maxRecDepth 20000 in
theorem ggX5_doubled_J6_bitCount_0f7a4 : GoodIn wsX5_doubled wsJ6_bitCount_0f7a4 := goodIn_r _ [35, 36, 37, 38] (by decide +kernel) (by decide +kernel)
set_option maxRecDepth 20000 in
theorem gX5_doubled_J6_bitCount_0f7a4 : GoodIn wsX5_doubled (va_wsS RX5 195 yJ6_bitCount_0f7a4 wsJ6_bitCount_0f7a4) := goodIn_app (goodIn_of _ (by decide +kernel)) ggX5_doubled_J6_bitCount_0f7a4
set_option maxRecDepth 20000 in
theorem ggX5_doubled_X5_loudBy : GoodIn wsX5_doubled wsX5_loudBy := goodIn_r _ [20] (by decide +kernel) (by decide +kernel)
set_option maxRecDepth 20000 in
theorem gX5_doubled_X5_loudBy : GoodIn wsX5_doubled (va_wsS RX5 200 yX5_loudBy wsX5_loudBy) := goodIn_app (goodIn_of _ (by decide +kernel)) ggX5_doubled_X5_loudBy
set_option maxRecDepth 20000 in
theorem ggX5_doubled_X0_span : GoodIn wsX5_doubled wsX0_span := goodIn_r _ [24, 25, 26, 27, 28, 8, 29, 30, 31, 52, 53, 54, 55, 56, 57, 58, 59, 60, 61, 62, 63] (by decide +kernel) (by decide +kernel)
set_option maxRecDepth 20000 in
theorem gX5_doubled_X0_span : GoodIn wsX5_doubled (wsV RX5 203 RX0 yX0_span wsX0_span) := goodIn_app (goodIn_of _ (by decide +kernel)) ggX5_doubled_X0_span
theorem dX5_doubled_0 : decode cX5_doubled 0 = .ok (.iconst (-1), 1) := by decide +kernel
theorem dX5_doubled_1 : decode cX5_doubled 1 = .ok (.istore_n 1, 1) := by decide +kernel
theorem dX5_doubled_2 : decode cX5_doubled 2 = .ok (.iconst 0, 1) := by decide +kernel
theorem dX5_doubled_3 : decode cX5_doubled 3 = .ok (.istore_n 2, 1) := by decide +kernel
theorem dX5_doubled_4 : decode cX5_doubled 4 = .ok (.iconst 0, 1) := by decide +kernel
theorem dX5_doubled_5 : decode cX5_doubled 5 = .ok (.istore_n 3, 1) := by decide +kernel
theorem dX5_doubled_6 : decode cX5_doubled 6 = .ok (.iload_n 3, 1) := by decide +kernel
theorem dX5_doubled_7 : decode cX5_doubled 7 = .ok (.aload_n 0, 1) := by decide +kernel
theorem dX5_doubled_8 : decode cX5_doubled 8 = .ok (.getfield 12, 3) := by decide +kernel
theorem dX5_doubled_11 : decode cX5_doubled 11 = .ok (.invokevirtual 147, 3) := by decide +kernel
theorem dX5_doubled_14 : decode cX5_doubled 14 = .ok (.if_icmp .ge 66, 3) := by decide +kernel
theorem dX5_doubled_17 : decode cX5_doubled 17 = .ok (.aload_n 0, 1) := by decide +kernel
theorem dX5_doubled_18 : decode cX5_doubled 18 = .ok (.getfield 12, 3) := by decide +kernel
theorem dX5_doubled_21 : decode cX5_doubled 21 = .ok (.iload_n 3, 1) := by decide +kernel
theorem dX5_doubled_22 : decode cX5_doubled 22 = .ok (.getstatic 192, 3) := by decide +kernel
theorem dX5_doubled_25 : decode cX5_doubled 25 = .ok (.iconst 0, 1) := by decide +kernel
theorem dX5_doubled_26 : decode cX5_doubled 26 = .ok (.iaload, 1) := by decide +kernel
theorem dX5_doubled_27 : decode cX5_doubled 27 = .ok (.invokevirtual 186, 3) := by decide +kernel
theorem dX5_doubled_30 : decode cX5_doubled 30 = .ok (.invokestatic 195, 3) := by decide +kernel
theorem dX5_doubled_33 : decode cX5_doubled 33 = .ok (.istore 4, 2) := by decide +kernel
theorem dX5_doubled_35 : decode cX5_doubled 35 = .ok (.aload_n 0, 1) := by decide +kernel
theorem dX5_doubled_36 : decode cX5_doubled 36 = .ok (.getfield 12, 3) := by decide +kernel
theorem dX5_doubled_39 : decode cX5_doubled 39 = .ok (.iload_n 3, 1) := by decide +kernel
theorem dX5_doubled_40 : decode cX5_doubled 40 = .ok (.iconst 1, 1) := by decide +kernel
theorem dX5_doubled_41 : decode cX5_doubled 41 = .ok (.getstatic 192, 3) := by decide +kernel
theorem dX5_doubled_44 : decode cX5_doubled 44 = .ok (.iconst 0, 1) := by decide +kernel
theorem dX5_doubled_45 : decode cX5_doubled 45 = .ok (.iaload, 1) := by decide +kernel
theorem dX5_doubled_46 : decode cX5_doubled 46 = .ok (.invokestatic 200, 3) := by decide +kernel
theorem dX5_doubled_49 : decode cX5_doubled 49 = .ok (.invokevirtual 203, 3) := by decide +kernel
theorem dX5_doubled_52 : decode cX5_doubled 52 = .ok (.invokestatic 195, 3) := by decide +kernel
theorem dX5_doubled_55 : decode cX5_doubled 55 = .ok (.istore 5, 2) := by decide +kernel
theorem dX5_doubled_57 : decode cX5_doubled 57 = .ok (.iload 5, 2) := by decide +kernel
theorem dX5_doubled_59 : decode cX5_doubled 59 = .ok (.iload 4, 2) := by decide +kernel
theorem dX5_doubled_61 : decode cX5_doubled 61 = .ok (.isub, 1) := by decide +kernel
theorem dX5_doubled_62 : decode cX5_doubled 62 = .ok (.iload_n 2, 1) := by decide +kernel
theorem dX5_doubled_63 : decode cX5_doubled 63 = .ok (.if_icmp .le 11, 3) := by decide +kernel
theorem dX5_doubled_66 : decode cX5_doubled 66 = .ok (.iload_n 3, 1) := by decide +kernel
theorem dX5_doubled_67 : decode cX5_doubled 67 = .ok (.istore_n 1, 1) := by decide +kernel
theorem dX5_doubled_68 : decode cX5_doubled 68 = .ok (.iload 5, 2) := by decide +kernel
theorem dX5_doubled_70 : decode cX5_doubled 70 = .ok (.iload 4, 2) := by decide +kernel
theorem dX5_doubled_72 : decode cX5_doubled 72 = .ok (.isub, 1) := by decide +kernel
theorem dX5_doubled_73 : decode cX5_doubled 73 = .ok (.istore_n 2, 1) := by decide +kernel
theorem dX5_doubled_74 : decode cX5_doubled 74 = .ok (.iinc 3 1, 3) := by decide +kernel
theorem dX5_doubled_77 : decode cX5_doubled 77 = .ok (.goto (-71), 3) := by decide +kernel
theorem dX5_doubled_80 : decode cX5_doubled 80 = .ok (.iload_n 1, 1) := by decide +kernel
theorem dX5_doubled_81 : decode cX5_doubled 81 = .ok (.ireturn, 1) := by decide +kernel
set_option maxRecDepth 20000 in
theorem ggX5_doubt_X5_within : GoodIn wsX5_doubt wsX5_within := goodIn_r _ [9] (by decide +kernel) (by decide +kernel)
set_option maxRecDepth 20000 in
theorem gX5_doubt_X5_within : GoodIn wsX5_doubt (va_wsS RX5 55 yX5_within wsX5_within) := goodIn_app (goodIn_of _ (by decide +kernel)) ggX5_doubt_X5_within
set_option maxRecDepth 20000 in
theorem ggX5_doubt_X5_bad : GoodIn wsX5_doubt wsX5_bad := goodIn_r _ [13, 14, 25, 26, 27, 28, 29, 30, 31, 32, 33, 34, 35] (by decide +kernel) (by decide +kernel)
set_option maxRecDepth 20000 in
theorem gX5_doubt_X5_bad : GoodIn wsX5_doubt (wsV RX5 59 RX5 yX5_bad wsX5_bad) := goodIn_app (goodIn_of _ (by decide +kernel)) ggX5_doubt_X5_bad
set_option maxRecDepth 20000 in
theorem ggX5_doubt_X2_become : GoodIn wsX5_doubt wsX2_become := goodIn_r _ [19, 20, 21, 22, 23, 18, 24, 36, 37] (by decide +kernel) (by decide +kernel)
set_option maxRecDepth 20000 in
theorem gX5_doubt_X2_become : GoodIn wsX5_doubt (wsV RX5 179 RX2 yX2_become wsX2_become) := goodIn_app (goodIn_of _ (by decide +kernel)) ggX5_doubt_X2_become
theorem dX5_doubt_0 : decode cX5_doubt 0 = .ok (.iload_n 1, 1) := by decide +kernel
theorem dX5_doubt_1 : decode cX5_doubt 1 = .ok (.iconst 0, 1) := by decide +kernel
theorem dX5_doubt_2 : decode cX5_doubt 2 = .ok (.bipush 100, 2) := by decide +kernel
theorem dX5_doubt_4 : decode cX5_doubt 4 = .ok (.invokestatic 55, 3) := by decide +kernel
theorem dX5_doubt_7 : decode cX5_doubt 7 = .ok (.ifCond .eq 13, 3) := by decide +kernel
theorem dX5_doubt_10 : decode cX5_doubt 10 = .ok (.iload_n 2, 1) := by decide +kernel
theorem dX5_doubt_11 : decode cX5_doubt 11 = .ok (.iconst 0, 1) := by decide +kernel
theorem dX5_doubt_12 : decode cX5_doubt 12 = .ok (.bipush 100, 2) := by decide +kernel
theorem dX5_doubt_14 : decode cX5_doubt 14 = .ok (.invokestatic 55, 3) := by decide +kernel
theorem dX5_doubt_17 : decode cX5_doubt 17 = .ok (.ifCond .ne 10, 3) := by decide +kernel
theorem dX5_doubt_20 : decode cX5_doubt 20 = .ok (.aload_n 0, 1) := by decide +kernel
theorem dX5_doubt_21 : decode cX5_doubt 21 = .ok (.bipush (-2), 2) := by decide +kernel
theorem dX5_doubt_23 : decode cX5_doubt 23 = .ok (.invokevirtual 59, 3) := by decide +kernel
theorem dX5_doubt_26 : decode cX5_doubt 26 = .ok (.ireturn, 1) := by decide +kernel
theorem dX5_doubt_27 : decode cX5_doubt 27 = .ok (.bipush 100, 2) := by decide +kernel
theorem dX5_doubt_29 : decode cX5_doubt 29 = .ok (.iload_n 1, 1) := by decide +kernel
theorem dX5_doubt_30 : decode cX5_doubt 30 = .ok (.imul, 1) := by decide +kernel
theorem dX5_doubt_31 : decode cX5_doubt 31 = .ok (.bipush 100, 2) := by decide +kernel
theorem dX5_doubt_33 : decode cX5_doubt 33 = .ok (.iload_n 2, 1) := by decide +kernel
theorem dX5_doubt_34 : decode cX5_doubt 34 = .ok (.imul, 1) := by decide +kernel
theorem dX5_doubt_35 : decode cX5_doubt 35 = .ok (.iadd, 1) := by decide +kernel
theorem dX5_doubt_36 : decode cX5_doubt 36 = .ok (.iload_n 1, 1) := by decide +kernel
theorem dX5_doubt_37 : decode cX5_doubt 37 = .ok (.iload_n 2, 1) := by decide +kernel
theorem dX5_doubt_38 : decode cX5_doubt 38 = .ok (.imul, 1) := by decide +kernel
theorem dX5_doubt_39 : decode cX5_doubt 39 = .ok (.isub, 1) := by decide +kernel
theorem dX5_doubt_40 : decode cX5_doubt 40 = .ok (.istore_n 3, 1) := by decide +kernel
theorem dX5_doubt_41 : decode cX5_doubt 41 = .ok (.aload_n 0, 1) := by decide +kernel
theorem dX5_doubt_42 : decode cX5_doubt 42 = .ok (.getfield 51, 3) := by decide +kernel
theorem dX5_doubt_45 : decode cX5_doubt 45 = .ok (.bipush 100, 2) := by decide +kernel
theorem dX5_doubt_47 : decode cX5_doubt 47 = .ok (.iload_n 1, 1) := by decide +kernel
theorem dX5_doubt_48 : decode cX5_doubt 48 = .ok (.imul, 1) := by decide +kernel
theorem dX5_doubt_49 : decode cX5_doubt 49 = .ok (.i2l, 1) := by decide +kernel
theorem dX5_doubt_50 : decode cX5_doubt 50 = .ok (.iconst 1, 1) := by decide +kernel
theorem dX5_doubt_51 : decode cX5_doubt 51 = .ok (.iload_n 3, 1) := by decide +kernel
theorem dX5_doubt_52 : decode cX5_doubt 52 = .ok (.invokestatic 206, 3) := by decide +kernel
theorem dX5_doubt_55 : decode cX5_doubt 55 = .ok (.i2l, 1) := by decide +kernel
theorem dX5_doubt_56 : decode cX5_doubt 56 = .ok (.invokevirtual 179, 3) := by decide +kernel
theorem dX5_doubt_59 : decode cX5_doubt 59 = .ok (.iconst 1, 1) := by decide +kernel
theorem dX5_doubt_60 : decode cX5_doubt 60 = .ok (.ireturn, 1) := by decide +kernel
set_option maxRecDepth 20000 in
theorem ggX5_part_X5_inRow : GoodIn wsX5_part wsX5_inRow := goodIn_r _ [7] (by decide +kernel) (by decide +kernel)
set_option maxRecDepth 20000 in
theorem gX5_part_X5_inRow : GoodIn wsX5_part (va_wsS RX5 75 yX5_inRow wsX5_inRow) := goodIn_app (goodIn_of _ (by decide +kernel)) ggX5_part_X5_inRow
set_option maxRecDepth 20000 in
theorem ggX5_part_X5_bad : GoodIn wsX5_part wsX5_bad := goodIn_r _ [11, 12, 13, 14, 15, 16, 17, 18, 19, 20, 21, 22, 23] (by decide +kernel) (by decide +kernel)
set_option maxRecDepth 20000 in
theorem gX5_part_X5_bad : GoodIn wsX5_part (wsV RX5 59 RX5 yX5_bad wsX5_bad) := goodIn_app (goodIn_of _ (by decide +kernel)) ggX5_part_X5_bad
theorem dX5_part_0 : decode cX5_part 0 = .ok (.iload_n 1, 1) := by decide +kernel
theorem dX5_part_1 : decode cX5_part 1 = .ok (.iconst 2, 1) := by decide +kernel
theorem dX5_part_2 : decode cX5_part 2 = .ok (.invokestatic 75, 3) := by decide +kernel
theorem dX5_part_5 : decode cX5_part 5 = .ok (.ifCond .ne 11, 3) := by decide +kernel
theorem dX5_part_8 : decode cX5_part 8 = .ok (.aload_n 0, 1) := by decide +kernel
theorem dX5_part_9 : decode cX5_part 9 = .ok (.bipush (-2), 2) := by decide +kernel
theorem dX5_part_11 : decode cX5_part 11 = .ok (.invokevirtual 59, 3) := by decide +kernel
theorem dX5_part_14 : decode cX5_part 14 = .ok (.i2l, 1) := by decide +kernel
theorem dX5_part_15 : decode cX5_part 15 = .ok (.lreturn, 1) := by decide +kernel
theorem dX5_part_16 : decode cX5_part 16 = .ok (.iload_n 1, 1) := by decide +kernel
theorem dX5_part_17 : decode cX5_part 17 = .ok (.ifCond .ne 13, 3) := by decide +kernel
theorem dX5_part_20 : decode cX5_part 20 = .ok (.aload_n 0, 1) := by decide +kernel
theorem dX5_part_21 : decode cX5_part 21 = .ok (.getfield 51, 3) := by decide +kernel
theorem dX5_part_24 : decode cX5_part 24 = .ok (.getfield 211, 3) := by decide +kernel
theorem dX5_part_27 : decode cX5_part 27 = .ok (.goto 10, 3) := by decide +kernel
theorem dX5_part_30 : decode cX5_part 30 = .ok (.aload_n 0, 1) := by decide +kernel
theorem dX5_part_31 : decode cX5_part 31 = .ok (.getfield 51, 3) := by decide +kernel
theorem dX5_part_34 : decode cX5_part 34 = .ok (.getfield 215, 3) := by decide +kernel
theorem dX5_part_37 : decode cX5_part 37 = .ok (.lreturn, 1) := by decide +kernel
set_option maxRecDepth 20000 in
theorem ggX5_image_X5_inRow : GoodIn wsX5_image wsX5_inRow := goodIn_r _ [7] (by decide +kernel) (by decide +kernel)
set_option maxRecDepth 20000 in
theorem gX5_image_X5_inRow : GoodIn wsX5_image (va_wsS RX5 75 yX5_inRow wsX5_inRow) := goodIn_app (goodIn_of _ (by decide +kernel)) ggX5_image_X5_inRow
set_option maxRecDepth 20000 in
theorem ggX5_image_X5_bad : GoodIn wsX5_image wsX5_bad := goodIn_r _ [11, 12, 34, 35, 36, 37, 38, 39, 40, 41, 42, 43, 44] (by decide +kernel) (by decide +kernel)
set_option maxRecDepth 20000 in
theorem gX5_image_X5_bad : GoodIn wsX5_image (wsV RX5 59 RX5 yX5_bad wsX5_bad) := goodIn_app (goodIn_of _ (by decide +kernel)) ggX5_image_X5_bad
set_option maxRecDepth 20000 in
theorem ggX5_image_X0_takeFrom : GoodIn wsX5_image wsX0_takeFrom := goodIn_r _ [17, 18, 19, 20, 21, 22, 23, 24, 25, 26, 27, 28, 29, 30, 31, 32, 33, 45, 46, 47, 48, 49, 50, 51, 52, 53, 54, 55, 56] (by decide +kernel) (by decide +kernel)
set_option maxRecDepth 20000 in
theorem gX5_image_X0_takeFrom : GoodIn wsX5_image (wsV RX5 133 RX0 yX0_takeFrom wsX0_takeFrom) := goodIn_app (goodIn_of _ (by decide +kernel)) ggX5_image_X0_takeFrom
theorem dX5_image_0 : decode cX5_image 0 = .ok (.iload_n 1, 1) := by decide +kernel
theorem dX5_image_1 : decode cX5_image 1 = .ok (.iconst 2, 1) := by decide +kernel
theorem dX5_image_2 : decode cX5_image 2 = .ok (.invokestatic 75, 3) := by decide +kernel
theorem dX5_image_5 : decode cX5_image 5 = .ok (.ifCond .ne 10, 3) := by decide +kernel
theorem dX5_image_8 : decode cX5_image 8 = .ok (.aload_n 0, 1) := by decide +kernel
theorem dX5_image_9 : decode cX5_image 9 = .ok (.bipush (-2), 2) := by decide +kernel
theorem dX5_image_11 : decode cX5_image 11 = .ok (.invokevirtual 59, 3) := by decide +kernel
theorem dX5_image_14 : decode cX5_image 14 = .ok (.ireturn, 1) := by decide +kernel
theorem dX5_image_15 : decode cX5_image 15 = .ok (.aload_n 0, 1) := by decide +kernel
theorem dX5_image_16 : decode cX5_image 16 = .ok (.getfield 19, 3) := by decide +kernel
theorem dX5_image_19 : decode cX5_image 19 = .ok (.iload_n 1, 1) := by decide +kernel
theorem dX5_image_20 : decode cX5_image 20 = .ok (.aaload, 1) := by decide +kernel
theorem dX5_image_21 : decode cX5_image 21 = .ok (.aload_n 0, 1) := by decide +kernel
theorem dX5_image_22 : decode cX5_image 22 = .ok (.getfield 12, 3) := by decide +kernel
theorem dX5_image_25 : decode cX5_image 25 = .ok (.invokevirtual 133, 3) := by decide +kernel
theorem dX5_image_28 : decode cX5_image 28 = .ok (.aload_n 0, 1) := by decide +kernel
theorem dX5_image_29 : decode cX5_image 29 = .ok (.getfield 23, 3) := by decide +kernel
theorem dX5_image_32 : decode cX5_image 32 = .ok (.iload_n 1, 1) := by decide +kernel
theorem dX5_image_33 : decode cX5_image 33 = .ok (.iconst 1, 1) := by decide +kernel
theorem dX5_image_34 : decode cX5_image 34 = .ok (.bastore, 1) := by decide +kernel
theorem dX5_image_35 : decode cX5_image 35 = .ok (.iconst 1, 1) := by decide +kernel
theorem dX5_image_36 : decode cX5_image 36 = .ok (.ireturn, 1) := by decide +kernel
set_option maxRecDepth 20000 in
theorem ggX5_from_X5_inRow : GoodIn wsX5_from wsX5_inRow := goodIn_r _ [7] (by decide +kernel) (by decide +kernel)
set_option maxRecDepth 20000 in
theorem gX5_from_X5_inRow : GoodIn wsX5_from (va_wsS RX5 75 yX5_inRow wsX5_inRow) := goodIn_app (goodIn_of _ (by decide +kernel)) ggX5_from_X5_inRow
set_option maxRecDepth 20000 in
theorem ggX5_from_X5_bad : GoodIn wsX5_from wsX5_bad := goodIn_r _ [11, 12, 39, 40, 41, 42, 43, 44, 45, 46, 47, 48, 49] (by decide +kernel) (by decide +kernel)
set_option maxRecDepth 20000 in
theorem gX5_from_X5_bad : GoodIn wsX5_from (wsV RX5 59 RX5 yX5_bad wsX5_bad) := goodIn_app (goodIn_of _ (by decide +kernel)) ggX5_from_X5_bad
set_option maxRecDepth 20000 in
theorem ggX5_from_X5_no : GoodIn wsX5_from wsX5_no := goodIn_r _ [16, 17, 39, 40, 41, 42, 43, 44, 45, 46, 47, 48, 49] (by decide +kernel) (by decide +kernel)
set_option maxRecDepth 20000 in
theorem gX5_from_X5_no : GoodIn wsX5_from (wsV RX5 99 RX5 yX5_no wsX5_no) := goodIn_app (goodIn_of _ (by decide +kernel)) ggX5_from_X5_no
set_option maxRecDepth 20000 in
theorem ggX5_from_X0_takeFrom : GoodIn wsX5_from wsX0_takeFrom := goodIn_r _ [22, 23, 24, 25, 26, 27, 28, 29, 30, 31, 32, 33, 34, 35, 36, 37, 38, 50, 51, 52, 53, 54, 55, 56, 57, 58, 59, 60, 61] (by decide +kernel) (by decide +kernel)
set_option maxRecDepth 20000 in
theorem gX5_from_X0_takeFrom : GoodIn wsX5_from (wsV RX5 133 RX0 yX0_takeFrom wsX0_takeFrom) := goodIn_app (goodIn_of _ (by decide +kernel)) ggX5_from_X0_takeFrom
theorem dX5_from_0 : decode cX5_from 0 = .ok (.iload_n 1, 1) := by decide +kernel
theorem dX5_from_1 : decode cX5_from 1 = .ok (.iconst 2, 1) := by decide +kernel
theorem dX5_from_2 : decode cX5_from 2 = .ok (.invokestatic 75, 3) := by decide +kernel
theorem dX5_from_5 : decode cX5_from 5 = .ok (.ifCond .ne 10, 3) := by decide +kernel
theorem dX5_from_8 : decode cX5_from 8 = .ok (.aload_n 0, 1) := by decide +kernel
theorem dX5_from_9 : decode cX5_from 9 = .ok (.bipush (-2), 2) := by decide +kernel
theorem dX5_from_11 : decode cX5_from 11 = .ok (.invokevirtual 59, 3) := by decide +kernel
theorem dX5_from_14 : decode cX5_from 14 = .ok (.ireturn, 1) := by decide +kernel
theorem dX5_from_15 : decode cX5_from 15 = .ok (.aload_n 0, 1) := by decide +kernel
theorem dX5_from_16 : decode cX5_from 16 = .ok (.getfield 23, 3) := by decide +kernel
theorem dX5_from_19 : decode cX5_from 19 = .ok (.iload_n 1, 1) := by decide +kernel
theorem dX5_from_20 : decode cX5_from 20 = .ok (.baload, 1) := by decide +kernel
theorem dX5_from_21 : decode cX5_from 21 = .ok (.ifCond .ne 8, 3) := by decide +kernel
theorem dX5_from_24 : decode cX5_from 24 = .ok (.aload_n 0, 1) := by decide +kernel
theorem dX5_from_25 : decode cX5_from 25 = .ok (.invokevirtual 99, 3) := by decide +kernel
theorem dX5_from_28 : decode cX5_from 28 = .ok (.ireturn, 1) := by decide +kernel
theorem dX5_from_29 : decode cX5_from 29 = .ok (.aload_n 0, 1) := by decide +kernel
theorem dX5_from_30 : decode cX5_from 30 = .ok (.getfield 12, 3) := by decide +kernel
theorem dX5_from_33 : decode cX5_from 33 = .ok (.aload_n 0, 1) := by decide +kernel
theorem dX5_from_34 : decode cX5_from 34 = .ok (.getfield 19, 3) := by decide +kernel
theorem dX5_from_37 : decode cX5_from 37 = .ok (.iload_n 1, 1) := by decide +kernel
theorem dX5_from_38 : decode cX5_from 38 = .ok (.aaload, 1) := by decide +kernel
theorem dX5_from_39 : decode cX5_from 39 = .ok (.invokevirtual 133, 3) := by decide +kernel
theorem dX5_from_42 : decode cX5_from 42 = .ok (.iconst 1, 1) := by decide +kernel
theorem dX5_from_43 : decode cX5_from 43 = .ok (.ireturn, 1) := by decide +kernel
set_option maxRecDepth 20000 in
theorem ggX5_status_X5_bad : GoodIn wsX5_status wsX5_bad := goodIn_r _ [8, 1, 9, 10, 11, 12, 13, 14, 15, 16, 17, 18, 19] (by decide +kernel) (by decide +kernel)
set_option maxRecDepth 20000 in
theorem gX5_status_X5_bad : GoodIn wsX5_status (wsV RX5 59 RX5 yX5_bad wsX5_bad) := goodIn_app (goodIn_of _ (by decide +kernel)) ggX5_status_X5_bad
theorem dX5_status_0 : decode cX5_status 0 = .ok (.iload_n 1, 1) := by decide +kernel
theorem dX5_status_1 : decode cX5_status 1 = .ok (.tableswitch 42 0 2 #[27, 32, 37], 27) := by decide +kernel
theorem dX5_status_28 : decode cX5_status 28 = .ok (.aload_n 0, 1) := by decide +kernel
theorem dX5_status_29 : decode cX5_status 29 = .ok (.getfield 218, 3) := by decide +kernel
theorem dX5_status_32 : decode cX5_status 32 = .ok (.ireturn, 1) := by decide +kernel
theorem dX5_status_33 : decode cX5_status 33 = .ok (.aload_n 0, 1) := by decide +kernel
theorem dX5_status_34 : decode cX5_status 34 = .ok (.getfield 221, 3) := by decide +kernel
theorem dX5_status_37 : decode cX5_status 37 = .ok (.ireturn, 1) := by decide +kernel
theorem dX5_status_38 : decode cX5_status 38 = .ok (.aload_n 0, 1) := by decide +kernel
theorem dX5_status_39 : decode cX5_status 39 = .ok (.getfield 224, 3) := by decide +kernel
theorem dX5_status_42 : decode cX5_status 42 = .ok (.ireturn, 1) := by decide +kernel
theorem dX5_status_43 : decode cX5_status 43 = .ok (.aload_n 0, 1) := by decide +kernel
theorem dX5_status_44 : decode cX5_status 44 = .ok (.iconst (-1), 1) := by decide +kernel
theorem dX5_status_45 : decode cX5_status 45 = .ok (.invokevirtual 59, 3) := by decide +kernel
theorem dX5_status_48 : decode cX5_status 48 = .ok (.ireturn, 1) := by decide +kernel
set_option maxRecDepth 20000 in
theorem ggX5_count_J6_bitCount_0f7a4 : GoodIn wsX5_count wsJ6_bitCount_0f7a4 := goodIn_r _ [12, 13, 14, 15] (by decide +kernel) (by decide +kernel)
set_option maxRecDepth 20000 in
theorem gX5_count_J6_bitCount_0f7a4 : GoodIn wsX5_count (va_wsS RX5 195 yJ6_bitCount_0f7a4 wsJ6_bitCount_0f7a4) := goodIn_app (goodIn_of _ (by decide +kernel)) ggX5_count_J6_bitCount_0f7a4
set_option maxRecDepth 20000 in
theorem ggX5_count_X5_bad : GoodIn wsX5_count wsX5_bad := goodIn_r _ [20, 21, 22, 23, 24, 25, 26, 27, 28, 29, 30, 31, 32] (by decide +kernel) (by decide +kernel)
set_option maxRecDepth 20000 in
theorem gX5_count_X5_bad : GoodIn wsX5_count (wsV RX5 59 RX5 yX5_bad wsX5_bad) := goodIn_app (goodIn_of _ (by decide +kernel)) ggX5_count_X5_bad
theorem dX5_count_0 : decode cX5_count 0 = .ok (.iload_n 1, 1) := by decide +kernel
theorem dX5_count_1 : decode cX5_count 1 = .ok (.tableswitch 90 0 5 #[39, 47, 58, 66, 74, 82], 39) := by decide +kernel
theorem dX5_count_40 : decode cX5_count 40 = .ok (.aload_n 0, 1) := by decide +kernel
theorem dX5_count_41 : decode cX5_count 41 = .ok (.getfield 12, 3) := by decide +kernel
theorem dX5_count_44 : decode cX5_count 44 = .ok (.getfield 63, 3) := by decide +kernel
theorem dX5_count_47 : decode cX5_count 47 = .ok (.ireturn, 1) := by decide +kernel
theorem dX5_count_48 : decode cX5_count 48 = .ok (.aload_n 0, 1) := by decide +kernel
theorem dX5_count_49 : decode cX5_count 49 = .ok (.getfield 12, 3) := by decide +kernel
theorem dX5_count_52 : decode cX5_count 52 = .ok (.getfield 103, 3) := by decide +kernel
theorem dX5_count_55 : decode cX5_count 55 = .ok (.invokestatic 195, 3) := by decide +kernel
theorem dX5_count_58 : decode cX5_count 58 = .ok (.ireturn, 1) := by decide +kernel
theorem dX5_count_59 : decode cX5_count 59 = .ok (.aload_n 0, 1) := by decide +kernel
theorem dX5_count_60 : decode cX5_count 60 = .ok (.getfield 12, 3) := by decide +kernel
theorem dX5_count_63 : decode cX5_count 63 = .ok (.getfield 106, 3) := by decide +kernel
theorem dX5_count_66 : decode cX5_count 66 = .ok (.ireturn, 1) := by decide +kernel
theorem dX5_count_67 : decode cX5_count 67 = .ok (.aload_n 0, 1) := by decide +kernel
theorem dX5_count_68 : decode cX5_count 68 = .ok (.getfield 12, 3) := by decide +kernel
theorem dX5_count_71 : decode cX5_count 71 = .ok (.getfield 116, 3) := by decide +kernel
theorem dX5_count_74 : decode cX5_count 74 = .ok (.ireturn, 1) := by decide +kernel
theorem dX5_count_75 : decode cX5_count 75 = .ok (.aload_n 0, 1) := by decide +kernel
theorem dX5_count_76 : decode cX5_count 76 = .ok (.getfield 30, 3) := by decide +kernel
theorem dX5_count_79 : decode cX5_count 79 = .ok (.getfield 122, 3) := by decide +kernel
theorem dX5_count_82 : decode cX5_count 82 = .ok (.ireturn, 1) := by decide +kernel
theorem dX5_count_83 : decode cX5_count 83 = .ok (.aload_n 0, 1) := by decide +kernel
theorem dX5_count_84 : decode cX5_count 84 = .ok (.getfield 12, 3) := by decide +kernel
theorem dX5_count_87 : decode cX5_count 87 = .ok (.getfield 90, 3) := by decide +kernel
theorem dX5_count_90 : decode cX5_count 90 = .ok (.ireturn, 1) := by decide +kernel
theorem dX5_count_91 : decode cX5_count 91 = .ok (.aload_n 0, 1) := by decide +kernel
theorem dX5_count_92 : decode cX5_count 92 = .ok (.bipush (-2), 2) := by decide +kernel
theorem dX5_count_94 : decode cX5_count 94 = .ok (.invokevirtual 59, 3) := by decide +kernel
theorem dX5_count_97 : decode cX5_count 97 = .ok (.ireturn, 1) := by decide +kernel
set_option maxRecDepth 20000 in
theorem ggX5_digest_X5_count : GoodIn wsX5_digest wsX5_count := goodIn_r _ [11, 3, 12, 13, 14, 15, 16, 17, 18, 19, 20, 21, 22, 23, 24, 25, 26, 27, 28, 10, 29, 30, 52, 53, 54, 55, 56, 57, 58, 59, 60, 61, 62, 65, 66, 67, 68, 69, 70, 71, 72, 73, 74, 75, 76, 77, 78, 79, 80, 81] (by decide +kernel) (by decide +kernel)
set_option maxRecDepth 20000 in
theorem gX5_digest_X5_count : GoodIn wsX5_digest (wsV RX5 231 RX5 yX5_count wsX5_count) := goodIn_app (goodIn_of _ (by decide +kernel)) ggX5_digest_X5_count
set_option maxRecDepth 20000 in
theorem ggX5_digest_X0_digestOn : GoodIn wsX5_digest wsX0_digestOn := goodIn_r _ [35, 36, 37, 38, 39, 40, 41, 42, 43, 44, 45, 46, 47, 48, 49, 34, 50, 51, 65, 66, 67, 68, 69, 70, 71, 72, 73, 74, 75, 76] (by decide +kernel) (by decide +kernel)
set_option maxRecDepth 20000 in
theorem gX5_digest_X0_digestOn : GoodIn wsX5_digest (wsV RX5 234 RX0 yX0_digestOn wsX0_digestOn) := goodIn_app (goodIn_of _ (by decide +kernel)) ggX5_digest_X0_digestOn
theorem dX5_digest_0 : decode cX5_digest 0 = .ok (.ldc2_w 227, 3) := by decide +kernel
theorem dX5_digest_3 : decode cX5_digest 3 = .ok (.lstore_n 1, 1) := by decide +kernel
theorem dX5_digest_4 : decode cX5_digest 4 = .ok (.iconst 0, 1) := by decide +kernel
theorem dX5_digest_5 : decode cX5_digest 5 = .ok (.istore_n 3, 1) := by decide +kernel
theorem dX5_digest_6 : decode cX5_digest 6 = .ok (.iload_n 3, 1) := by decide +kernel
theorem dX5_digest_7 : decode cX5_digest 7 = .ok (.iconst 5, 1) := by decide +kernel
theorem dX5_digest_8 : decode cX5_digest 8 = .ok (.if_icmp .gt 22, 3) := by decide +kernel
theorem dX5_digest_11 : decode cX5_digest 11 = .ok (.ldc2_w 229, 3) := by decide +kernel
theorem dX5_digest_14 : decode cX5_digest 14 = .ok (.lload_n 1, 1) := by decide +kernel
theorem dX5_digest_15 : decode cX5_digest 15 = .ok (.lmul, 1) := by decide +kernel
theorem dX5_digest_16 : decode cX5_digest 16 = .ok (.aload_n 0, 1) := by decide +kernel
theorem dX5_digest_17 : decode cX5_digest 17 = .ok (.iload_n 3, 1) := by decide +kernel
theorem dX5_digest_18 : decode cX5_digest 18 = .ok (.invokevirtual 231, 3) := by decide +kernel
theorem dX5_digest_21 : decode cX5_digest 21 = .ok (.i2l, 1) := by decide +kernel
theorem dX5_digest_22 : decode cX5_digest 22 = .ok (.ladd, 1) := by decide +kernel
theorem dX5_digest_23 : decode cX5_digest 23 = .ok (.lstore_n 1, 1) := by decide +kernel
theorem dX5_digest_24 : decode cX5_digest 24 = .ok (.iinc 3 1, 3) := by decide +kernel
theorem dX5_digest_27 : decode cX5_digest 27 = .ok (.goto (-21), 3) := by decide +kernel
theorem dX5_digest_30 : decode cX5_digest 30 = .ok (.aload_n 0, 1) := by decide +kernel
theorem dX5_digest_31 : decode cX5_digest 31 = .ok (.getfield 12, 3) := by decide +kernel
theorem dX5_digest_34 : decode cX5_digest 34 = .ok (.lload_n 1, 1) := by decide +kernel
theorem dX5_digest_35 : decode cX5_digest 35 = .ok (.invokevirtual 234, 3) := by decide +kernel
theorem dX5_digest_38 : decode cX5_digest 38 = .ok (.lstore_n 1, 1) := by decide +kernel
theorem dX5_digest_39 : decode cX5_digest 39 = .ok (.ldc2_w 229, 3) := by decide +kernel
theorem dX5_digest_42 : decode cX5_digest 42 = .ok (.lload_n 1, 1) := by decide +kernel
theorem dX5_digest_43 : decode cX5_digest 43 = .ok (.lmul, 1) := by decide +kernel
theorem dX5_digest_44 : decode cX5_digest 44 = .ok (.aload_n 0, 1) := by decide +kernel
theorem dX5_digest_45 : decode cX5_digest 45 = .ok (.getfield 51, 3) := by decide +kernel
theorem dX5_digest_48 : decode cX5_digest 48 = .ok (.getfield 211, 3) := by decide +kernel
theorem dX5_digest_51 : decode cX5_digest 51 = .ok (.ladd, 1) := by decide +kernel
theorem dX5_digest_52 : decode cX5_digest 52 = .ok (.lstore_n 1, 1) := by decide +kernel
theorem dX5_digest_53 : decode cX5_digest 53 = .ok (.ldc2_w 229, 3) := by decide +kernel
theorem dX5_digest_56 : decode cX5_digest 56 = .ok (.lload_n 1, 1) := by decide +kernel
theorem dX5_digest_57 : decode cX5_digest 57 = .ok (.lmul, 1) := by decide +kernel
theorem dX5_digest_58 : decode cX5_digest 58 = .ok (.aload_n 0, 1) := by decide +kernel
theorem dX5_digest_59 : decode cX5_digest 59 = .ok (.getfield 51, 3) := by decide +kernel
theorem dX5_digest_62 : decode cX5_digest 62 = .ok (.getfield 215, 3) := by decide +kernel
theorem dX5_digest_65 : decode cX5_digest 65 = .ok (.ladd, 1) := by decide +kernel
theorem dX5_digest_66 : decode cX5_digest 66 = .ok (.lreturn, 1) := by decide +kernel
theorem dX5_bad_0 : decode cX5_bad 0 = .ok (.aload_n 0, 1) := by decide +kernel
theorem dX5_bad_1 : decode cX5_bad 1 = .ok (.dup, 1) := by decide +kernel
theorem dX5_bad_2 : decode cX5_bad 2 = .ok (.getfield 218, 3) := by decide +kernel
theorem dX5_bad_5 : decode cX5_bad 5 = .ok (.iconst 1, 1) := by decide +kernel
theorem dX5_bad_6 : decode cX5_bad 6 = .ok (.iadd, 1) := by decide +kernel
theorem dX5_bad_7 : decode cX5_bad 7 = .ok (.putfield 218, 3) := by decide +kernel
theorem dX5_bad_10 : decode cX5_bad 10 = .ok (.iload_n 1, 1) := by decide +kernel
theorem dX5_bad_11 : decode cX5_bad 11 = .ok (.ireturn, 1) := by decide +kernel
theorem dX5_no_0 : decode cX5_no 0 = .ok (.aload_n 0, 1) := by decide +kernel
theorem dX5_no_1 : decode cX5_no 1 = .ok (.dup, 1) := by decide +kernel
theorem dX5_no_2 : decode cX5_no 2 = .ok (.getfield 221, 3) := by decide +kernel
theorem dX5_no_5 : decode cX5_no 5 = .ok (.iconst 1, 1) := by decide +kernel
theorem dX5_no_6 : decode cX5_no 6 = .ok (.iadd, 1) := by decide +kernel
theorem dX5_no_7 : decode cX5_no 7 = .ok (.putfield 221, 3) := by decide +kernel
theorem dX5_no_10 : decode cX5_no 10 = .ok (.bipush (-3), 2) := by decide +kernel
theorem dX5_no_12 : decode cX5_no 12 = .ok (.ireturn, 1) := by decide +kernel
theorem dX5_full_0 : decode cX5_full 0 = .ok (.aload_n 0, 1) := by decide +kernel
theorem dX5_full_1 : decode cX5_full 1 = .ok (.dup, 1) := by decide +kernel
theorem dX5_full_2 : decode cX5_full 2 = .ok (.getfield 224, 3) := by decide +kernel
theorem dX5_full_5 : decode cX5_full 5 = .ok (.iconst 1, 1) := by decide +kernel
theorem dX5_full_6 : decode cX5_full 6 = .ok (.iadd, 1) := by decide +kernel
theorem dX5_full_7 : decode cX5_full 7 = .ok (.putfield 224, 3) := by decide +kernel
theorem dX5_full_10 : decode cX5_full 10 = .ok (.bipush (-4), 2) := by decide +kernel
theorem dX5_full_12 : decode cX5_full 12 = .ok (.ireturn, 1) := by decide +kernel
set_option maxRecDepth 20000 in
theorem ggX5_deafLots_X0_reach : GoodIn wsX5_deafLots wsX0_reach := goodIn_r _ [8, 9, 10, 11, 7, 12, 13, 14, 15, 16, 17, 18, 19, 20, 21, 22, 23, 24, 25, 26, 27, 28, 50, 51, 52, 53, 54, 55, 56, 57, 58, 59, 60, 61] (by decide +kernel) (by decide +kernel)
set_option maxRecDepth 20000 in
theorem gX5_deafLots_X0_reach : GoodIn wsX5_deafLots (wsV RX5 186 RX0 yX0_reach wsX0_reach) := goodIn_app (goodIn_of _ (by decide +kernel)) ggX5_deafLots_X0_reach
set_option maxRecDepth 20000 in
theorem ggX5_deafLots_J6_bitCount_0f7a4 : GoodIn wsX5_deafLots wsJ6_bitCount_0f7a4 := goodIn_r _ [32, 33, 34, 35] (by decide +kernel) (by decide +kernel)
set_option maxRecDepth 20000 in
theorem gX5_deafLots_J6_bitCount_0f7a4 : GoodIn wsX5_deafLots (va_wsS RX5 195 yJ6_bitCount_0f7a4 wsJ6_bitCount_0f7a4) := goodIn_app (goodIn_of _ (by decide +kernel)) ggX5_deafLots_J6_bitCount_0f7a4
set_option maxRecDepth 20000 in
theorem ggX5_deafLots_X5_choose : GoodIn wsX5_deafLots wsX5_choose := goodIn_r _ [38] (by decide +kernel) (by decide +kernel)
set_option maxRecDepth 20000 in
theorem gX5_deafLots_X5_choose : GoodIn wsX5_deafLots (va_wsS RX5 176 yX5_choose wsX5_choose) := goodIn_app (goodIn_of _ (by decide +kernel)) ggX5_deafLots_X5_choose
theorem dX5_deafLots_0 : decode cX5_deafLots 0 = .ok (.aload_n 0, 1) := by decide +kernel
theorem dX5_deafLots_1 : decode cX5_deafLots 1 = .ok (.getfield 12, 3) := by decide +kernel
theorem dX5_deafLots_4 : decode cX5_deafLots 4 = .ok (.iload_n 2, 1) := by decide +kernel
theorem dX5_deafLots_5 : decode cX5_deafLots 5 = .ok (.getstatic 192, 3) := by decide +kernel
theorem dX5_deafLots_8 : decode cX5_deafLots 8 = .ok (.iload_n 3, 1) := by decide +kernel
theorem dX5_deafLots_9 : decode cX5_deafLots 9 = .ok (.iaload, 1) := by decide +kernel
theorem dX5_deafLots_10 : decode cX5_deafLots 10 = .ok (.invokevirtual 186, 3) := by decide +kernel
theorem dX5_deafLots_13 : decode cX5_deafLots 13 = .ok (.invokestatic 195, 3) := by decide +kernel
theorem dX5_deafLots_16 : decode cX5_deafLots 16 = .ok (.istore 4, 2) := by decide +kernel
theorem dX5_deafLots_18 : decode cX5_deafLots 18 = .ok (.aload_n 0, 1) := by decide +kernel
theorem dX5_deafLots_19 : decode cX5_deafLots 19 = .ok (.getfield 12, 3) := by decide +kernel
theorem dX5_deafLots_22 : decode cX5_deafLots 22 = .ok (.getfield 63, 3) := by decide +kernel
theorem dX5_deafLots_25 : decode cX5_deafLots 25 = .ok (.iload 4, 2) := by decide +kernel
theorem dX5_deafLots_27 : decode cX5_deafLots 27 = .ok (.isub, 1) := by decide +kernel
theorem dX5_deafLots_28 : decode cX5_deafLots 28 = .ok (.iload_n 1, 1) := by decide +kernel
theorem dX5_deafLots_29 : decode cX5_deafLots 29 = .ok (.invokestatic 176, 3) := by decide +kernel
theorem dX5_deafLots_32 : decode cX5_deafLots 32 = .ok (.ireturn, 1) := by decide +kernel
theorem dX5_choose_0 : decode cX5_choose 0 = .ok (.iload_n 1, 1) := by decide +kernel
theorem dX5_choose_1 : decode cX5_choose 1 = .ok (.iload_n 0, 1) := by decide +kernel
theorem dX5_choose_2 : decode cX5_choose 2 = .ok (.if_icmp .le 5, 3) := by decide +kernel
theorem dX5_choose_5 : decode cX5_choose 5 = .ok (.iconst 0, 1) := by decide +kernel
theorem dX5_choose_6 : decode cX5_choose 6 = .ok (.ireturn, 1) := by decide +kernel
theorem dX5_choose_7 : decode cX5_choose 7 = .ok (.iconst 1, 1) := by decide +kernel
theorem dX5_choose_8 : decode cX5_choose 8 = .ok (.istore_n 2, 1) := by decide +kernel
theorem dX5_choose_9 : decode cX5_choose 9 = .ok (.iconst 1, 1) := by decide +kernel
theorem dX5_choose_10 : decode cX5_choose 10 = .ok (.istore_n 3, 1) := by decide +kernel
theorem dX5_choose_11 : decode cX5_choose 11 = .ok (.iload_n 3, 1) := by decide +kernel
theorem dX5_choose_12 : decode cX5_choose 12 = .ok (.iload_n 1, 1) := by decide +kernel
theorem dX5_choose_13 : decode cX5_choose 13 = .ok (.if_icmp .gt 19, 3) := by decide +kernel
theorem dX5_choose_16 : decode cX5_choose 16 = .ok (.iload_n 2, 1) := by decide +kernel
theorem dX5_choose_17 : decode cX5_choose 17 = .ok (.iload_n 0, 1) := by decide +kernel
theorem dX5_choose_18 : decode cX5_choose 18 = .ok (.iload_n 1, 1) := by decide +kernel
theorem dX5_choose_19 : decode cX5_choose 19 = .ok (.isub, 1) := by decide +kernel
theorem dX5_choose_20 : decode cX5_choose 20 = .ok (.iload_n 3, 1) := by decide +kernel
theorem dX5_choose_21 : decode cX5_choose 21 = .ok (.iadd, 1) := by decide +kernel
theorem dX5_choose_22 : decode cX5_choose 22 = .ok (.imul, 1) := by decide +kernel
theorem dX5_choose_23 : decode cX5_choose 23 = .ok (.iload_n 3, 1) := by decide +kernel
theorem dX5_choose_24 : decode cX5_choose 24 = .ok (.idiv, 1) := by decide +kernel
theorem dX5_choose_25 : decode cX5_choose 25 = .ok (.istore_n 2, 1) := by decide +kernel
theorem dX5_choose_26 : decode cX5_choose 26 = .ok (.iinc 3 1, 3) := by decide +kernel
theorem dX5_choose_29 : decode cX5_choose 29 = .ok (.goto (-18), 3) := by decide +kernel
theorem dX5_choose_32 : decode cX5_choose 32 = .ok (.iload_n 2, 1) := by decide +kernel
theorem dX5_choose_33 : decode cX5_choose 33 = .ok (.ireturn, 1) := by decide +kernel
theorem dX5_within_0 : decode cX5_within 0 = .ok (.iload_n 0, 1) := by decide +kernel
theorem dX5_within_1 : decode cX5_within 1 = .ok (.iload_n 1, 1) := by decide +kernel
theorem dX5_within_2 : decode cX5_within 2 = .ok (.if_icmp .lt 12, 3) := by decide +kernel
theorem dX5_within_5 : decode cX5_within 5 = .ok (.iload_n 0, 1) := by decide +kernel
theorem dX5_within_6 : decode cX5_within 6 = .ok (.iload_n 2, 1) := by decide +kernel
theorem dX5_within_7 : decode cX5_within 7 = .ok (.if_icmp .gt 7, 3) := by decide +kernel
theorem dX5_within_10 : decode cX5_within 10 = .ok (.iconst 1, 1) := by decide +kernel
theorem dX5_within_11 : decode cX5_within 11 = .ok (.goto 4, 3) := by decide +kernel
theorem dX5_within_14 : decode cX5_within 14 = .ok (.iconst 0, 1) := by decide +kernel
theorem dX5_within_15 : decode cX5_within 15 = .ok (.ireturn, 1) := by decide +kernel
theorem dX5_inRow_0 : decode cX5_inRow 0 = .ok (.iload_n 0, 1) := by decide +kernel
theorem dX5_inRow_1 : decode cX5_inRow 1 = .ok (.ifCond .lt 12, 3) := by decide +kernel
theorem dX5_inRow_4 : decode cX5_inRow 4 = .ok (.iload_n 0, 1) := by decide +kernel
theorem dX5_inRow_5 : decode cX5_inRow 5 = .ok (.iload_n 1, 1) := by decide +kernel
theorem dX5_inRow_6 : decode cX5_inRow 6 = .ok (.if_icmp .ge 7, 3) := by decide +kernel
theorem dX5_inRow_9 : decode cX5_inRow 9 = .ok (.iconst 1, 1) := by decide +kernel
theorem dX5_inRow_10 : decode cX5_inRow 10 = .ok (.goto 4, 3) := by decide +kernel
theorem dX5_inRow_13 : decode cX5_inRow 13 = .ok (.iconst 0, 1) := by decide +kernel
theorem dX5_inRow_14 : decode cX5_inRow 14 = .ok (.ireturn, 1) := by decide +kernel
theorem dX5_has_0 : decode cX5_has 0 = .ok (.iload_n 0, 1) := by decide +kernel
theorem dX5_has_1 : decode cX5_has 1 = .ok (.iload_n 1, 1) := by decide +kernel
theorem dX5_has_2 : decode cX5_has 2 = .ok (.ishr, 1) := by decide +kernel
theorem dX5_has_3 : decode cX5_has 3 = .ok (.iconst 1, 1) := by decide +kernel
theorem dX5_has_4 : decode cX5_has 4 = .ok (.iand, 1) := by decide +kernel
theorem dX5_has_5 : decode cX5_has 5 = .ok (.ifCond .eq 7, 3) := by decide +kernel
theorem dX5_has_8 : decode cX5_has 8 = .ok (.iconst 1, 1) := by decide +kernel
theorem dX5_has_9 : decode cX5_has 9 = .ok (.goto 4, 3) := by decide +kernel
theorem dX5_has_12 : decode cX5_has 12 = .ok (.iconst 0, 1) := by decide +kernel
theorem dX5_has_13 : decode cX5_has 13 = .ok (.ireturn, 1) := by decide +kernel
theorem dX5_loudBy_0 : decode cX5_loudBy 0 = .ok (.iload_n 0, 1) := by decide +kernel
theorem dX5_loudBy_1 : decode cX5_loudBy 1 = .ok (.tableswitch 41 1 4 #[31, 35, 35, 39], 31) := by decide +kernel
theorem dX5_loudBy_32 : decode cX5_loudBy 32 = .ok (.iload_n 1, 1) := by decide +kernel
theorem dX5_loudBy_33 : decode cX5_loudBy 33 = .ok (.iconst 2, 1) := by decide +kernel
theorem dX5_loudBy_34 : decode cX5_loudBy 34 = .ok (.iadd, 1) := by decide +kernel
theorem dX5_loudBy_35 : decode cX5_loudBy 35 = .ok (.ireturn, 1) := by decide +kernel
theorem dX5_loudBy_36 : decode cX5_loudBy 36 = .ok (.iload_n 1, 1) := by decide +kernel
theorem dX5_loudBy_37 : decode cX5_loudBy 37 = .ok (.iconst 1, 1) := by decide +kernel
theorem dX5_loudBy_38 : decode cX5_loudBy 38 = .ok (.isub, 1) := by decide +kernel
theorem dX5_loudBy_39 : decode cX5_loudBy 39 = .ok (.ireturn, 1) := by decide +kernel
theorem dX5_loudBy_40 : decode cX5_loudBy 40 = .ok (.iconst 0, 1) := by decide +kernel
theorem dX5_loudBy_41 : decode cX5_loudBy 41 = .ok (.ireturn, 1) := by decide +kernel
theorem dX5_loudBy_42 : decode cX5_loudBy 42 = .ok (.iload_n 1, 1) := by decide +kernel
theorem dX5_loudBy_43 : decode cX5_loudBy 43 = .ok (.ireturn, 1) := by decide +kernel
theorem dX5_noteBy_0 : decode cX5_noteBy 0 = .ok (.iload_n 0, 1) := by decide +kernel
theorem dX5_noteBy_1 : decode cX5_noteBy 1 = .ok (.lookupswitch 49 #[(2, 27), (3, 39)], 27) := by decide +kernel
theorem dX5_noteBy_28 : decode cX5_noteBy 28 = .ok (.iload_n 1, 1) := by decide +kernel
theorem dX5_noteBy_29 : decode cX5_noteBy 29 = .ok (.iload_n 2, 1) := by decide +kernel
theorem dX5_noteBy_30 : decode cX5_noteBy 30 = .ok (.iadd, 1) := by decide +kernel
theorem dX5_noteBy_31 : decode cX5_noteBy 31 = .ok (.bipush 12, 2) := by decide +kernel
theorem dX5_noteBy_33 : decode cX5_noteBy 33 = .ok (.iadd, 1) := by decide +kernel
theorem dX5_noteBy_34 : decode cX5_noteBy 34 = .ok (.iconst 1, 1) := by decide +kernel
theorem dX5_noteBy_35 : decode cX5_noteBy 35 = .ok (.isub, 1) := by decide +kernel
theorem dX5_noteBy_36 : decode cX5_noteBy 36 = .ok (.bipush 12, 2) := by decide +kernel
theorem dX5_noteBy_38 : decode cX5_noteBy 38 = .ok (.irem, 1) := by decide +kernel
theorem dX5_noteBy_39 : decode cX5_noteBy 39 = .ok (.ireturn, 1) := by decide +kernel
theorem dX5_noteBy_40 : decode cX5_noteBy 40 = .ok (.iload_n 1, 1) := by decide +kernel
theorem dX5_noteBy_41 : decode cX5_noteBy 41 = .ok (.bipush 12, 2) := by decide +kernel
theorem dX5_noteBy_43 : decode cX5_noteBy 43 = .ok (.iadd, 1) := by decide +kernel
theorem dX5_noteBy_44 : decode cX5_noteBy 44 = .ok (.iconst 1, 1) := by decide +kernel
theorem dX5_noteBy_45 : decode cX5_noteBy 45 = .ok (.isub, 1) := by decide +kernel
theorem dX5_noteBy_46 : decode cX5_noteBy 46 = .ok (.bipush 12, 2) := by decide +kernel
theorem dX5_noteBy_48 : decode cX5_noteBy 48 = .ok (.irem, 1) := by decide +kernel
theorem dX5_noteBy_49 : decode cX5_noteBy 49 = .ok (.ireturn, 1) := by decide +kernel
theorem dX5_noteBy_50 : decode cX5_noteBy 50 = .ok (.iload_n 1, 1) := by decide +kernel
theorem dX5_noteBy_51 : decode cX5_noteBy 51 = .ok (.iload_n 2, 1) := by decide +kernel
theorem dX5_noteBy_52 : decode cX5_noteBy 52 = .ok (.iadd, 1) := by decide +kernel
theorem dX5_noteBy_53 : decode cX5_noteBy 53 = .ok (.bipush 12, 2) := by decide +kernel
theorem dX5_noteBy_55 : decode cX5_noteBy 55 = .ok (.irem, 1) := by decide +kernel
theorem dX5_noteBy_56 : decode cX5_noteBy 56 = .ok (.ireturn, 1) := by decide +kernel
