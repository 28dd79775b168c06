theorem dX1_init_0 : decode cX1_init 0 = .ok (.aload_n 0, 1) := by decide +kernel
theorem dX1_init_1 : decode cX1_init 1 = .ok (.invokespecial 3, 3) := by decide +kernel
theorem dX1_init_4 : decode cX1_init 4 = .ok (.aload_n 0, 1) := by decide +kernel
theorem dX1_init_5 : decode cX1_init 5 = .ok (.sipush 200, 3) := by decide +kernel
theorem dX1_init_8 : decode cX1_init 8 = .ok (.newarray .byte, 2) := by decide +kernel
theorem dX1_init_10 : decode cX1_init 10 = .ok (.putfield 9, 3) := by decide +kernel
theorem dX1_init_13 : decode cX1_init 13 = .ok (.return_, 1) := by decide +kernel
theorem dX1_append_0 : decode cX1_append 0 = .ok (.iload_n 3, 1) := by decide +kernel
theorem dX1_append_1 : decode cX1_append 1 = .ok (.iconst 1, 1) := by decide +kernel
theorem dX1_append_2 : decode cX1_append 2 = .ok (.isub, 1) := by decide +kernel
theorem dX1_append_3 : decode cX1_append 3 = .ok (.istore 4, 2) := by decide +kernel
theorem dX1_append_5 : decode cX1_append 5 = .ok (.iload 4, 2) := by decide +kernel
theorem dX1_append_7 : decode cX1_append 7 = .ok (.ifCond .lt 47, 3) := by decide +kernel
theorem dX1_append_10 : decode cX1_append 10 = .ok (.aload_n 0, 1) := by decide +kernel
theorem dX1_append_11 : decode cX1_append 11 = .ok (.getfield 15, 3) := by decide +kernel
theorem dX1_append_14 : decode cX1_append 14 = .ok (.sipush 200, 3) := by decide +kernel
theorem dX1_append_17 : decode cX1_append 17 = .ok (.if_icmp .ge 37, 3) := by decide +kernel
theorem dX1_append_20 : decode cX1_append 20 = .ok (.aload_n 0, 1) := by decide +kernel
theorem dX1_append_21 : decode cX1_append 21 = .ok (.getfield 9, 3) := by decide +kernel
theorem dX1_append_24 : decode cX1_append 24 = .ok (.aload_n 0, 1) := by decide +kernel
theorem dX1_append_25 : decode cX1_append 25 = .ok (.getfield 15, 3) := by decide +kernel
theorem dX1_append_28 : decode cX1_append 28 = .ok (.lload_n 1, 1) := by decide +kernel
theorem dX1_append_29 : decode cX1_append 29 = .ok (.bipush 8, 2) := by decide +kernel
theorem dX1_append_31 : decode cX1_append 31 = .ok (.iload 4, 2) := by decide +kernel
theorem dX1_append_33 : decode cX1_append 33 = .ok (.imul, 1) := by decide +kernel
theorem dX1_append_34 : decode cX1_append 34 = .ok (.lshr, 1) := by decide +kernel
theorem dX1_append_35 : decode cX1_append 35 = .ok (.l2i, 1) := by decide +kernel
theorem dX1_append_36 : decode cX1_append 36 = .ok (.i2b, 1) := by decide +kernel
theorem dX1_append_37 : decode cX1_append 37 = .ok (.bastore, 1) := by decide +kernel
theorem dX1_append_38 : decode cX1_append 38 = .ok (.aload_n 0, 1) := by decide +kernel
theorem dX1_append_39 : decode cX1_append 39 = .ok (.dup, 1) := by decide +kernel
theorem dX1_append_40 : decode cX1_append 40 = .ok (.getfield 15, 3) := by decide +kernel
theorem dX1_append_43 : decode cX1_append 43 = .ok (.iconst 1, 1) := by decide +kernel
theorem dX1_append_44 : decode cX1_append 44 = .ok (.iadd, 1) := by decide +kernel
theorem dX1_append_45 : decode cX1_append 45 = .ok (.putfield 15, 3) := by decide +kernel
theorem dX1_append_48 : decode cX1_append 48 = .ok (.iinc 4 (-1), 3) := by decide +kernel
theorem dX1_append_51 : decode cX1_append 51 = .ok (.goto (-46), 3) := by decide +kernel
theorem dX1_append_54 : decode cX1_append 54 = .ok (.return_, 1) := by decide +kernel
set_option maxRecDepth 20000 in
theorem ggX1_readInto_X1_scan : GoodIn wsX1_readInto wsX1_scan := goodIn_r _ [9, 1, 4, 2, 10, 3, 11, 12, 13, 14, 15, 16, 8, 17, 155, 156, 157, 158, 159] (by decide +kernel) (by decide +kernel)
set_option maxRecDepth 20000 in
theorem gX1_readInto_X1_scan : GoodIn wsX1_readInto (wsV RX1 22 RX1 yX1_scan wsX1_scan) := goodIn_app (goodIn_of _ (by decide +kernel)) ggX1_readInto_X1_scan
set_option maxRecDepth 20000 in
theorem ggX1_readInto_X1_readPosts : GoodIn wsX1_readInto wsX1_readPosts := goodIn_r _ [21, 22, 23, 24, 8, 25, 3, 1, 4, 10, 26, 27, 28, 29, 30, 31, 32, 33, 34, 35, 36, 37, 38, 39, 40, 41, 42, 43, 44, 45, 46, 47, 48, 49, 50, 51, 52, 53, 54, 55, 56, 57, 58, 59, 60, 61, 62, 63, 64, 65, 66, 67, 68, 69, 70, 71, 72, 73, 74, 75, 76, 77, 78, 5, 6, 7, 9, 2, 11, 12, 13, 14, 15, 16, 17, 79, 80, 81, 82, 83, 84, 85, 86, 87, 88, 89, 90, 91, 92, 93, 94, 95, 96, 97, 98, 99, 100, 101, 155, 156, 157, 158, 159, 160, 161, 162, 163, 164, 165, 166, 167, 168, 169, 170, 171] (by decide +kernel) (by decide +kernel)
set_option maxRecDepth 20000 in
theorem gX1_readInto_X1_readPosts : GoodIn wsX1_readInto (wsV RX1 25 RX1 yX1_readPosts wsX1_readPosts) := goodIn_app (goodIn_of _ (by decide +kernel)) ggX1_readInto_X1_readPosts
set_option maxRecDepth 20000 in
theorem ggX1_readInto_X1_readItem : GoodIn wsX1_readInto wsX1_readItem := goodIn_r _ [105, 22, 23, 24, 8, 25, 3, 1, 4, 10, 26, 27, 28, 29, 30, 31, 32, 33, 34, 35, 36, 37, 38, 39, 40, 41, 42, 43, 44, 45, 46, 47, 48, 49, 50, 51, 52, 53, 54, 55, 56, 57, 58, 59, 60, 61, 62, 63, 64, 65, 66, 67, 68, 69, 70, 71, 72, 73, 74, 106, 107, 108, 109, 110, 111, 112, 85, 113, 87, 75, 76, 77, 78, 5, 6, 7, 9, 2, 11, 12, 13, 14, 15, 16, 17, 79, 80, 81, 114, 93, 94, 95, 96, 97, 98, 99, 100, 101, 115, 116, 117, 118, 119, 120, 121, 122, 123, 124, 125, 126, 127, 128, 129, 89, 130, 131, 132, 133, 134, 135, 136, 137, 138, 139, 140, 90, 141, 142, 143, 144, 145, 146, 147, 148, 149, 150, 151, 91, 152, 153, 154, 155, 156, 157, 158, 159, 160, 161, 162, 163, 164, 165, 166, 167, 168, 169, 170, 171] (by decide +kernel) (by decide +kernel)
set_option maxRecDepth 20000 in
theorem gX1_readInto_X1_readItem : GoodIn wsX1_readInto (wsV RX1 32 RX1 yX1_readItem wsX1_readItem) := goodIn_app (goodIn_of _ (by decide +kernel)) ggX1_readInto_X1_readItem
theorem dX1_readInto_0 : decode cX1_readInto 0 = .ok (.aload_n 0, 1) := by decide +kernel
theorem dX1_readInto_1 : decode cX1_readInto 1 = .ok (.iconst 0, 1) := by decide +kernel
theorem dX1_readInto_2 : decode cX1_readInto 2 = .ok (.putfield 19, 3) := by decide +kernel
theorem dX1_readInto_5 : decode cX1_readInto 5 = .ok (.aload_n 0, 1) := by decide +kernel
theorem dX1_readInto_6 : decode cX1_readInto 6 = .ok (.invokevirtual 22, 3) := by decide +kernel
theorem dX1_readInto_9 : decode cX1_readInto 9 = .ok (.aload_n 0, 1) := by decide +kernel
theorem dX1_readInto_10 : decode cX1_readInto 10 = .ok (.aload_n 1, 1) := by decide +kernel
theorem dX1_readInto_11 : decode cX1_readInto 11 = .ok (.invokevirtual 25, 3) := by decide +kernel
theorem dX1_readInto_14 : decode cX1_readInto 14 = .ok (.istore_n 2, 1) := by decide +kernel
theorem dX1_readInto_15 : decode cX1_readInto 15 = .ok (.iconst 1, 1) := by decide +kernel
theorem dX1_readInto_16 : decode cX1_readInto 16 = .ok (.istore_n 3, 1) := by decide +kernel
theorem dX1_readInto_17 : decode cX1_readInto 17 = .ok (.iload_n 2, 1) := by decide +kernel
theorem dX1_readInto_18 : decode cX1_readInto 18 = .ok (.ifCond .eq 36, 3) := by decide +kernel
theorem dX1_readInto_21 : decode cX1_readInto 21 = .ok (.iload_n 3, 1) := by decide +kernel
theorem dX1_readInto_22 : decode cX1_readInto 22 = .ok (.aload_n 0, 1) := by decide +kernel
theorem dX1_readInto_23 : decode cX1_readInto 23 = .ok (.getfield 15, 3) := by decide +kernel
theorem dX1_readInto_26 : decode cX1_readInto 26 = .ok (.if_icmp .gt 28, 3) := by decide +kernel
theorem dX1_readInto_29 : decode cX1_readInto 29 = .ok (.aload_n 0, 1) := by decide +kernel
theorem dX1_readInto_30 : decode cX1_readInto 30 = .ok (.invokevirtual 22, 3) := by decide +kernel
theorem dX1_readInto_33 : decode cX1_readInto 33 = .ok (.aload_n 0, 1) := by decide +kernel
theorem dX1_readInto_34 : decode cX1_readInto 34 = .ok (.getfield 29, 3) := by decide +kernel
theorem dX1_readInto_37 : decode cX1_readInto 37 = .ok (.ifCond .ne 5, 3) := by decide +kernel
theorem dX1_readInto_40 : decode cX1_readInto 40 = .ok (.iload_n 3, 1) := by decide +kernel
theorem dX1_readInto_41 : decode cX1_readInto 41 = .ok (.ireturn, 1) := by decide +kernel
theorem dX1_readInto_42 : decode cX1_readInto 42 = .ok (.aload_n 0, 1) := by decide +kernel
theorem dX1_readInto_43 : decode cX1_readInto 43 = .ok (.aload_n 1, 1) := by decide +kernel
theorem dX1_readInto_44 : decode cX1_readInto 44 = .ok (.invokevirtual 32, 3) := by decide +kernel
theorem dX1_readInto_47 : decode cX1_readInto 47 = .ok (.istore_n 2, 1) := by decide +kernel
theorem dX1_readInto_48 : decode cX1_readInto 48 = .ok (.iinc 3 1, 3) := by decide +kernel
theorem dX1_readInto_51 : decode cX1_readInto 51 = .ok (.goto (-34), 3) := by decide +kernel
theorem dX1_readInto_54 : decode cX1_readInto 54 = .ok (.bipush (-10), 2) := by decide +kernel
theorem dX1_readInto_56 : decode cX1_readInto 56 = .ok (.aload_n 0, 1) := by decide +kernel
theorem dX1_readInto_57 : decode cX1_readInto 57 = .ok (.getfield 35, 3) := by decide +kernel
theorem dX1_readInto_60 : decode cX1_readInto 60 = .ok (.isub, 1) := by decide +kernel
theorem dX1_readInto_61 : decode cX1_readInto 61 = .ok (.ireturn, 1) := by decide +kernel
set_option maxRecDepth 20000 in
theorem ggX1_readPosts_X1_isWord : GoodIn wsX1_readPosts wsX1_isWord := goodIn_r _ [5, 6, 7, 8, 9, 10, 11, 12, 13, 14, 15, 16, 17, 18, 19, 20, 21, 22, 23, 24, 25, 26, 27, 28, 29, 30, 31, 32, 33, 34, 35, 36, 37, 38, 39, 40, 41, 42, 43, 44, 45, 46, 47, 48, 49, 50, 51, 52, 53, 54, 55, 56, 57, 58, 98, 99, 100, 101, 102] (by decide +kernel) (by decide +kernel)
set_option maxRecDepth 20000 in
theorem gX1_readPosts_X1_isWord : GoodIn wsX1_readPosts (wsV RX1 40 RX1 yX1_isWord wsX1_isWord) := goodIn_app (goodIn_of _ (by decide +kernel)) ggX1_readPosts_X1_isWord
set_option maxRecDepth 20000 in
theorem ggX1_readPosts_X1_nextNumber : GoodIn wsX1_readPosts wsX1_nextNumber := goodIn_r _ [62, 6, 8, 7, 9, 63, 64, 65, 4, 66, 67, 68, 69, 70, 71, 72, 73, 74, 75, 76, 77, 98, 99, 100, 101, 102] (by decide +kernel) (by decide +kernel)
set_option maxRecDepth 20000 in
theorem gX1_readPosts_X1_nextNumber : GoodIn wsX1_readPosts (wsV RX1 44 RX1 yX1_nextNumber wsX1_nextNumber) := goodIn_app (goodIn_of _ (by decide +kernel)) ggX1_readPosts_X1_nextNumber
set_option maxRecDepth 20000 in
theorem ggX1_readPosts_X0_startOver : GoodIn wsX1_readPosts wsX0_startOver := goodIn_r _ [82, 83, 84, 85, 86, 87, 88, 89, 90, 81, 91, 92, 93, 103, 104, 105, 106, 107, 108, 109, 110, 111, 112, 113, 114] (by decide +kernel) (by decide +kernel)
set_option maxRecDepth 20000 in
theorem gX1_readPosts_X0_startOver : GoodIn wsX1_readPosts (wsV RX1 48 RX0 yX0_startOver wsX0_startOver) := goodIn_app (goodIn_of _ (by decide +kernel)) ggX1_readPosts_X0_startOver
set_option maxRecDepth 20000 in
theorem ggX1_readPosts_X1_nextStop : GoodIn wsX1_readPosts wsX1_nextStop := goodIn_r _ [97, 6, 63, 64, 65, 4, 66, 7, 8, 67, 9, 68, 69, 70, 71, 72, 73, 74, 98, 99, 100, 101, 102] (by decide +kernel) (by decide +kernel)
set_option maxRecDepth 20000 in
theorem gX1_readPosts_X1_nextStop : GoodIn wsX1_readPosts (wsV RX1 54 RX1 yX1_nextStop wsX1_nextStop) := goodIn_app (goodIn_of _ (by decide +kernel)) ggX1_readPosts_X1_nextStop
theorem dX1_readPosts_0 : decode cX1_readPosts 0 = .ok (.aload_n 0, 1) := by decide +kernel
theorem dX1_readPosts_1 : decode cX1_readPosts 1 = .ok (.ldc 38, 2) := by decide +kernel
theorem dX1_readPosts_3 : decode cX1_readPosts 3 = .ok (.invokevirtual 40, 3) := by decide +kernel
theorem dX1_readPosts_6 : decode cX1_readPosts 6 = .ok (.ifCond .ne 5, 3) := by decide +kernel
theorem dX1_readPosts_9 : decode cX1_readPosts 9 = .ok (.iconst 0, 1) := by decide +kernel
theorem dX1_readPosts_10 : decode cX1_readPosts 10 = .ok (.ireturn, 1) := by decide +kernel
theorem dX1_readPosts_11 : decode cX1_readPosts 11 = .ok (.aload_n 0, 1) := by decide +kernel
theorem dX1_readPosts_12 : decode cX1_readPosts 12 = .ok (.iconst 2, 1) := by decide +kernel
theorem dX1_readPosts_13 : decode cX1_readPosts 13 = .ok (.bipush 9, 2) := by decide +kernel
theorem dX1_readPosts_15 : decode cX1_readPosts 15 = .ok (.invokevirtual 44, 3) := by decide +kernel
theorem dX1_readPosts_18 : decode cX1_readPosts 18 = .ok (.istore_n 2, 1) := by decide +kernel
theorem dX1_readPosts_19 : decode cX1_readPosts 19 = .ok (.iload_n 2, 1) := by decide +kernel
theorem dX1_readPosts_20 : decode cX1_readPosts 20 = .ok (.ifCond .ge 5, 3) := by decide +kernel
theorem dX1_readPosts_23 : decode cX1_readPosts 23 = .ok (.iconst 0, 1) := by decide +kernel
theorem dX1_readPosts_24 : decode cX1_readPosts 24 = .ok (.ireturn, 1) := by decide +kernel
theorem dX1_readPosts_25 : decode cX1_readPosts 25 = .ok (.aload_n 1, 1) := by decide +kernel
theorem dX1_readPosts_26 : decode cX1_readPosts 26 = .ok (.iload_n 2, 1) := by decide +kernel
theorem dX1_readPosts_27 : decode cX1_readPosts 27 = .ok (.invokevirtual 48, 3) := by decide +kernel
theorem dX1_readPosts_30 : decode cX1_readPosts 30 = .ok (.aload_n 0, 1) := by decide +kernel
theorem dX1_readPosts_31 : decode cX1_readPosts 31 = .ok (.invokevirtual 54, 3) := by decide +kernel
theorem dX1_readPosts_34 : decode cX1_readPosts 34 = .ok (.ireturn, 1) := by decide +kernel
set_option maxRecDepth 20000 in
theorem ggX1_readItem_X1_isWord : GoodIn wsX1_readItem wsX1_isWord := goodIn_r _ [5, 6, 7, 8, 9, 10, 11, 12, 13, 14, 15, 16, 17, 18, 19, 20, 21, 22, 23, 24, 25, 26, 27, 28, 29, 30, 31, 32, 33, 34, 35, 36, 37, 38, 39, 40, 41, 42, 43, 44, 45, 46, 47, 48, 49, 50, 51, 52, 53, 54, 55, 56, 57, 58, 141, 142, 143, 144, 145] (by decide +kernel) (by decide +kernel)
set_option maxRecDepth 20000 in
theorem gX1_readItem_X1_isWord : GoodIn wsX1_readItem (wsV RX1 40 RX1 yX1_isWord wsX1_isWord) := goodIn_app (goodIn_of _ (by decide +kernel)) ggX1_readItem_X1_isWord
set_option maxRecDepth 20000 in
theorem ggX1_readItem_X1_readWire : GoodIn wsX1_readItem wsX1_readWire := goodIn_r _ [62, 63, 64, 65, 66, 67, 68, 69, 70, 71, 4, 72, 6, 8, 7, 9, 73, 74, 75, 76, 77, 78, 79, 80, 81, 82, 83, 84, 85, 86, 87, 88, 89, 90, 91, 92, 93, 94, 95, 96, 97, 146, 147, 148, 149, 150, 151, 152, 153, 154, 155, 156, 157, 141, 142, 143, 144, 145] (by decide +kernel) (by decide +kernel)
set_option maxRecDepth 20000 in
theorem gX1_readItem_X1_readWire : GoodIn wsX1_readItem (wsV RX1 60 RX1 yX1_readWire wsX1_readWire) := goodIn_app (goodIn_of _ (by decide +kernel)) ggX1_readItem_X1_readWire
set_option maxRecDepth 20000 in
theorem ggX1_readItem_X1_readFrost : GoodIn wsX1_readItem wsX1_readFrost := goodIn_r _ [101, 102, 69, 70, 71, 4, 72, 6, 8, 7, 9, 73, 74, 75, 76, 77, 78, 79, 80, 81, 82, 83, 84, 85, 86, 87, 94, 95, 96, 97, 146, 147, 148, 149, 150, 151, 152, 153, 154, 155, 156, 157, 141, 142, 143, 144, 145] (by decide +kernel) (by decide +kernel)
set_option maxRecDepth 20000 in
theorem gX1_readItem_X1_readFrost : GoodIn wsX1_readItem (wsV RX1 65 RX1 yX1_readFrost wsX1_readFrost) := goodIn_app (goodIn_of _ (by decide +kernel)) ggX1_readItem_X1_readFrost
set_option maxRecDepth 20000 in
theorem ggX1_readItem_X1_readGuard : GoodIn wsX1_readItem wsX1_readGuard := goodIn_r _ [106, 107, 108, 69, 70, 71, 4, 72, 6, 8, 7, 9, 73, 74, 75, 76, 77, 78, 79, 80, 81, 82, 83, 84, 85, 86, 87, 109, 110, 111, 66, 112, 113, 114, 115, 94, 95, 96, 97, 146, 147, 148, 149, 150, 151, 152, 153, 154, 155, 156, 157, 141, 142, 143, 144, 145] (by decide +kernel) (by decide +kernel)
set_option maxRecDepth 20000 in
theorem gX1_readItem_X1_readGuard : GoodIn wsX1_readItem (wsV RX1 70 RX1 yX1_readGuard wsX1_readGuard) := goodIn_app (goodIn_of _ (by decide +kernel)) ggX1_readItem_X1_readGuard
set_option maxRecDepth 20000 in
theorem ggX1_readItem_X1_readWind : GoodIn wsX1_readItem wsX1_readWind := goodIn_r _ [119, 120, 69, 70, 71, 4, 72, 6, 8, 7, 9, 73, 74, 75, 76, 77, 78, 79, 80, 81, 82, 83, 84, 85, 86, 87, 63, 64, 65, 66, 67, 68, 121, 122, 123, 124, 125, 126, 127, 94, 95, 96, 97, 146, 147, 148, 149, 150, 151, 152, 153, 154, 155, 156, 157, 141, 142, 143, 144, 145] (by decide +kernel) (by decide +kernel)
set_option maxRecDepth 20000 in
theorem gX1_readItem_X1_readWind : GoodIn wsX1_readItem (wsV RX1 75 RX1 yX1_readWind wsX1_readWind) := goodIn_app (goodIn_of _ (by decide +kernel)) ggX1_readItem_X1_readWind
set_option maxRecDepth 20000 in
theorem ggX1_readItem_X1_readPass : GoodIn wsX1_readItem wsX1_readPass := goodIn_r _ [131, 132, 69, 70, 71, 4, 72, 6, 8, 7, 9, 73, 74, 75, 76, 77, 78, 79, 80, 81, 82, 83, 84, 85, 86, 87, 63, 64, 65, 66, 67, 68, 133, 134, 135, 136, 137, 138, 139, 140, 94, 95, 96, 97, 146, 147, 148, 149, 150, 151, 152, 153, 154, 155, 156, 157, 141, 142, 143, 144, 145] (by decide +kernel) (by decide +kernel)
set_option maxRecDepth 20000 in
theorem gX1_readItem_X1_readPass : GoodIn wsX1_readItem (wsV RX1 80 RX1 yX1_readPass wsX1_readPass) := goodIn_app (goodIn_of _ (by decide +kernel)) ggX1_readItem_X1_readPass
theorem dX1_readItem_0 : decode cX1_readItem 0 = .ok (.aload_n 0, 1) := by decide +kernel
theorem dX1_readItem_1 : decode cX1_readItem 1 = .ok (.ldc 58, 2) := by decide +kernel
theorem dX1_readItem_3 : decode cX1_readItem 3 = .ok (.invokevirtual 40, 3) := by decide +kernel
theorem dX1_readItem_6 : decode cX1_readItem 6 = .ok (.ifCond .eq 9, 3) := by decide +kernel
theorem dX1_readItem_9 : decode cX1_readItem 9 = .ok (.aload_n 0, 1) := by decide +kernel
theorem dX1_readItem_10 : decode cX1_readItem 10 = .ok (.aload_n 1, 1) := by decide +kernel
theorem dX1_readItem_11 : decode cX1_readItem 11 = .ok (.invokevirtual 60, 3) := by decide +kernel
theorem dX1_readItem_14 : decode cX1_readItem 14 = .ok (.ireturn, 1) := by decide +kernel
theorem dX1_readItem_15 : decode cX1_readItem 15 = .ok (.aload_n 0, 1) := by decide +kernel
theorem dX1_readItem_16 : decode cX1_readItem 16 = .ok (.ldc 63, 2) := by decide +kernel
theorem dX1_readItem_18 : decode cX1_readItem 18 = .ok (.invokevirtual 40, 3) := by decide +kernel
theorem dX1_readItem_21 : decode cX1_readItem 21 = .ok (.ifCond .eq 9, 3) := by decide +kernel
theorem dX1_readItem_24 : decode cX1_readItem 24 = .ok (.aload_n 0, 1) := by decide +kernel
theorem dX1_readItem_25 : decode cX1_readItem 25 = .ok (.aload_n 1, 1) := by decide +kernel
theorem dX1_readItem_26 : decode cX1_readItem 26 = .ok (.invokevirtual 65, 3) := by decide +kernel
theorem dX1_readItem_29 : decode cX1_readItem 29 = .ok (.ireturn, 1) := by decide +kernel
theorem dX1_readItem_30 : decode cX1_readItem 30 = .ok (.aload_n 0, 1) := by decide +kernel
theorem dX1_readItem_31 : decode cX1_readItem 31 = .ok (.ldc 68, 2) := by decide +kernel
theorem dX1_readItem_33 : decode cX1_readItem 33 = .ok (.invokevirtual 40, 3) := by decide +kernel
theorem dX1_readItem_36 : decode cX1_readItem 36 = .ok (.ifCond .eq 9, 3) := by decide +kernel
theorem dX1_readItem_39 : decode cX1_readItem 39 = .ok (.aload_n 0, 1) := by decide +kernel
theorem dX1_readItem_40 : decode cX1_readItem 40 = .ok (.aload_n 1, 1) := by decide +kernel
theorem dX1_readItem_41 : decode cX1_readItem 41 = .ok (.invokevirtual 70, 3) := by decide +kernel
theorem dX1_readItem_44 : decode cX1_readItem 44 = .ok (.ireturn, 1) := by decide +kernel
theorem dX1_readItem_45 : decode cX1_readItem 45 = .ok (.aload_n 0, 1) := by decide +kernel
theorem dX1_readItem_46 : decode cX1_readItem 46 = .ok (.ldc 73, 2) := by decide +kernel
theorem dX1_readItem_48 : decode cX1_readItem 48 = .ok (.invokevirtual 40, 3) := by decide +kernel
theorem dX1_readItem_51 : decode cX1_readItem 51 = .ok (.ifCond .eq 9, 3) := by decide +kernel
theorem dX1_readItem_54 : decode cX1_readItem 54 = .ok (.aload_n 0, 1) := by decide +kernel
theorem dX1_readItem_55 : decode cX1_readItem 55 = .ok (.aload_n 1, 1) := by decide +kernel
theorem dX1_readItem_56 : decode cX1_readItem 56 = .ok (.invokevirtual 75, 3) := by decide +kernel
theorem dX1_readItem_59 : decode cX1_readItem 59 = .ok (.ireturn, 1) := by decide +kernel
theorem dX1_readItem_60 : decode cX1_readItem 60 = .ok (.aload_n 0, 1) := by decide +kernel
theorem dX1_readItem_61 : decode cX1_readItem 61 = .ok (.ldc 78, 2) := by decide +kernel
theorem dX1_readItem_63 : decode cX1_readItem 63 = .ok (.invokevirtual 40, 3) := by decide +kernel
theorem dX1_readItem_66 : decode cX1_readItem 66 = .ok (.ifCond .eq 15, 3) := by decide +kernel
theorem dX1_readItem_69 : decode cX1_readItem 69 = .ok (.aload_n 0, 1) := by decide +kernel
theorem dX1_readItem_70 : decode cX1_readItem 70 = .ok (.aload_n 1, 1) := by decide +kernel
theorem dX1_readItem_71 : decode cX1_readItem 71 = .ok (.invokevirtual 80, 3) := by decide +kernel
theorem dX1_readItem_74 : decode cX1_readItem 74 = .ok (.ifCond .eq 7, 3) := by decide +kernel
theorem dX1_readItem_77 : decode cX1_readItem 77 = .ok (.iconst 1, 1) := by decide +kernel
theorem dX1_readItem_78 : decode cX1_readItem 78 = .ok (.goto 4, 3) := by decide +kernel
theorem dX1_readItem_81 : decode cX1_readItem 81 = .ok (.iconst 0, 1) := by decide +kernel
theorem dX1_readItem_82 : decode cX1_readItem 82 = .ok (.ireturn, 1) := by decide +kernel
set_option maxRecDepth 20000 in
theorem ggX1_readWire_X0_wireCount : GoodIn wsX1_readWire wsX0_wireCount := goodIn_r _ [5, 6, 41, 42, 43, 44, 45, 46, 47, 48, 49, 50, 51, 52] (by decide +kernel) (by decide +kernel)
set_option maxRecDepth 20000 in
theorem gX1_readWire_X0_wireCount : GoodIn wsX1_readWire (wsV RX1 83 RX0 yX0_wireCount wsX0_wireCount) := goodIn_app (goodIn_of _ (by decide +kernel)) ggX1_readWire_X0_wireCount
set_option maxRecDepth 20000 in
theorem ggX1_readWire_X1_nextNumber : GoodIn wsX1_readWire wsX1_nextNumber := goodIn_r _ [11, 12, 13, 14, 15, 16, 17, 18, 10, 19, 20, 21, 22, 23, 24, 25, 26, 27, 28, 29, 30, 53, 54, 55, 56, 57] (by decide +kernel) (by decide +kernel)
set_option maxRecDepth 20000 in
theorem gX1_readWire_X1_nextNumber : GoodIn wsX1_readWire (wsV RX1 44 RX1 yX1_nextNumber wsX1_nextNumber) := goodIn_app (goodIn_of _ (by decide +kernel)) ggX1_readWire_X1_nextNumber
set_option maxRecDepth 20000 in
theorem ggX1_readWire_X0_stringWire : GoodIn wsX1_readWire wsX0_stringWire := goodIn_r _ [34, 35, 36, 41, 42, 43, 44, 45, 46, 47, 48, 49, 50, 51, 52] (by decide +kernel) (by decide +kernel)
set_option maxRecDepth 20000 in
theorem gX1_readWire_X0_stringWire : GoodIn wsX1_readWire (wsV RX1 87 RX0 yX0_stringWire wsX0_stringWire) := goodIn_app (goodIn_of _ (by decide +kernel)) ggX1_readWire_X0_stringWire
set_option maxRecDepth 20000 in
theorem ggX1_readWire_X1_nextStop : GoodIn wsX1_readWire wsX1_nextStop := goodIn_r _ [40, 12, 16, 17, 18, 10, 19, 14, 13, 20, 15, 21, 22, 23, 24, 25, 26, 27, 53, 54, 55, 56, 57] (by decide +kernel) (by decide +kernel)
set_option maxRecDepth 20000 in
theorem gX1_readWire_X1_nextStop : GoodIn wsX1_readWire (wsV RX1 54 RX1 yX1_nextStop wsX1_nextStop) := goodIn_app (goodIn_of _ (by decide +kernel)) ggX1_readWire_X1_nextStop
theorem dX1_readWire_0 : decode cX1_readWire 0 = .ok (.aload_n 0, 1) := by decide +kernel
theorem dX1_readWire_1 : decode cX1_readWire 1 = .ok (.iconst 0, 1) := by decide +kernel
theorem dX1_readWire_2 : decode cX1_readWire 2 = .ok (.aload_n 1, 1) := by decide +kernel
theorem dX1_readWire_3 : decode cX1_readWire 3 = .ok (.invokevirtual 83, 3) := by decide +kernel
theorem dX1_readWire_6 : decode cX1_readWire 6 = .ok (.iconst 1, 1) := by decide +kernel
theorem dX1_readWire_7 : decode cX1_readWire 7 = .ok (.isub, 1) := by decide +kernel
theorem dX1_readWire_8 : decode cX1_readWire 8 = .ok (.invokevirtual 44, 3) := by decide +kernel
theorem dX1_readWire_11 : decode cX1_readWire 11 = .ok (.istore_n 2, 1) := by decide +kernel
theorem dX1_readWire_12 : decode cX1_readWire 12 = .ok (.iload_n 2, 1) := by decide +kernel
theorem dX1_readWire_13 : decode cX1_readWire 13 = .ok (.ifCond .ge 7, 3) := by decide +kernel
theorem dX1_readWire_16 : decode cX1_readWire 16 = .ok (.iconst (-1), 1) := by decide +kernel
theorem dX1_readWire_17 : decode cX1_readWire 17 = .ok (.goto 9, 3) := by decide +kernel
theorem dX1_readWire_20 : decode cX1_readWire 20 = .ok (.aload_n 0, 1) := by decide +kernel
theorem dX1_readWire_21 : decode cX1_readWire 21 = .ok (.iconst 0, 1) := by decide +kernel
theorem dX1_readWire_22 : decode cX1_readWire 22 = .ok (.iconst 4, 1) := by decide +kernel
theorem dX1_readWire_23 : decode cX1_readWire 23 = .ok (.invokevirtual 44, 3) := by decide +kernel
theorem dX1_readWire_26 : decode cX1_readWire 26 = .ok (.istore_n 3, 1) := by decide +kernel
theorem dX1_readWire_27 : decode cX1_readWire 27 = .ok (.iload_n 3, 1) := by decide +kernel
theorem dX1_readWire_28 : decode cX1_readWire 28 = .ok (.ifCond .ge 7, 3) := by decide +kernel
theorem dX1_readWire_31 : decode cX1_readWire 31 = .ok (.iconst (-1), 1) := by decide +kernel
theorem dX1_readWire_32 : decode cX1_readWire 32 = .ok (.goto 10, 3) := by decide +kernel
theorem dX1_readWire_35 : decode cX1_readWire 35 = .ok (.aload_n 0, 1) := by decide +kernel
theorem dX1_readWire_36 : decode cX1_readWire 36 = .ok (.iconst 0, 1) := by decide +kernel
theorem dX1_readWire_37 : decode cX1_readWire 37 = .ok (.bipush 11, 2) := by decide +kernel
theorem dX1_readWire_39 : decode cX1_readWire 39 = .ok (.invokevirtual 44, 3) := by decide +kernel
theorem dX1_readWire_42 : decode cX1_readWire 42 = .ok (.istore 4, 2) := by decide +kernel
theorem dX1_readWire_44 : decode cX1_readWire 44 = .ok (.iload 4, 2) := by decide +kernel
theorem dX1_readWire_46 : decode cX1_readWire 46 = .ok (.ifCond .ge 5, 3) := by decide +kernel
theorem dX1_readWire_49 : decode cX1_readWire 49 = .ok (.iconst 0, 1) := by decide +kernel
theorem dX1_readWire_50 : decode cX1_readWire 50 = .ok (.ireturn, 1) := by decide +kernel
theorem dX1_readWire_51 : decode cX1_readWire 51 = .ok (.aload_n 1, 1) := by decide +kernel
theorem dX1_readWire_52 : decode cX1_readWire 52 = .ok (.iload_n 2, 1) := by decide +kernel
theorem dX1_readWire_53 : decode cX1_readWire 53 = .ok (.iload_n 3, 1) := by decide +kernel
theorem dX1_readWire_54 : decode cX1_readWire 54 = .ok (.iload 4, 2) := by decide +kernel
theorem dX1_readWire_56 : decode cX1_readWire 56 = .ok (.invokevirtual 87, 3) := by decide +kernel
theorem dX1_readWire_59 : decode cX1_readWire 59 = .ok (.aload_n 0, 1) := by decide +kernel
theorem dX1_readWire_60 : decode cX1_readWire 60 = .ok (.invokevirtual 54, 3) := by decide +kernel
theorem dX1_readWire_63 : decode cX1_readWire 63 = .ok (.ireturn, 1) := by decide +kernel
set_option maxRecDepth 20000 in
theorem ggX1_readFrost_X1_nextNumber : GoodIn wsX1_readFrost wsX1_nextNumber := goodIn_r _ [6, 7, 8, 9, 10, 11, 12, 13, 5, 14, 15, 16, 17, 18, 19, 20, 21, 22, 23, 24, 25, 42, 43, 44, 45, 46] (by decide +kernel) (by decide +kernel)
set_option maxRecDepth 20000 in
theorem gX1_readFrost_X1_nextNumber : GoodIn wsX1_readFrost (wsV RX1 44 RX1 yX1_nextNumber wsX1_nextNumber) := goodIn_app (goodIn_of _ (by decide +kernel)) ggX1_readFrost_X1_nextNumber
set_option maxRecDepth 20000 in
theorem ggX1_readFrost_X1_nextStop : GoodIn wsX1_readFrost wsX1_nextStop := goodIn_r _ [29, 7, 11, 12, 13, 5, 14, 9, 8, 15, 10, 16, 17, 18, 19, 20, 21, 22, 42, 43, 44, 45, 46] (by decide +kernel) (by decide +kernel)
set_option maxRecDepth 20000 in
theorem gX1_readFrost_X1_nextStop : GoodIn wsX1_readFrost (wsV RX1 54 RX1 yX1_nextStop wsX1_nextStop) := goodIn_app (goodIn_of _ (by decide +kernel)) ggX1_readFrost_X1_nextStop
theorem dX1_readFrost_0 : decode cX1_readFrost 0 = .ok (.aload_n 0, 1) := by decide +kernel
theorem dX1_readFrost_1 : decode cX1_readFrost 1 = .ok (.iconst 0, 1) := by decide +kernel
theorem dX1_readFrost_2 : decode cX1_readFrost 2 = .ok (.iconst 5, 1) := by decide +kernel
theorem dX1_readFrost_3 : decode cX1_readFrost 3 = .ok (.invokevirtual 44, 3) := by decide +kernel
theorem dX1_readFrost_6 : decode cX1_readFrost 6 = .ok (.istore_n 2, 1) := by decide +kernel
theorem dX1_readFrost_7 : decode cX1_readFrost 7 = .ok (.iload_n 2, 1) := by decide +kernel
theorem dX1_readFrost_8 : decode cX1_readFrost 8 = .ok (.ifCond .ge 5, 3) := by decide +kernel
theorem dX1_readFrost_11 : decode cX1_readFrost 11 = .ok (.iconst 0, 1) := by decide +kernel
theorem dX1_readFrost_12 : decode cX1_readFrost 12 = .ok (.ireturn, 1) := by decide +kernel
theorem dX1_readFrost_13 : decode cX1_readFrost 13 = .ok (.aload_n 1, 1) := by decide +kernel
theorem dX1_readFrost_14 : decode cX1_readFrost 14 = .ok (.iload_n 2, 1) := by decide +kernel
theorem dX1_readFrost_15 : decode cX1_readFrost 15 = .ok (.putfield 91, 3) := by decide +kernel
theorem dX1_readFrost_18 : decode cX1_readFrost 18 = .ok (.aload_n 0, 1) := by decide +kernel
theorem dX1_readFrost_19 : decode cX1_readFrost 19 = .ok (.invokevirtual 54, 3) := by decide +kernel
theorem dX1_readFrost_22 : decode cX1_readFrost 22 = .ok (.ireturn, 1) := by decide +kernel
set_option maxRecDepth 20000 in
theorem ggX1_readGuard_X1_nextNumber : GoodIn wsX1_readGuard wsX1_nextNumber := goodIn_r _ [7, 8, 9, 10, 11, 12, 13, 14, 6, 15, 16, 17, 18, 19, 20, 21, 22, 23, 24, 25, 26, 51, 52, 53, 54, 55] (by decide +kernel) (by decide +kernel)
set_option maxRecDepth 20000 in
theorem gX1_readGuard_X1_nextNumber : GoodIn wsX1_readGuard (wsV RX1 44 RX1 yX1_nextNumber wsX1_nextNumber) := goodIn_app (goodIn_of _ (by decide +kernel)) ggX1_readGuard_X1_nextNumber
set_option maxRecDepth 20000 in
theorem ggX1_readGuard_X0_hasGuard : GoodIn wsX1_readGuard wsX0_hasGuard := goodIn_r _ [31, 32, 33, 25, 34, 39, 40, 41, 42, 43, 44, 45, 46, 47, 48, 49, 50] (by decide +kernel) (by decide +kernel)
set_option maxRecDepth 20000 in
theorem gX1_readGuard_X0_hasGuard : GoodIn wsX1_readGuard (wsV RX1 96 RX0 yX0_hasGuard wsX0_hasGuard) := goodIn_app (goodIn_of _ (by decide +kernel)) ggX1_readGuard_X0_hasGuard
set_option maxRecDepth 20000 in
theorem ggX1_readGuard_X1_nextStop : GoodIn wsX1_readGuard wsX1_nextStop := goodIn_r _ [38, 8, 12, 13, 14, 6, 15, 10, 9, 16, 11, 17, 18, 19, 20, 21, 22, 23, 51, 52, 53, 54, 55] (by decide +kernel) (by decide +kernel)
set_option maxRecDepth 20000 in
theorem gX1_readGuard_X1_nextStop : GoodIn wsX1_readGuard (wsV RX1 54 RX1 yX1_nextStop wsX1_nextStop) := goodIn_app (goodIn_of _ (by decide +kernel)) ggX1_readGuard_X1_nextStop
theorem dX1_readGuard_0 : decode cX1_readGuard 0 = .ok (.aload_n 0, 1) := by decide +kernel
theorem dX1_readGuard_1 : decode cX1_readGuard 1 = .ok (.iconst 0, 1) := by decide +kernel
theorem dX1_readGuard_2 : decode cX1_readGuard 2 = .ok (.aload_n 1, 1) := by decide +kernel
theorem dX1_readGuard_3 : decode cX1_readGuard 3 = .ok (.getfield 93, 3) := by decide +kernel
theorem dX1_readGuard_6 : decode cX1_readGuard 6 = .ok (.iconst 1, 1) := by decide +kernel
theorem dX1_readGuard_7 : decode cX1_readGuard 7 = .ok (.isub, 1) := by decide +kernel
theorem dX1_readGuard_8 : decode cX1_readGuard 8 = .ok (.invokevirtual 44, 3) := by decide +kernel
theorem dX1_readGuard_11 : decode cX1_readGuard 11 = .ok (.istore_n 2, 1) := by decide +kernel
theorem dX1_readGuard_12 : decode cX1_readGuard 12 = .ok (.iload_n 2, 1) := by decide +kernel
theorem dX1_readGuard_13 : decode cX1_readGuard 13 = .ok (.ifCond .lt 11, 3) := by decide +kernel
theorem dX1_readGuard_16 : decode cX1_readGuard 16 = .ok (.aload_n 1, 1) := by decide +kernel
theorem dX1_readGuard_17 : decode cX1_readGuard 17 = .ok (.iload_n 2, 1) := by decide +kernel
theorem dX1_readGuard_18 : decode cX1_readGuard 18 = .ok (.invokevirtual 96, 3) := by decide +kernel
theorem dX1_readGuard_21 : decode cX1_readGuard 21 = .ok (.ifCond .eq 5, 3) := by decide +kernel
theorem dX1_readGuard_24 : decode cX1_readGuard 24 = .ok (.iconst 0, 1) := by decide +kernel
theorem dX1_readGuard_25 : decode cX1_readGuard 25 = .ok (.ireturn, 1) := by decide +kernel
theorem dX1_readGuard_26 : decode cX1_readGuard 26 = .ok (.aload_n 1, 1) := by decide +kernel
theorem dX1_readGuard_27 : decode cX1_readGuard 27 = .ok (.dup, 1) := by decide +kernel
theorem dX1_readGuard_28 : decode cX1_readGuard 28 = .ok (.getfield 100, 3) := by decide +kernel
theorem dX1_readGuard_31 : decode cX1_readGuard 31 = .ok (.iconst 1, 1) := by decide +kernel
theorem dX1_readGuard_32 : decode cX1_readGuard 32 = .ok (.iload_n 2, 1) := by decide +kernel
theorem dX1_readGuard_33 : decode cX1_readGuard 33 = .ok (.ishl, 1) := by decide +kernel
theorem dX1_readGuard_34 : decode cX1_readGuard 34 = .ok (.ior, 1) := by decide +kernel
theorem dX1_readGuard_35 : decode cX1_readGuard 35 = .ok (.putfield 100, 3) := by decide +kernel
theorem dX1_readGuard_38 : decode cX1_readGuard 38 = .ok (.aload_n 0, 1) := by decide +kernel
theorem dX1_readGuard_39 : decode cX1_readGuard 39 = .ok (.invokevirtual 54, 3) := by decide +kernel
theorem dX1_readGuard_42 : decode cX1_readGuard 42 = .ok (.ireturn, 1) := by decide +kernel
set_option maxRecDepth 20000 in
theorem ggX1_readWind_X1_nextNumber : GoodIn wsX1_readWind wsX1_nextNumber := goodIn_r _ [6, 7, 8, 9, 10, 11, 12, 13, 5, 14, 15, 16, 17, 18, 19, 20, 21, 22, 23, 24, 25, 55, 56, 57, 58, 59] (by decide +kernel) (by decide +kernel)
set_option maxRecDepth 20000 in
theorem gX1_readWind_X1_nextNumber : GoodIn wsX1_readWind (wsV RX1 44 RX1 yX1_nextNumber wsX1_nextNumber) := goodIn_app (goodIn_of _ (by decide +kernel)) ggX1_readWind_X1_nextNumber
set_option maxRecDepth 20000 in
theorem ggX1_readWind_X0_wireCount : GoodIn wsX1_readWind wsX0_wireCount := goodIn_r _ [30, 31, 43, 44, 45, 46, 47, 48, 49, 50, 51, 52, 53, 54] (by decide +kernel) (by decide +kernel)
set_option maxRecDepth 20000 in
theorem gX1_readWind_X0_wireCount : GoodIn wsX1_readWind (wsV RX1 83 RX0 yX0_wireCount wsX0_wireCount) := goodIn_app (goodIn_of _ (by decide +kernel)) ggX1_readWind_X0_wireCount
set_option maxRecDepth 20000 in
theorem ggX1_readWind_X0_addWind : GoodIn wsX1_readWind wsX0_addWind := goodIn_r _ [35, 36, 37, 38, 43, 44, 45, 46, 47, 48, 49, 50, 51, 52, 53, 54] (by decide +kernel) (by decide +kernel)
set_option maxRecDepth 20000 in
theorem gX1_readWind_X0_addWind : GoodIn wsX1_readWind (wsV RX1 106 RX0 yX0_addWind wsX0_addWind) := goodIn_app (goodIn_of _ (by decide +kernel)) ggX1_readWind_X0_addWind
set_option maxRecDepth 20000 in
theorem ggX1_readWind_X1_nextStop : GoodIn wsX1_readWind wsX1_nextStop := goodIn_r _ [42, 7, 11, 12, 13, 5, 14, 9, 8, 15, 10, 16, 17, 18, 19, 20, 21, 22, 55, 56, 57, 58, 59] (by decide +kernel) (by decide +kernel)
set_option maxRecDepth 20000 in
theorem gX1_readWind_X1_nextStop : GoodIn wsX1_readWind (wsV RX1 54 RX1 yX1_nextStop wsX1_nextStop) := goodIn_app (goodIn_of _ (by decide +kernel)) ggX1_readWind_X1_nextStop
theorem dX1_readWind_0 : decode cX1_readWind 0 = .ok (.aload_n 1, 1) := by decide +kernel
theorem dX1_readWind_1 : decode cX1_readWind 1 = .ok (.getfield 103, 3) := by decide +kernel
theorem dX1_readWind_4 : decode cX1_readWind 4 = .ok (.bipush 6, 2) := by decide +kernel
theorem dX1_readWind_6 : decode cX1_readWind 6 = .ok (.if_icmp .lt 5, 3) := by decide +kernel
theorem dX1_readWind_9 : decode cX1_readWind 9 = .ok (.iconst 0, 1) := by decide +kernel
theorem dX1_readWind_10 : decode cX1_readWind 10 = .ok (.ireturn, 1) := by decide +kernel
theorem dX1_readWind_11 : decode cX1_readWind 11 = .ok (.aload_n 0, 1) := by decide +kernel
theorem dX1_readWind_12 : decode cX1_readWind 12 = .ok (.iconst 0, 1) := by decide +kernel
theorem dX1_readWind_13 : decode cX1_readWind 13 = .ok (.bipush 59, 2) := by decide +kernel
theorem dX1_readWind_15 : decode cX1_readWind 15 = .ok (.invokevirtual 44, 3) := by decide +kernel
theorem dX1_readWind_18 : decode cX1_readWind 18 = .ok (.istore_n 2, 1) := by decide +kernel
theorem dX1_readWind_19 : decode cX1_readWind 19 = .ok (.iload_n 2, 1) := by decide +kernel
theorem dX1_readWind_20 : decode cX1_readWind 20 = .ok (.ifCond .ge 7, 3) := by decide +kernel
theorem dX1_readWind_23 : decode cX1_readWind 23 = .ok (.iconst (-1), 1) := by decide +kernel
theorem dX1_readWind_24 : decode cX1_readWind 24 = .ok (.goto 14, 3) := by decide +kernel
theorem dX1_readWind_27 : decode cX1_readWind 27 = .ok (.aload_n 0, 1) := by decide +kernel
theorem dX1_readWind_28 : decode cX1_readWind 28 = .ok (.iconst 0, 1) := by decide +kernel
theorem dX1_readWind_29 : decode cX1_readWind 29 = .ok (.aload_n 1, 1) := by decide +kernel
theorem dX1_readWind_30 : decode cX1_readWind 30 = .ok (.invokevirtual 83, 3) := by decide +kernel
theorem dX1_readWind_33 : decode cX1_readWind 33 = .ok (.iconst 1, 1) := by decide +kernel
theorem dX1_readWind_34 : decode cX1_readWind 34 = .ok (.isub, 1) := by decide +kernel
theorem dX1_readWind_35 : decode cX1_readWind 35 = .ok (.invokevirtual 44, 3) := by decide +kernel
theorem dX1_readWind_38 : decode cX1_readWind 38 = .ok (.istore_n 3, 1) := by decide +kernel
theorem dX1_readWind_39 : decode cX1_readWind 39 = .ok (.iload_n 3, 1) := by decide +kernel
theorem dX1_readWind_40 : decode cX1_readWind 40 = .ok (.ifCond .ge 5, 3) := by decide +kernel
theorem dX1_readWind_43 : decode cX1_readWind 43 = .ok (.iconst 0, 1) := by decide +kernel
theorem dX1_readWind_44 : decode cX1_readWind 44 = .ok (.ireturn, 1) := by decide +kernel
theorem dX1_readWind_45 : decode cX1_readWind 45 = .ok (.aload_n 1, 1) := by decide +kernel
theorem dX1_readWind_46 : decode cX1_readWind 46 = .ok (.iload_n 2, 1) := by decide +kernel
theorem dX1_readWind_47 : decode cX1_readWind 47 = .ok (.iload_n 3, 1) := by decide +kernel
theorem dX1_readWind_48 : decode cX1_readWind 48 = .ok (.invokevirtual 106, 3) := by decide +kernel
theorem dX1_readWind_51 : decode cX1_readWind 51 = .ok (.aload_n 0, 1) := by decide +kernel
theorem dX1_readWind_52 : decode cX1_readWind 52 = .ok (.invokevirtual 54, 3) := by decide +kernel
theorem dX1_readWind_55 : decode cX1_readWind 55 = .ok (.ireturn, 1) := by decide +kernel
set_option maxRecDepth 20000 in
theorem ggX1_readPass_X1_nextNumber : GoodIn wsX1_readPass wsX1_nextNumber := goodIn_r _ [6, 7, 8, 9, 10, 11, 12, 13, 5, 14, 15, 16, 17, 18, 19, 20, 21, 22, 23, 24, 25, 56, 57, 58, 59, 60] (by decide +kernel) (by decide +kernel)
set_option maxRecDepth 20000 in
theorem gX1_readPass_X1_nextNumber : GoodIn wsX1_readPass (wsV RX1 44 RX1 yX1_nextNumber wsX1_nextNumber) := goodIn_app (goodIn_of _ (by decide +kernel)) ggX1_readPass_X1_nextNumber
set_option maxRecDepth 20000 in
theorem ggX1_readPass_X0_wireCount : GoodIn wsX1_readPass wsX0_wireCount := goodIn_r _ [30, 31, 44, 45, 46, 47, 48, 49, 50, 51, 52, 53, 54, 55] (by decide +kernel) (by decide +kernel)
set_option maxRecDepth 20000 in
theorem gX1_readPass_X0_wireCount : GoodIn wsX1_readPass (wsV RX1 83 RX0 yX0_wireCount wsX0_wireCount) := goodIn_app (goodIn_of _ (by decide +kernel)) ggX1_readPass_X0_wireCount
set_option maxRecDepth 20000 in
theorem ggX1_readPass_X0_addPass : GoodIn wsX1_readPass wsX0_addPass := goodIn_r _ [35, 36, 37, 38, 39, 44, 45, 46, 47, 48, 49, 50, 51, 52, 53, 54, 55] (by decide +kernel) (by decide +kernel)
set_option maxRecDepth 20000 in
theorem gX1_readPass_X0_addPass : GoodIn wsX1_readPass (wsV RX1 113 RX0 yX0_addPass wsX0_addPass) := goodIn_app (goodIn_of _ (by decide +kernel)) ggX1_readPass_X0_addPass
set_option maxRecDepth 20000 in
theorem ggX1_readPass_X1_nextStop : GoodIn wsX1_readPass wsX1_nextStop := goodIn_r _ [43, 7, 11, 12, 13, 5, 14, 9, 8, 15, 10, 16, 17, 18, 19, 20, 21, 22, 56, 57, 58, 59, 60] (by decide +kernel) (by decide +kernel)
set_option maxRecDepth 20000 in
theorem gX1_readPass_X1_nextStop : GoodIn wsX1_readPass (wsV RX1 54 RX1 yX1_nextStop wsX1_nextStop) := goodIn_app (goodIn_of _ (by decide +kernel)) ggX1_readPass_X1_nextStop
theorem dX1_readPass_0 : decode cX1_readPass 0 = .ok (.aload_n 1, 1) := by decide +kernel
theorem dX1_readPass_1 : decode cX1_readPass 1 = .ok (.getfield 110, 3) := by decide +kernel
theorem dX1_readPass_4 : decode cX1_readPass 4 = .ok (.bipush 8, 2) := by decide +kernel
theorem dX1_readPass_6 : decode cX1_readPass 6 = .ok (.if_icmp .lt 5, 3) := by decide +kernel
theorem dX1_readPass_9 : decode cX1_readPass 9 = .ok (.iconst 0, 1) := by decide +kernel
theorem dX1_readPass_10 : decode cX1_readPass 10 = .ok (.ireturn, 1) := by decide +kernel
theorem dX1_readPass_11 : decode cX1_readPass 11 = .ok (.aload_n 0, 1) := by decide +kernel
theorem dX1_readPass_12 : decode cX1_readPass 12 = .ok (.iconst 0, 1) := by decide +kernel
theorem dX1_readPass_13 : decode cX1_readPass 13 = .ok (.bipush 59, 2) := by decide +kernel
theorem dX1_readPass_15 : decode cX1_readPass 15 = .ok (.invokevirtual 44, 3) := by decide +kernel
theorem dX1_readPass_18 : decode cX1_readPass 18 = .ok (.istore_n 2, 1) := by decide +kernel
theorem dX1_readPass_19 : decode cX1_readPass 19 = .ok (.iload_n 2, 1) := by decide +kernel
theorem dX1_readPass_20 : decode cX1_readPass 20 = .ok (.ifCond .ge 7, 3) := by decide +kernel
theorem dX1_readPass_23 : decode cX1_readPass 23 = .ok (.iconst (-1), 1) := by decide +kernel
theorem dX1_readPass_24 : decode cX1_readPass 24 = .ok (.goto 14, 3) := by decide +kernel
theorem dX1_readPass_27 : decode cX1_readPass 27 = .ok (.aload_n 0, 1) := by decide +kernel
theorem dX1_readPass_28 : decode cX1_readPass 28 = .ok (.iconst 0, 1) := by decide +kernel
theorem dX1_readPass_29 : decode cX1_readPass 29 = .ok (.aload_n 1, 1) := by decide +kernel
theorem dX1_readPass_30 : decode cX1_readPass 30 = .ok (.invokevirtual 83, 3) := by decide +kernel
theorem dX1_readPass_33 : decode cX1_readPass 33 = .ok (.iconst 1, 1) := by decide +kernel
theorem dX1_readPass_34 : decode cX1_readPass 34 = .ok (.isub, 1) := by decide +kernel
theorem dX1_readPass_35 : decode cX1_readPass 35 = .ok (.invokevirtual 44, 3) := by decide +kernel
theorem dX1_readPass_38 : decode cX1_readPass 38 = .ok (.istore_n 3, 1) := by decide +kernel
theorem dX1_readPass_39 : decode cX1_readPass 39 = .ok (.iload_n 3, 1) := by decide +kernel
theorem dX1_readPass_40 : decode cX1_readPass 40 = .ok (.ifCond .ge 7, 3) := by decide +kernel
theorem dX1_readPass_43 : decode cX1_readPass 43 = .ok (.iconst (-1), 1) := by decide +kernel
theorem dX1_readPass_44 : decode cX1_readPass 44 = .ok (.goto 9, 3) := by decide +kernel
theorem dX1_readPass_47 : decode cX1_readPass 47 = .ok (.aload_n 0, 1) := by decide +kernel
theorem dX1_readPass_48 : decode cX1_readPass 48 = .ok (.iconst 0, 1) := by decide +kernel
theorem dX1_readPass_49 : decode cX1_readPass 49 = .ok (.iconst 3, 1) := by decide +kernel
theorem dX1_readPass_50 : decode cX1_readPass 50 = .ok (.invokevirtual 44, 3) := by decide +kernel
theorem dX1_readPass_53 : decode cX1_readPass 53 = .ok (.istore 4, 2) := by decide +kernel
theorem dX1_readPass_55 : decode cX1_readPass 55 = .ok (.iload 4, 2) := by decide +kernel
theorem dX1_readPass_57 : decode cX1_readPass 57 = .ok (.ifCond .ge 5, 3) := by decide +kernel
theorem dX1_readPass_60 : decode cX1_readPass 60 = .ok (.iconst 0, 1) := by decide +kernel
theorem dX1_readPass_61 : decode cX1_readPass 61 = .ok (.ireturn, 1) := by decide +kernel
theorem dX1_readPass_62 : decode cX1_readPass 62 = .ok (.aload_n 1, 1) := by decide +kernel
theorem dX1_readPass_63 : decode cX1_readPass 63 = .ok (.iload_n 2, 1) := by decide +kernel
theorem dX1_readPass_64 : decode cX1_readPass 64 = .ok (.iload_n 3, 1) := by decide +kernel
theorem dX1_readPass_65 : decode cX1_readPass 65 = .ok (.iload 4, 2) := by decide +kernel
theorem dX1_readPass_67 : decode cX1_readPass 67 = .ok (.invokevirtual 113, 3) := by decide +kernel
theorem dX1_readPass_70 : decode cX1_readPass 70 = .ok (.aload_n 0, 1) := by decide +kernel
theorem dX1_readPass_71 : decode cX1_readPass 71 = .ok (.invokevirtual 54, 3) := by decide +kernel
theorem dX1_readPass_74 : decode cX1_readPass 74 = .ok (.ireturn, 1) := by decide +kernel
set_option maxRecDepth 20000 in
theorem ggX1_nextStop_X1_scan : GoodIn wsX1_nextStop wsX1_scan := goodIn_r _ [6, 7, 8, 9, 10, 1, 11, 12, 13, 14, 15, 16, 5, 17, 18, 19, 20, 21, 22] (by decide +kernel) (by decide +kernel)
set_option maxRecDepth 20000 in
theorem gX1_nextStop_X1_scan : GoodIn wsX1_nextStop (wsV RX1 22 RX1 yX1_scan wsX1_scan) := goodIn_app (goodIn_of _ (by decide +kernel)) ggX1_nextStop_X1_scan
theorem dX1_nextStop_0 : decode cX1_nextStop 0 = .ok (.aload_n 0, 1) := by decide +kernel
theorem dX1_nextStop_1 : decode cX1_nextStop 1 = .ok (.invokevirtual 22, 3) := by decide +kernel
theorem dX1_nextStop_4 : decode cX1_nextStop 4 = .ok (.aload_n 0, 1) := by decide +kernel
theorem dX1_nextStop_5 : decode cX1_nextStop 5 = .ok (.getfield 29, 3) := by decide +kernel
theorem dX1_nextStop_8 : decode cX1_nextStop 8 = .ok (.iconst 3, 1) := by decide +kernel
theorem dX1_nextStop_9 : decode cX1_nextStop 9 = .ok (.if_icmp .ne 7, 3) := by decide +kernel
theorem dX1_nextStop_12 : decode cX1_nextStop 12 = .ok (.iconst 1, 1) := by decide +kernel
theorem dX1_nextStop_13 : decode cX1_nextStop 13 = .ok (.goto 4, 3) := by decide +kernel
theorem dX1_nextStop_16 : decode cX1_nextStop 16 = .ok (.iconst 0, 1) := by decide +kernel
theorem dX1_nextStop_17 : decode cX1_nextStop 17 = .ok (.ireturn, 1) := by decide +kernel
set_option maxRecDepth 20000 in
theorem ggX1_nextNumber_X1_scan : GoodIn wsX1_nextNumber wsX1_scan := goodIn_r _ [9, 3, 2, 10, 4, 1, 11, 12, 13, 14, 15, 16, 8, 17, 21, 22, 23, 24, 25] (by decide +kernel) (by decide +kernel)
set_option maxRecDepth 20000 in
theorem gX1_nextNumber_X1_scan : GoodIn wsX1_nextNumber (wsV RX1 22 RX1 yX1_scan wsX1_scan) := goodIn_app (goodIn_of _ (by decide +kernel)) ggX1_nextNumber_X1_scan
set_option maxRecDepth 20000 in
theorem ggX1_nextNumber_X5_within : GoodIn wsX1_nextNumber wsX5_within := goodIn_r _ [20] (by decide +kernel) (by decide +kernel)
set_option maxRecDepth 20000 in
theorem gX1_nextNumber_X5_within_n116 : GoodIn wsX1_nextNumber (wsX5_within) := ggX1_nextNumber_X5_within
theorem dX1_nextNumber_0 : decode cX1_nextNumber 0 = .ok (.aload_n 0, 1) := by decide +kernel
theorem dX1_nextNumber_1 : decode cX1_nextNumber 1 = .ok (.invokevirtual 22, 3) := by decide +kernel
theorem dX1_nextNumber_4 : decode cX1_nextNumber 4 = .ok (.aload_n 0, 1) := by decide +kernel
theorem dX1_nextNumber_5 : decode cX1_nextNumber 5 = .ok (.getfield 29, 3) := by decide +kernel
theorem dX1_nextNumber_8 : decode cX1_nextNumber 8 = .ok (.iconst 2, 1) := by decide +kernel
theorem dX1_nextNumber_9 : decode cX1_nextNumber 9 = .ok (.if_icmp .eq 5, 3) := by decide +kernel
theorem dX1_nextNumber_12 : decode cX1_nextNumber 12 = .ok (.iconst (-1), 1) := by decide +kernel
theorem dX1_nextNumber_13 : decode cX1_nextNumber 13 = .ok (.ireturn, 1) := by decide +kernel
theorem dX1_nextNumber_14 : decode cX1_nextNumber 14 = .ok (.iconst 0, 1) := by decide +kernel
theorem dX1_nextNumber_15 : decode cX1_nextNumber 15 = .ok (.istore_n 3, 1) := by decide +kernel
theorem dX1_nextNumber_16 : decode cX1_nextNumber 16 = .ok (.aload_n 0, 1) := by decide +kernel
theorem dX1_nextNumber_17 : decode cX1_nextNumber 17 = .ok (.getfield 35, 3) := by decide +kernel
theorem dX1_nextNumber_20 : decode cX1_nextNumber 20 = .ok (.istore 4, 2) := by decide +kernel
theorem dX1_nextNumber_22 : decode cX1_nextNumber 22 = .ok (.iload 4, 2) := by decide +kernel
theorem dX1_nextNumber_24 : decode cX1_nextNumber 24 = .ok (.aload_n 0, 1) := by decide +kernel
theorem dX1_nextNumber_25 : decode cX1_nextNumber 25 = .ok (.getfield 19, 3) := by decide +kernel
theorem dX1_nextNumber_28 : decode cX1_nextNumber 28 = .ok (.if_icmp .ge 25, 3) := by decide +kernel
theorem dX1_nextNumber_31 : decode cX1_nextNumber 31 = .ok (.bipush 10, 2) := by decide +kernel
theorem dX1_nextNumber_33 : decode cX1_nextNumber 33 = .ok (.iload_n 3, 1) := by decide +kernel
theorem dX1_nextNumber_34 : decode cX1_nextNumber 34 = .ok (.imul, 1) := by decide +kernel
theorem dX1_nextNumber_35 : decode cX1_nextNumber 35 = .ok (.aload_n 0, 1) := by decide +kernel
theorem dX1_nextNumber_36 : decode cX1_nextNumber 36 = .ok (.getfield 9, 3) := by decide +kernel
theorem dX1_nextNumber_39 : decode cX1_nextNumber 39 = .ok (.iload 4, 2) := by decide +kernel
theorem dX1_nextNumber_41 : decode cX1_nextNumber 41 = .ok (.baload, 1) := by decide +kernel
theorem dX1_nextNumber_42 : decode cX1_nextNumber 42 = .ok (.iadd, 1) := by decide +kernel
theorem dX1_nextNumber_43 : decode cX1_nextNumber 43 = .ok (.bipush 48, 2) := by decide +kernel
theorem dX1_nextNumber_45 : decode cX1_nextNumber 45 = .ok (.isub, 1) := by decide +kernel
theorem dX1_nextNumber_46 : decode cX1_nextNumber 46 = .ok (.istore_n 3, 1) := by decide +kernel
theorem dX1_nextNumber_47 : decode cX1_nextNumber 47 = .ok (.iinc 4 1, 3) := by decide +kernel
theorem dX1_nextNumber_50 : decode cX1_nextNumber 50 = .ok (.goto (-28), 3) := by decide +kernel
theorem dX1_nextNumber_53 : decode cX1_nextNumber 53 = .ok (.iload_n 3, 1) := by decide +kernel
theorem dX1_nextNumber_54 : decode cX1_nextNumber 54 = .ok (.iload_n 1, 1) := by decide +kernel
theorem dX1_nextNumber_55 : decode cX1_nextNumber 55 = .ok (.iload_n 2, 1) := by decide +kernel
theorem dX1_nextNumber_56 : decode cX1_nextNumber 56 = .ok (.invokestatic 116, 3) := by decide +kernel
theorem dX1_nextNumber_59 : decode cX1_nextNumber 59 = .ok (.ifCond .eq 7, 3) := by decide +kernel
theorem dX1_nextNumber_62 : decode cX1_nextNumber 62 = .ok (.iload_n 3, 1) := by decide +kernel
theorem dX1_nextNumber_63 : decode cX1_nextNumber 63 = .ok (.goto 4, 3) := by decide +kernel
theorem dX1_nextNumber_66 : decode cX1_nextNumber 66 = .ok (.iconst (-1), 1) := by decide +kernel
theorem dX1_nextNumber_67 : decode cX1_nextNumber 67 = .ok (.ireturn, 1) := by decide +kernel
set_option maxRecDepth 20000 in
theorem ggX1_isWord_J0_length_8abf5 : GoodIn wsX1_isWord wsJ0_length_8abf5 := goodIn_r _ [9, 10, 11, 12, 13, 8, 14, 15, 16] (by decide +kernel) (by decide +kernel)
set_option maxRecDepth 20000 in
theorem gX1_isWord_J0_length_8abf5 : GoodIn wsX1_isWord (wsV RX1 120 RJ0 yJ0_length_8abf5 wsJ0_length_8abf5) := goodIn_app (goodIn_of _ (by decide +kernel)) ggX1_isWord_J0_length_8abf5
set_option maxRecDepth 20000 in
theorem ggX1_isWord_J0_charAt_5068e : GoodIn wsX1_isWord wsJ0_charAt_5068e := goodIn_r _ [20, 10, 21, 22, 23, 8, 24, 15, 16, 25, 26, 27, 28, 29, 30, 31, 32, 33, 34, 35, 36, 37, 38, 39, 40, 41, 42, 43, 44, 45, 46, 47, 48, 49, 50, 51, 52, 53] (by decide +kernel) (by decide +kernel)
set_option maxRecDepth 20000 in
theorem gX1_isWord_J0_charAt_5068e : GoodIn wsX1_isWord (wsV RX1 124 RJ0 yJ0_charAt_5068e wsJ0_charAt_5068e) := goodIn_app (goodIn_of _ (by decide +kernel)) ggX1_isWord_J0_charAt_5068e
theorem dX1_isWord_0 : decode cX1_isWord 0 = .ok (.aload_n 0, 1) := by decide +kernel
theorem dX1_isWord_1 : decode cX1_isWord 1 = .ok (.getfield 29, 3) := by decide +kernel
theorem dX1_isWord_4 : decode cX1_isWord 4 = .ok (.iconst 1, 1) := by decide +kernel
theorem dX1_isWord_5 : decode cX1_isWord 5 = .ok (.if_icmp .ne 19, 3) := by decide +kernel
theorem dX1_isWord_8 : decode cX1_isWord 8 = .ok (.aload_n 0, 1) := by decide +kernel
theorem dX1_isWord_9 : decode cX1_isWord 9 = .ok (.getfield 19, 3) := by decide +kernel
theorem dX1_isWord_12 : decode cX1_isWord 12 = .ok (.aload_n 0, 1) := by decide +kernel
theorem dX1_isWord_13 : decode cX1_isWord 13 = .ok (.getfield 35, 3) := by decide +kernel
theorem dX1_isWord_16 : decode cX1_isWord 16 = .ok (.isub, 1) := by decide +kernel
theorem dX1_isWord_17 : decode cX1_isWord 17 = .ok (.aload_n 1, 1) := by decide +kernel
theorem dX1_isWord_18 : decode cX1_isWord 18 = .ok (.invokevirtual 120, 3) := by decide +kernel
theorem dX1_isWord_21 : decode cX1_isWord 21 = .ok (.if_icmp .eq 5, 3) := by decide +kernel
theorem dX1_isWord_24 : decode cX1_isWord 24 = .ok (.iconst 0, 1) := by decide +kernel
theorem dX1_isWord_25 : decode cX1_isWord 25 = .ok (.ireturn, 1) := by decide +kernel
theorem dX1_isWord_26 : decode cX1_isWord 26 = .ok (.iconst 0, 1) := by decide +kernel
theorem dX1_isWord_27 : decode cX1_isWord 27 = .ok (.istore_n 2, 1) := by decide +kernel
theorem dX1_isWord_28 : decode cX1_isWord 28 = .ok (.iload_n 2, 1) := by decide +kernel
theorem dX1_isWord_29 : decode cX1_isWord 29 = .ok (.aload_n 1, 1) := by decide +kernel
theorem dX1_isWord_30 : decode cX1_isWord 30 = .ok (.invokevirtual 120, 3) := by decide +kernel
theorem dX1_isWord_33 : decode cX1_isWord 33 = .ok (.if_icmp .ge 30, 3) := by decide +kernel
theorem dX1_isWord_36 : decode cX1_isWord 36 = .ok (.aload_n 0, 1) := by decide +kernel
theorem dX1_isWord_37 : decode cX1_isWord 37 = .ok (.getfield 9, 3) := by decide +kernel
theorem dX1_isWord_40 : decode cX1_isWord 40 = .ok (.aload_n 0, 1) := by decide +kernel
theorem dX1_isWord_41 : decode cX1_isWord 41 = .ok (.getfield 35, 3) := by decide +kernel
theorem dX1_isWord_44 : decode cX1_isWord 44 = .ok (.iload_n 2, 1) := by decide +kernel
theorem dX1_isWord_45 : decode cX1_isWord 45 = .ok (.iadd, 1) := by decide +kernel
theorem dX1_isWord_46 : decode cX1_isWord 46 = .ok (.baload, 1) := by decide +kernel
theorem dX1_isWord_47 : decode cX1_isWord 47 = .ok (.aload_n 1, 1) := by decide +kernel
theorem dX1_isWord_48 : decode cX1_isWord 48 = .ok (.iload_n 2, 1) := by decide +kernel
theorem dX1_isWord_49 : decode cX1_isWord 49 = .ok (.invokevirtual 124, 3) := by decide +kernel
theorem dX1_isWord_52 : decode cX1_isWord 52 = .ok (.if_icmp .eq 5, 3) := by decide +kernel
theorem dX1_isWord_55 : decode cX1_isWord 55 = .ok (.iconst 0, 1) := by decide +kernel
theorem dX1_isWord_56 : decode cX1_isWord 56 = .ok (.ireturn, 1) := by decide +kernel
theorem dX1_isWord_57 : decode cX1_isWord 57 = .ok (.iinc 2 1, 3) := by decide +kernel
theorem dX1_isWord_60 : decode cX1_isWord 60 = .ok (.goto (-32), 3) := by decide +kernel
theorem dX1_isWord_63 : decode cX1_isWord 63 = .ok (.iconst 1, 1) := by decide +kernel
theorem dX1_isWord_64 : decode cX1_isWord 64 = .ok (.ireturn, 1) := by decide +kernel
set_option maxRecDepth 20000 in
theorem ggX1_scan_X1_tokenOf : GoodIn wsX1_scan wsX1_tokenOf := goodIn_r _ [13] (by decide +kernel) (by decide +kernel)
set_option maxRecDepth 20000 in
theorem gX1_scan_X1_tokenOf : GoodIn wsX1_scan (va_wsS RX1 128 yX1_tokenOf wsX1_tokenOf) := goodIn_app (goodIn_of _ (by decide +kernel)) ggX1_scan_X1_tokenOf
theorem dX1_scan_0 : decode cX1_scan 0 = .ok (.aload_n 0, 1) := by decide +kernel
theorem dX1_scan_1 : decode cX1_scan 1 = .ok (.aload_n 0, 1) := by decide +kernel
theorem dX1_scan_2 : decode cX1_scan 2 = .ok (.getfield 19, 3) := by decide +kernel
theorem dX1_scan_5 : decode cX1_scan 5 = .ok (.putfield 35, 3) := by decide +kernel
theorem dX1_scan_8 : decode cX1_scan 8 = .ok (.aload_n 0, 1) := by decide +kernel
theorem dX1_scan_9 : decode cX1_scan 9 = .ok (.getfield 35, 3) := by decide +kernel
theorem dX1_scan_12 : decode cX1_scan 12 = .ok (.aload_n 0, 1) := by decide +kernel
theorem dX1_scan_13 : decode cX1_scan 13 = .ok (.getfield 15, 3) := by decide +kernel
theorem dX1_scan_16 : decode cX1_scan 16 = .ok (.if_icmp .ge 30, 3) := by decide +kernel
theorem dX1_scan_19 : decode cX1_scan 19 = .ok (.aload_n 0, 1) := by decide +kernel
theorem dX1_scan_20 : decode cX1_scan 20 = .ok (.getfield 9, 3) := by decide +kernel
theorem dX1_scan_23 : decode cX1_scan 23 = .ok (.aload_n 0, 1) := by decide +kernel
theorem dX1_scan_24 : decode cX1_scan 24 = .ok (.getfield 35, 3) := by decide +kernel
theorem dX1_scan_27 : decode cX1_scan 27 = .ok (.baload, 1) := by decide +kernel
theorem dX1_scan_28 : decode cX1_scan 28 = .ok (.bipush 32, 2) := by decide +kernel
theorem dX1_scan_30 : decode cX1_scan 30 = .ok (.if_icmp .ne 16, 3) := by decide +kernel
theorem dX1_scan_33 : decode cX1_scan 33 = .ok (.aload_n 0, 1) := by decide +kernel
theorem dX1_scan_34 : decode cX1_scan 34 = .ok (.dup, 1) := by decide +kernel
theorem dX1_scan_35 : decode cX1_scan 35 = .ok (.getfield 35, 3) := by decide +kernel
theorem dX1_scan_38 : decode cX1_scan 38 = .ok (.iconst 1, 1) := by decide +kernel
theorem dX1_scan_39 : decode cX1_scan 39 = .ok (.iadd, 1) := by decide +kernel
theorem dX1_scan_40 : decode cX1_scan 40 = .ok (.putfield 35, 3) := by decide +kernel
theorem dX1_scan_43 : decode cX1_scan 43 = .ok (.goto (-35), 3) := by decide +kernel
theorem dX1_scan_46 : decode cX1_scan 46 = .ok (.aload_n 0, 1) := by decide +kernel
theorem dX1_scan_47 : decode cX1_scan 47 = .ok (.aload_n 0, 1) := by decide +kernel
theorem dX1_scan_48 : decode cX1_scan 48 = .ok (.getfield 35, 3) := by decide +kernel
theorem dX1_scan_51 : decode cX1_scan 51 = .ok (.aload_n 0, 1) := by decide +kernel
theorem dX1_scan_52 : decode cX1_scan 52 = .ok (.getfield 15, 3) := by decide +kernel
theorem dX1_scan_55 : decode cX1_scan 55 = .ok (.if_icmp .ge 18, 3) := by decide +kernel
theorem dX1_scan_58 : decode cX1_scan 58 = .ok (.aload_n 0, 1) := by decide +kernel
theorem dX1_scan_59 : decode cX1_scan 59 = .ok (.getfield 9, 3) := by decide +kernel
theorem dX1_scan_62 : decode cX1_scan 62 = .ok (.aload_n 0, 1) := by decide +kernel
theorem dX1_scan_63 : decode cX1_scan 63 = .ok (.getfield 35, 3) := by decide +kernel
theorem dX1_scan_66 : decode cX1_scan 66 = .ok (.baload, 1) := by decide +kernel
theorem dX1_scan_67 : decode cX1_scan 67 = .ok (.invokestatic 128, 3) := by decide +kernel
theorem dX1_scan_70 : decode cX1_scan 70 = .ok (.goto 4, 3) := by decide +kernel
theorem dX1_scan_73 : decode cX1_scan 73 = .ok (.iconst 0, 1) := by decide +kernel
theorem dX1_scan_74 : decode cX1_scan 74 = .ok (.putfield 29, 3) := by decide +kernel
theorem dX1_scan_77 : decode cX1_scan 77 = .ok (.aload_n 0, 1) := by decide +kernel
theorem dX1_scan_78 : decode cX1_scan 78 = .ok (.aload_n 0, 1) := by decide +kernel
theorem dX1_scan_79 : decode cX1_scan 79 = .ok (.getfield 15, 3) := by decide +kernel
theorem dX1_scan_82 : decode cX1_scan 82 = .ok (.aload_n 0, 1) := by decide +kernel
theorem dX1_scan_83 : decode cX1_scan 83 = .ok (.getfield 35, 3) := by decide +kernel
theorem dX1_scan_86 : decode cX1_scan 86 = .ok (.iconst 1, 1) := by decide +kernel
theorem dX1_scan_87 : decode cX1_scan 87 = .ok (.iadd, 1) := by decide +kernel
theorem dX1_scan_88 : decode cX1_scan 88 = .ok (.invokestatic 132, 3) := by decide +kernel
theorem dX1_scan_91 : decode cX1_scan 91 = .ok (.putfield 19, 3) := by decide +kernel
theorem dX1_scan_94 : decode cX1_scan 94 = .ok (.aload_n 0, 1) := by decide +kernel
theorem dX1_scan_95 : decode cX1_scan 95 = .ok (.getfield 29, 3) := by decide +kernel
theorem dX1_scan_98 : decode cX1_scan 98 = .ok (.iconst 1, 1) := by decide +kernel
theorem dX1_scan_99 : decode cX1_scan 99 = .ok (.if_icmp .eq 11, 3) := by decide +kernel
theorem dX1_scan_102 : decode cX1_scan 102 = .ok (.aload_n 0, 1) := by decide +kernel
theorem dX1_scan_103 : decode cX1_scan 103 = .ok (.getfield 29, 3) := by decide +kernel
theorem dX1_scan_106 : decode cX1_scan 106 = .ok (.iconst 2, 1) := by decide +kernel
theorem dX1_scan_107 : decode cX1_scan 107 = .ok (.if_icmp .ne 46, 3) := by decide +kernel
theorem dX1_scan_110 : decode cX1_scan 110 = .ok (.aload_n 0, 1) := by decide +kernel
theorem dX1_scan_111 : decode cX1_scan 111 = .ok (.getfield 19, 3) := by decide +kernel
theorem dX1_scan_114 : decode cX1_scan 114 = .ok (.aload_n 0, 1) := by decide +kernel
theorem dX1_scan_115 : decode cX1_scan 115 = .ok (.getfield 15, 3) := by decide +kernel
theorem dX1_scan_118 : decode cX1_scan 118 = .ok (.if_icmp .ge 35, 3) := by decide +kernel
theorem dX1_scan_121 : decode cX1_scan 121 = .ok (.aload_n 0, 1) := by decide +kernel
theorem dX1_scan_122 : decode cX1_scan 122 = .ok (.getfield 9, 3) := by decide +kernel
theorem dX1_scan_125 : decode cX1_scan 125 = .ok (.aload_n 0, 1) := by decide +kernel
theorem dX1_scan_126 : decode cX1_scan 126 = .ok (.getfield 19, 3) := by decide +kernel
theorem dX1_scan_129 : decode cX1_scan 129 = .ok (.baload, 1) := by decide +kernel
theorem dX1_scan_130 : decode cX1_scan 130 = .ok (.invokestatic 128, 3) := by decide +kernel
theorem dX1_scan_133 : decode cX1_scan 133 = .ok (.aload_n 0, 1) := by decide +kernel
theorem dX1_scan_134 : decode cX1_scan 134 = .ok (.getfield 29, 3) := by decide +kernel
theorem dX1_scan_137 : decode cX1_scan 137 = .ok (.if_icmp .ne 16, 3) := by decide +kernel
theorem dX1_scan_140 : decode cX1_scan 140 = .ok (.aload_n 0, 1) := by decide +kernel
theorem dX1_scan_141 : decode cX1_scan 141 = .ok (.dup, 1) := by decide +kernel
theorem dX1_scan_142 : decode cX1_scan 142 = .ok (.getfield 19, 3) := by decide +kernel
theorem dX1_scan_145 : decode cX1_scan 145 = .ok (.iconst 1, 1) := by decide +kernel
theorem dX1_scan_146 : decode cX1_scan 146 = .ok (.iadd, 1) := by decide +kernel
theorem dX1_scan_147 : decode cX1_scan 147 = .ok (.putfield 19, 3) := by decide +kernel
theorem dX1_scan_150 : decode cX1_scan 150 = .ok (.goto (-40), 3) := by decide +kernel
theorem dX1_scan_153 : decode cX1_scan 153 = .ok (.aload_n 0, 1) := by decide +kernel
theorem dX1_scan_154 : decode cX1_scan 154 = .ok (.getfield 29, 3) := by decide +kernel
theorem dX1_scan_157 : decode cX1_scan 157 = .ok (.iconst 2, 1) := by decide +kernel
theorem dX1_scan_158 : decode cX1_scan 158 = .ok (.if_icmp .ne 21, 3) := by decide +kernel
theorem dX1_scan_161 : decode cX1_scan 161 = .ok (.aload_n 0, 1) := by decide +kernel
theorem dX1_scan_162 : decode cX1_scan 162 = .ok (.getfield 19, 3) := by decide +kernel
theorem dX1_scan_165 : decode cX1_scan 165 = .ok (.aload_n 0, 1) := by decide +kernel
theorem dX1_scan_166 : decode cX1_scan 166 = .ok (.getfield 35, 3) := by decide +kernel
theorem dX1_scan_169 : decode cX1_scan 169 = .ok (.isub, 1) := by decide +kernel
theorem dX1_scan_170 : decode cX1_scan 170 = .ok (.iconst 2, 1) := by decide +kernel
theorem dX1_scan_171 : decode cX1_scan 171 = .ok (.if_icmp .le 8, 3) := by decide +kernel
theorem dX1_scan_174 : decode cX1_scan 174 = .ok (.aload_n 0, 1) := by decide +kernel
theorem dX1_scan_175 : decode cX1_scan 175 = .ok (.iconst 4, 1) := by decide +kernel
theorem dX1_scan_176 : decode cX1_scan 176 = .ok (.putfield 29, 3) := by decide +kernel
theorem dX1_scan_179 : decode cX1_scan 179 = .ok (.return_, 1) := by decide +kernel
theorem dX1_tokenOf_0 : decode cX1_tokenOf 0 = .ok (.iload_n 0, 1) := by decide +kernel
theorem dX1_tokenOf_1 : decode cX1_tokenOf 1 = .ok (.bipush 97, 2) := by decide +kernel
theorem dX1_tokenOf_3 : decode cX1_tokenOf 3 = .ok (.if_icmp .lt 11, 3) := by decide +kernel
theorem dX1_tokenOf_6 : decode cX1_tokenOf 6 = .ok (.iload_n 0, 1) := by decide +kernel
theorem dX1_tokenOf_7 : decode cX1_tokenOf 7 = .ok (.bipush 122, 2) := by decide +kernel
theorem dX1_tokenOf_9 : decode cX1_tokenOf 9 = .ok (.if_icmp .gt 5, 3) := by decide +kernel
theorem dX1_tokenOf_12 : decode cX1_tokenOf 12 = .ok (.iconst 1, 1) := by decide +kernel
theorem dX1_tokenOf_13 : decode cX1_tokenOf 13 = .ok (.ireturn, 1) := by decide +kernel
theorem dX1_tokenOf_14 : decode cX1_tokenOf 14 = .ok (.iload_n 0, 1) := by decide +kernel
theorem dX1_tokenOf_15 : decode cX1_tokenOf 15 = .ok (.bipush 48, 2) := by decide +kernel
theorem dX1_tokenOf_17 : decode cX1_tokenOf 17 = .ok (.if_icmp .lt 11, 3) := by decide +kernel
theorem dX1_tokenOf_20 : decode cX1_tokenOf 20 = .ok (.iload_n 0, 1) := by decide +kernel
theorem dX1_tokenOf_21 : decode cX1_tokenOf 21 = .ok (.bipush 57, 2) := by decide +kernel
theorem dX1_tokenOf_23 : decode cX1_tokenOf 23 = .ok (.if_icmp .gt 5, 3) := by decide +kernel
theorem dX1_tokenOf_26 : decode cX1_tokenOf 26 = .ok (.iconst 2, 1) := by decide +kernel
theorem dX1_tokenOf_27 : decode cX1_tokenOf 27 = .ok (.ireturn, 1) := by decide +kernel
theorem dX1_tokenOf_28 : decode cX1_tokenOf 28 = .ok (.iload_n 0, 1) := by decide +kernel
theorem dX1_tokenOf_29 : decode cX1_tokenOf 29 = .ok (.bipush 59, 2) := by decide +kernel
theorem dX1_tokenOf_31 : decode cX1_tokenOf 31 = .ok (.if_icmp .ne 7, 3) := by decide +kernel
theorem dX1_tokenOf_34 : decode cX1_tokenOf 34 = .ok (.iconst 3, 1) := by decide +kernel
theorem dX1_tokenOf_35 : decode cX1_tokenOf 35 = .ok (.goto 4, 3) := by decide +kernel
theorem dX1_tokenOf_38 : decode cX1_tokenOf 38 = .ok (.iconst 4, 1) := by decide +kernel
theorem dX1_tokenOf_39 : decode cX1_tokenOf 39 = .ok (.ireturn, 1) := by decide +kernel
