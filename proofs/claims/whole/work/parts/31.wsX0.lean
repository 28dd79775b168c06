theorem dX0_init_0 : decode cX0_init 0 = .ok (.aload_n 0, 1) := by decide +kernel
theorem dX0_init_1 : decode cX0_init 1 = .ok (.invokespecial 3, 3) := by decide +kernel
theorem dX0_init_4 : decode cX0_init 4 = .ok (.aload_n 0, 1) := by decide +kernel
theorem dX0_init_5 : decode cX0_init 5 = .ok (.bipush 6, 2) := by decide +kernel
theorem dX0_init_7 : decode cX0_init 7 = .ok (.putfield 9, 3) := by decide +kernel
theorem dX0_init_10 : decode cX0_init 10 = .ok (.aload_n 0, 1) := by decide +kernel
theorem dX0_init_11 : decode cX0_init 11 = .ok (.bipush 8, 2) := by decide +kernel
theorem dX0_init_13 : decode cX0_init 13 = .ok (.newarray .int, 2) := by decide +kernel
theorem dX0_init_15 : decode cX0_init 15 = .ok (.putfield 15, 3) := by decide +kernel
theorem dX0_init_18 : decode cX0_init 18 = .ok (.aload_n 0, 1) := by decide +kernel
theorem dX0_init_19 : decode cX0_init 19 = .ok (.bipush 8, 2) := by decide +kernel
theorem dX0_init_21 : decode cX0_init 21 = .ok (.newarray .int, 2) := by decide +kernel
theorem dX0_init_23 : decode cX0_init 23 = .ok (.putfield 19, 3) := by decide +kernel
theorem dX0_init_26 : decode cX0_init 26 = .ok (.aload_n 0, 1) := by decide +kernel
theorem dX0_init_27 : decode cX0_init 27 = .ok (.bipush 6, 2) := by decide +kernel
theorem dX0_init_29 : decode cX0_init 29 = .ok (.newarray .int, 2) := by decide +kernel
theorem dX0_init_31 : decode cX0_init 31 = .ok (.putfield 22, 3) := by decide +kernel
theorem dX0_init_34 : decode cX0_init 34 = .ok (.aload_n 0, 1) := by decide +kernel
theorem dX0_init_35 : decode cX0_init 35 = .ok (.bipush 6, 2) := by decide +kernel
theorem dX0_init_37 : decode cX0_init 37 = .ok (.newarray .int, 2) := by decide +kernel
theorem dX0_init_39 : decode cX0_init 39 = .ok (.putfield 25, 3) := by decide +kernel
theorem dX0_init_42 : decode cX0_init 42 = .ok (.aload_n 0, 1) := by decide +kernel
theorem dX0_init_43 : decode cX0_init 43 = .ok (.bipush 8, 2) := by decide +kernel
theorem dX0_init_45 : decode cX0_init 45 = .ok (.newarray .int, 2) := by decide +kernel
theorem dX0_init_47 : decode cX0_init 47 = .ok (.putfield 28, 3) := by decide +kernel
theorem dX0_init_50 : decode cX0_init 50 = .ok (.aload_n 0, 1) := by decide +kernel
theorem dX0_init_51 : decode cX0_init 51 = .ok (.bipush 8, 2) := by decide +kernel
theorem dX0_init_53 : decode cX0_init 53 = .ok (.newarray .int, 2) := by decide +kernel
theorem dX0_init_55 : decode cX0_init 55 = .ok (.putfield 31, 3) := by decide +kernel
theorem dX0_init_58 : decode cX0_init 58 = .ok (.aload_n 0, 1) := by decide +kernel
theorem dX0_init_59 : decode cX0_init 59 = .ok (.bipush 8, 2) := by decide +kernel
theorem dX0_init_61 : decode cX0_init 61 = .ok (.newarray .int, 2) := by decide +kernel
theorem dX0_init_63 : decode cX0_init 63 = .ok (.putfield 34, 3) := by decide +kernel
theorem dX0_init_66 : decode cX0_init 66 = .ok (.return_, 1) := by decide +kernel
set_option maxRecDepth 20000 in
theorem ggX0_startOver_X0_stringWire : GoodIn wsX0_startOver wsX0_stringWire := goodIn_r _ [10, 11, 12, 13, 14, 15, 16, 17, 18, 19, 20, 21, 22, 23, 24] (by decide +kernel) (by decide +kernel)
set_option maxRecDepth 20000 in
theorem gX0_startOver_X0_stringWire : GoodIn wsX0_startOver (wsV RX0 49 RX0 yX0_stringWire wsX0_stringWire) := goodIn_app (goodIn_of _ (by decide +kernel)) ggX0_startOver_X0_stringWire
theorem dX0_startOver_0 : decode cX0_startOver 0 = .ok (.aload_n 0, 1) := by decide +kernel
theorem dX0_startOver_1 : decode cX0_startOver 1 = .ok (.iload_n 1, 1) := by decide +kernel
theorem dX0_startOver_2 : decode cX0_startOver 2 = .ok (.putfield 9, 3) := by decide +kernel
theorem dX0_startOver_5 : decode cX0_startOver 5 = .ok (.aload_n 0, 1) := by decide +kernel
theorem dX0_startOver_6 : decode cX0_startOver 6 = .ok (.iconst 0, 1) := by decide +kernel
theorem dX0_startOver_7 : decode cX0_startOver 7 = .ok (.putfield 37, 3) := by decide +kernel
theorem dX0_startOver_10 : decode cX0_startOver 10 = .ok (.aload_n 0, 1) := by decide +kernel
theorem dX0_startOver_11 : decode cX0_startOver 11 = .ok (.iconst 0, 1) := by decide +kernel
theorem dX0_startOver_12 : decode cX0_startOver 12 = .ok (.putfield 40, 3) := by decide +kernel
theorem dX0_startOver_15 : decode cX0_startOver 15 = .ok (.aload_n 0, 1) := by decide +kernel
theorem dX0_startOver_16 : decode cX0_startOver 16 = .ok (.iconst 0, 1) := by decide +kernel
theorem dX0_startOver_17 : decode cX0_startOver 17 = .ok (.putfield 43, 3) := by decide +kernel
theorem dX0_startOver_20 : decode cX0_startOver 20 = .ok (.aload_n 0, 1) := by decide +kernel
theorem dX0_startOver_21 : decode cX0_startOver 21 = .ok (.iconst 0, 1) := by decide +kernel
theorem dX0_startOver_22 : decode cX0_startOver 22 = .ok (.putfield 46, 3) := by decide +kernel
theorem dX0_startOver_25 : decode cX0_startOver 25 = .ok (.iconst 0, 1) := by decide +kernel
theorem dX0_startOver_26 : decode cX0_startOver 26 = .ok (.istore_n 2, 1) := by decide +kernel
theorem dX0_startOver_27 : decode cX0_startOver 27 = .ok (.iload_n 2, 1) := by decide +kernel
theorem dX0_startOver_28 : decode cX0_startOver 28 = .ok (.bipush 8, 2) := by decide +kernel
theorem dX0_startOver_30 : decode cX0_startOver 30 = .ok (.if_icmp .ge 16, 3) := by decide +kernel
theorem dX0_startOver_33 : decode cX0_startOver 33 = .ok (.aload_n 0, 1) := by decide +kernel
theorem dX0_startOver_34 : decode cX0_startOver 34 = .ok (.iload_n 2, 1) := by decide +kernel
theorem dX0_startOver_35 : decode cX0_startOver 35 = .ok (.iconst 0, 1) := by decide +kernel
theorem dX0_startOver_36 : decode cX0_startOver 36 = .ok (.iconst 0, 1) := by decide +kernel
theorem dX0_startOver_37 : decode cX0_startOver 37 = .ok (.invokevirtual 49, 3) := by decide +kernel
theorem dX0_startOver_40 : decode cX0_startOver 40 = .ok (.iinc 2 1, 3) := by decide +kernel
theorem dX0_startOver_43 : decode cX0_startOver 43 = .ok (.goto (-16), 3) := by decide +kernel
theorem dX0_startOver_46 : decode cX0_startOver 46 = .ok (.return_, 1) := by decide +kernel
theorem dX0_takeFrom_0 : decode cX0_takeFrom 0 = .ok (.aload_n 0, 1) := by decide +kernel
theorem dX0_takeFrom_1 : decode cX0_takeFrom 1 = .ok (.aload_n 1, 1) := by decide +kernel
theorem dX0_takeFrom_2 : decode cX0_takeFrom 2 = .ok (.getfield 9, 3) := by decide +kernel
theorem dX0_takeFrom_5 : decode cX0_takeFrom 5 = .ok (.putfield 9, 3) := by decide +kernel
theorem dX0_takeFrom_8 : decode cX0_takeFrom 8 = .ok (.aload_n 0, 1) := by decide +kernel
theorem dX0_takeFrom_9 : decode cX0_takeFrom 9 = .ok (.aload_n 1, 1) := by decide +kernel
theorem dX0_takeFrom_10 : decode cX0_takeFrom 10 = .ok (.getfield 37, 3) := by decide +kernel
theorem dX0_takeFrom_13 : decode cX0_takeFrom 13 = .ok (.putfield 37, 3) := by decide +kernel
theorem dX0_takeFrom_16 : decode cX0_takeFrom 16 = .ok (.aload_n 0, 1) := by decide +kernel
theorem dX0_takeFrom_17 : decode cX0_takeFrom 17 = .ok (.aload_n 1, 1) := by decide +kernel
theorem dX0_takeFrom_18 : decode cX0_takeFrom 18 = .ok (.getfield 40, 3) := by decide +kernel
theorem dX0_takeFrom_21 : decode cX0_takeFrom 21 = .ok (.putfield 40, 3) := by decide +kernel
theorem dX0_takeFrom_24 : decode cX0_takeFrom 24 = .ok (.aload_n 0, 1) := by decide +kernel
theorem dX0_takeFrom_25 : decode cX0_takeFrom 25 = .ok (.aload_n 1, 1) := by decide +kernel
theorem dX0_takeFrom_26 : decode cX0_takeFrom 26 = .ok (.getfield 43, 3) := by decide +kernel
theorem dX0_takeFrom_29 : decode cX0_takeFrom 29 = .ok (.putfield 43, 3) := by decide +kernel
theorem dX0_takeFrom_32 : decode cX0_takeFrom 32 = .ok (.aload_n 0, 1) := by decide +kernel
theorem dX0_takeFrom_33 : decode cX0_takeFrom 33 = .ok (.aload_n 1, 1) := by decide +kernel
theorem dX0_takeFrom_34 : decode cX0_takeFrom 34 = .ok (.getfield 46, 3) := by decide +kernel
theorem dX0_takeFrom_37 : decode cX0_takeFrom 37 = .ok (.putfield 46, 3) := by decide +kernel
theorem dX0_takeFrom_40 : decode cX0_takeFrom 40 = .ok (.aload_n 1, 1) := by decide +kernel
theorem dX0_takeFrom_41 : decode cX0_takeFrom 41 = .ok (.getfield 15, 3) := by decide +kernel
theorem dX0_takeFrom_44 : decode cX0_takeFrom 44 = .ok (.iconst 0, 1) := by decide +kernel
theorem dX0_takeFrom_45 : decode cX0_takeFrom 45 = .ok (.aload_n 0, 1) := by decide +kernel
theorem dX0_takeFrom_46 : decode cX0_takeFrom 46 = .ok (.getfield 15, 3) := by decide +kernel
theorem dX0_takeFrom_49 : decode cX0_takeFrom 49 = .ok (.iconst 0, 1) := by decide +kernel
theorem dX0_takeFrom_50 : decode cX0_takeFrom 50 = .ok (.bipush 8, 2) := by decide +kernel
theorem dX0_takeFrom_52 : decode cX0_takeFrom 52 = .ok (.invokestatic 53, 3) := by decide +kernel
theorem dX0_takeFrom_55 : decode cX0_takeFrom 55 = .ok (.aload_n 1, 1) := by decide +kernel
theorem dX0_takeFrom_56 : decode cX0_takeFrom 56 = .ok (.getfield 19, 3) := by decide +kernel
theorem dX0_takeFrom_59 : decode cX0_takeFrom 59 = .ok (.iconst 0, 1) := by decide +kernel
theorem dX0_takeFrom_60 : decode cX0_takeFrom 60 = .ok (.aload_n 0, 1) := by decide +kernel
theorem dX0_takeFrom_61 : decode cX0_takeFrom 61 = .ok (.getfield 19, 3) := by decide +kernel
theorem dX0_takeFrom_64 : decode cX0_takeFrom 64 = .ok (.iconst 0, 1) := by decide +kernel
theorem dX0_takeFrom_65 : decode cX0_takeFrom 65 = .ok (.bipush 8, 2) := by decide +kernel
theorem dX0_takeFrom_67 : decode cX0_takeFrom 67 = .ok (.invokestatic 53, 3) := by decide +kernel
theorem dX0_takeFrom_70 : decode cX0_takeFrom 70 = .ok (.aload_n 1, 1) := by decide +kernel
theorem dX0_takeFrom_71 : decode cX0_takeFrom 71 = .ok (.getfield 22, 3) := by decide +kernel
theorem dX0_takeFrom_74 : decode cX0_takeFrom 74 = .ok (.iconst 0, 1) := by decide +kernel
theorem dX0_takeFrom_75 : decode cX0_takeFrom 75 = .ok (.aload_n 0, 1) := by decide +kernel
theorem dX0_takeFrom_76 : decode cX0_takeFrom 76 = .ok (.getfield 22, 3) := by decide +kernel
theorem dX0_takeFrom_79 : decode cX0_takeFrom 79 = .ok (.iconst 0, 1) := by decide +kernel
theorem dX0_takeFrom_80 : decode cX0_takeFrom 80 = .ok (.bipush 6, 2) := by decide +kernel
theorem dX0_takeFrom_82 : decode cX0_takeFrom 82 = .ok (.invokestatic 53, 3) := by decide +kernel
theorem dX0_takeFrom_85 : decode cX0_takeFrom 85 = .ok (.aload_n 1, 1) := by decide +kernel
theorem dX0_takeFrom_86 : decode cX0_takeFrom 86 = .ok (.getfield 25, 3) := by decide +kernel
theorem dX0_takeFrom_89 : decode cX0_takeFrom 89 = .ok (.iconst 0, 1) := by decide +kernel
theorem dX0_takeFrom_90 : decode cX0_takeFrom 90 = .ok (.aload_n 0, 1) := by decide +kernel
theorem dX0_takeFrom_91 : decode cX0_takeFrom 91 = .ok (.getfield 25, 3) := by decide +kernel
theorem dX0_takeFrom_94 : decode cX0_takeFrom 94 = .ok (.iconst 0, 1) := by decide +kernel
theorem dX0_takeFrom_95 : decode cX0_takeFrom 95 = .ok (.bipush 6, 2) := by decide +kernel
theorem dX0_takeFrom_97 : decode cX0_takeFrom 97 = .ok (.invokestatic 53, 3) := by decide +kernel
theorem dX0_takeFrom_100 : decode cX0_takeFrom 100 = .ok (.aload_n 1, 1) := by decide +kernel
theorem dX0_takeFrom_101 : decode cX0_takeFrom 101 = .ok (.getfield 28, 3) := by decide +kernel
theorem dX0_takeFrom_104 : decode cX0_takeFrom 104 = .ok (.iconst 0, 1) := by decide +kernel
theorem dX0_takeFrom_105 : decode cX0_takeFrom 105 = .ok (.aload_n 0, 1) := by decide +kernel
theorem dX0_takeFrom_106 : decode cX0_takeFrom 106 = .ok (.getfield 28, 3) := by decide +kernel
theorem dX0_takeFrom_109 : decode cX0_takeFrom 109 = .ok (.iconst 0, 1) := by decide +kernel
theorem dX0_takeFrom_110 : decode cX0_takeFrom 110 = .ok (.bipush 8, 2) := by decide +kernel
theorem dX0_takeFrom_112 : decode cX0_takeFrom 112 = .ok (.invokestatic 53, 3) := by decide +kernel
theorem dX0_takeFrom_115 : decode cX0_takeFrom 115 = .ok (.aload_n 1, 1) := by decide +kernel
theorem dX0_takeFrom_116 : decode cX0_takeFrom 116 = .ok (.getfield 31, 3) := by decide +kernel
theorem dX0_takeFrom_119 : decode cX0_takeFrom 119 = .ok (.iconst 0, 1) := by decide +kernel
theorem dX0_takeFrom_120 : decode cX0_takeFrom 120 = .ok (.aload_n 0, 1) := by decide +kernel
theorem dX0_takeFrom_121 : decode cX0_takeFrom 121 = .ok (.getfield 31, 3) := by decide +kernel
theorem dX0_takeFrom_124 : decode cX0_takeFrom 124 = .ok (.iconst 0, 1) := by decide +kernel
theorem dX0_takeFrom_125 : decode cX0_takeFrom 125 = .ok (.bipush 8, 2) := by decide +kernel
theorem dX0_takeFrom_127 : decode cX0_takeFrom 127 = .ok (.invokestatic 53, 3) := by decide +kernel
theorem dX0_takeFrom_130 : decode cX0_takeFrom 130 = .ok (.aload_n 1, 1) := by decide +kernel
theorem dX0_takeFrom_131 : decode cX0_takeFrom 131 = .ok (.getfield 34, 3) := by decide +kernel
theorem dX0_takeFrom_134 : decode cX0_takeFrom 134 = .ok (.iconst 0, 1) := by decide +kernel
theorem dX0_takeFrom_135 : decode cX0_takeFrom 135 = .ok (.aload_n 0, 1) := by decide +kernel
theorem dX0_takeFrom_136 : decode cX0_takeFrom 136 = .ok (.getfield 34, 3) := by decide +kernel
theorem dX0_takeFrom_139 : decode cX0_takeFrom 139 = .ok (.iconst 0, 1) := by decide +kernel
theorem dX0_takeFrom_140 : decode cX0_takeFrom 140 = .ok (.bipush 8, 2) := by decide +kernel
theorem dX0_takeFrom_142 : decode cX0_takeFrom 142 = .ok (.invokestatic 53, 3) := by decide +kernel
theorem dX0_takeFrom_145 : decode cX0_takeFrom 145 = .ok (.return_, 1) := by decide +kernel
theorem dX0_stringWire_0 : decode cX0_stringWire 0 = .ok (.aload_n 0, 1) := by decide +kernel
theorem dX0_stringWire_1 : decode cX0_stringWire 1 = .ok (.getfield 15, 3) := by decide +kernel
theorem dX0_stringWire_4 : decode cX0_stringWire 4 = .ok (.iload_n 1, 1) := by decide +kernel
theorem dX0_stringWire_5 : decode cX0_stringWire 5 = .ok (.iload_n 2, 1) := by decide +kernel
theorem dX0_stringWire_6 : decode cX0_stringWire 6 = .ok (.iastore, 1) := by decide +kernel
theorem dX0_stringWire_7 : decode cX0_stringWire 7 = .ok (.aload_n 0, 1) := by decide +kernel
theorem dX0_stringWire_8 : decode cX0_stringWire 8 = .ok (.getfield 19, 3) := by decide +kernel
theorem dX0_stringWire_11 : decode cX0_stringWire 11 = .ok (.iload_n 1, 1) := by decide +kernel
theorem dX0_stringWire_12 : decode cX0_stringWire 12 = .ok (.iload_n 3, 1) := by decide +kernel
theorem dX0_stringWire_13 : decode cX0_stringWire 13 = .ok (.iastore, 1) := by decide +kernel
theorem dX0_stringWire_14 : decode cX0_stringWire 14 = .ok (.return_, 1) := by decide +kernel
theorem dX0_addWind_0 : decode cX0_addWind 0 = .ok (.aload_n 0, 1) := by decide +kernel
theorem dX0_addWind_1 : decode cX0_addWind 1 = .ok (.getfield 43, 3) := by decide +kernel
theorem dX0_addWind_4 : decode cX0_addWind 4 = .ok (.bipush 6, 2) := by decide +kernel
theorem dX0_addWind_6 : decode cX0_addWind 6 = .ok (.if_icmp .ge 33, 3) := by decide +kernel
theorem dX0_addWind_9 : decode cX0_addWind 9 = .ok (.aload_n 0, 1) := by decide +kernel
theorem dX0_addWind_10 : decode cX0_addWind 10 = .ok (.getfield 22, 3) := by decide +kernel
theorem dX0_addWind_13 : decode cX0_addWind 13 = .ok (.aload_n 0, 1) := by decide +kernel
theorem dX0_addWind_14 : decode cX0_addWind 14 = .ok (.getfield 43, 3) := by decide +kernel
theorem dX0_addWind_17 : decode cX0_addWind 17 = .ok (.iload_n 1, 1) := by decide +kernel
theorem dX0_addWind_18 : decode cX0_addWind 18 = .ok (.iastore, 1) := by decide +kernel
theorem dX0_addWind_19 : decode cX0_addWind 19 = .ok (.aload_n 0, 1) := by decide +kernel
theorem dX0_addWind_20 : decode cX0_addWind 20 = .ok (.getfield 25, 3) := by decide +kernel
theorem dX0_addWind_23 : decode cX0_addWind 23 = .ok (.aload_n 0, 1) := by decide +kernel
theorem dX0_addWind_24 : decode cX0_addWind 24 = .ok (.getfield 43, 3) := by decide +kernel
theorem dX0_addWind_27 : decode cX0_addWind 27 = .ok (.iload_n 2, 1) := by decide +kernel
theorem dX0_addWind_28 : decode cX0_addWind 28 = .ok (.iastore, 1) := by decide +kernel
theorem dX0_addWind_29 : decode cX0_addWind 29 = .ok (.aload_n 0, 1) := by decide +kernel
theorem dX0_addWind_30 : decode cX0_addWind 30 = .ok (.dup, 1) := by decide +kernel
theorem dX0_addWind_31 : decode cX0_addWind 31 = .ok (.getfield 43, 3) := by decide +kernel
theorem dX0_addWind_34 : decode cX0_addWind 34 = .ok (.iconst 1, 1) := by decide +kernel
theorem dX0_addWind_35 : decode cX0_addWind 35 = .ok (.iadd, 1) := by decide +kernel
theorem dX0_addWind_36 : decode cX0_addWind 36 = .ok (.putfield 43, 3) := by decide +kernel
theorem dX0_addWind_39 : decode cX0_addWind 39 = .ok (.return_, 1) := by decide +kernel
theorem dX0_addPass_0 : decode cX0_addPass 0 = .ok (.aload_n 0, 1) := by decide +kernel
theorem dX0_addPass_1 : decode cX0_addPass 1 = .ok (.getfield 46, 3) := by decide +kernel
theorem dX0_addPass_4 : decode cX0_addPass 4 = .ok (.bipush 8, 2) := by decide +kernel
theorem dX0_addPass_6 : decode cX0_addPass 6 = .ok (.if_icmp .ge 43, 3) := by decide +kernel
theorem dX0_addPass_9 : decode cX0_addPass 9 = .ok (.aload_n 0, 1) := by decide +kernel
theorem dX0_addPass_10 : decode cX0_addPass 10 = .ok (.getfield 28, 3) := by decide +kernel
theorem dX0_addPass_13 : decode cX0_addPass 13 = .ok (.aload_n 0, 1) := by decide +kernel
theorem dX0_addPass_14 : decode cX0_addPass 14 = .ok (.getfield 46, 3) := by decide +kernel
theorem dX0_addPass_17 : decode cX0_addPass 17 = .ok (.iload_n 1, 1) := by decide +kernel
theorem dX0_addPass_18 : decode cX0_addPass 18 = .ok (.iastore, 1) := by decide +kernel
theorem dX0_addPass_19 : decode cX0_addPass 19 = .ok (.aload_n 0, 1) := by decide +kernel
theorem dX0_addPass_20 : decode cX0_addPass 20 = .ok (.getfield 31, 3) := by decide +kernel
theorem dX0_addPass_23 : decode cX0_addPass 23 = .ok (.aload_n 0, 1) := by decide +kernel
theorem dX0_addPass_24 : decode cX0_addPass 24 = .ok (.getfield 46, 3) := by decide +kernel
theorem dX0_addPass_27 : decode cX0_addPass 27 = .ok (.iload_n 2, 1) := by decide +kernel
theorem dX0_addPass_28 : decode cX0_addPass 28 = .ok (.iastore, 1) := by decide +kernel
theorem dX0_addPass_29 : decode cX0_addPass 29 = .ok (.aload_n 0, 1) := by decide +kernel
theorem dX0_addPass_30 : decode cX0_addPass 30 = .ok (.getfield 34, 3) := by decide +kernel
theorem dX0_addPass_33 : decode cX0_addPass 33 = .ok (.aload_n 0, 1) := by decide +kernel
theorem dX0_addPass_34 : decode cX0_addPass 34 = .ok (.getfield 46, 3) := by decide +kernel
theorem dX0_addPass_37 : decode cX0_addPass 37 = .ok (.iload_n 3, 1) := by decide +kernel
theorem dX0_addPass_38 : decode cX0_addPass 38 = .ok (.iastore, 1) := by decide +kernel
theorem dX0_addPass_39 : decode cX0_addPass 39 = .ok (.aload_n 0, 1) := by decide +kernel
theorem dX0_addPass_40 : decode cX0_addPass 40 = .ok (.dup, 1) := by decide +kernel
theorem dX0_addPass_41 : decode cX0_addPass 41 = .ok (.getfield 46, 3) := by decide +kernel
theorem dX0_addPass_44 : decode cX0_addPass 44 = .ok (.iconst 1, 1) := by decide +kernel
theorem dX0_addPass_45 : decode cX0_addPass 45 = .ok (.iadd, 1) := by decide +kernel
theorem dX0_addPass_46 : decode cX0_addPass 46 = .ok (.putfield 46, 3) := by decide +kernel
theorem dX0_addPass_49 : decode cX0_addPass 49 = .ok (.return_, 1) := by decide +kernel
theorem dX0_wireCount_0 : decode cX0_wireCount 0 = .ok (.aload_n 0, 1) := by decide +kernel
theorem dX0_wireCount_1 : decode cX0_wireCount 1 = .ok (.getfield 9, 3) := by decide +kernel
theorem dX0_wireCount_4 : decode cX0_wireCount 4 = .ok (.iconst 1, 1) := by decide +kernel
theorem dX0_wireCount_5 : decode cX0_wireCount 5 = .ok (.isub, 1) := by decide +kernel
theorem dX0_wireCount_6 : decode cX0_wireCount 6 = .ok (.ireturn, 1) := by decide +kernel
set_option maxRecDepth 20000 in
theorem ggX0_isPost_X5_inRow : GoodIn wsX0_isPost wsX5_inRow := goodIn_r _ [4] (by decide +kernel) (by decide +kernel)
set_option maxRecDepth 20000 in
theorem gX0_isPost_X5_inRow_n59 : GoodIn wsX0_isPost (wsX5_inRow) := ggX0_isPost_X5_inRow
theorem dX0_isPost_0 : decode cX0_isPost 0 = .ok (.iload_n 1, 1) := by decide +kernel
theorem dX0_isPost_1 : decode cX0_isPost 1 = .ok (.aload_n 0, 1) := by decide +kernel
theorem dX0_isPost_2 : decode cX0_isPost 2 = .ok (.getfield 9, 3) := by decide +kernel
theorem dX0_isPost_5 : decode cX0_isPost 5 = .ok (.invokestatic 59, 3) := by decide +kernel
theorem dX0_isPost_8 : decode cX0_isPost 8 = .ok (.ireturn, 1) := by decide +kernel
set_option maxRecDepth 20000 in
theorem ggX0_isWire_X0_wireCount : GoodIn wsX0_isWire wsX0_wireCount := goodIn_r _ [5, 6, 10, 11, 12, 13, 14, 15, 16, 17, 18, 19, 20, 21] (by decide +kernel) (by decide +kernel)
set_option maxRecDepth 20000 in
theorem gX0_isWire_X0_wireCount : GoodIn wsX0_isWire (wsV RX0 63 RX0 yX0_wireCount wsX0_wireCount) := goodIn_app (goodIn_of _ (by decide +kernel)) ggX0_isWire_X0_wireCount
set_option maxRecDepth 20000 in
theorem ggX0_isWire_X5_inRow : GoodIn wsX0_isWire wsX5_inRow := goodIn_r _ [9] (by decide +kernel) (by decide +kernel)
set_option maxRecDepth 20000 in
theorem gX0_isWire_X5_inRow_n59 : GoodIn wsX0_isWire (wsX5_inRow) := ggX0_isWire_X5_inRow
theorem dX0_isWire_0 : decode cX0_isWire 0 = .ok (.iload_n 1, 1) := by decide +kernel
theorem dX0_isWire_1 : decode cX0_isWire 1 = .ok (.aload_n 0, 1) := by decide +kernel
theorem dX0_isWire_2 : decode cX0_isWire 2 = .ok (.invokevirtual 63, 3) := by decide +kernel
theorem dX0_isWire_5 : decode cX0_isWire 5 = .ok (.invokestatic 59, 3) := by decide +kernel
theorem dX0_isWire_8 : decode cX0_isWire 8 = .ok (.ireturn, 1) := by decide +kernel
set_option maxRecDepth 20000 in
theorem ggX0_hasGuard_X5_has : GoodIn wsX0_hasGuard wsX5_has := goodIn_r _ [4] (by decide +kernel) (by decide +kernel)
set_option maxRecDepth 20000 in
theorem gX0_hasGuard_X5_has_n67 : GoodIn wsX0_hasGuard (wsX5_has) := ggX0_hasGuard_X5_has
theorem dX0_hasGuard_0 : decode cX0_hasGuard 0 = .ok (.aload_n 0, 1) := by decide +kernel
theorem dX0_hasGuard_1 : decode cX0_hasGuard 1 = .ok (.getfield 40, 3) := by decide +kernel
theorem dX0_hasGuard_4 : decode cX0_hasGuard 4 = .ok (.iload_n 1, 1) := by decide +kernel
theorem dX0_hasGuard_5 : decode cX0_hasGuard 5 = .ok (.invokestatic 67, 3) := by decide +kernel
theorem dX0_hasGuard_8 : decode cX0_hasGuard 8 = .ok (.ireturn, 1) := by decide +kernel
theorem dX0_isCut_0 : decode cX0_isCut 0 = .ok (.aload_n 0, 1) := by decide +kernel
theorem dX0_isCut_1 : decode cX0_isCut 1 = .ok (.getfield 15, 3) := by decide +kernel
theorem dX0_isCut_4 : decode cX0_isCut 4 = .ok (.iload_n 1, 1) := by decide +kernel
theorem dX0_isCut_5 : decode cX0_isCut 5 = .ok (.iaload, 1) := by decide +kernel
theorem dX0_isCut_6 : decode cX0_isCut 6 = .ok (.iconst 4, 1) := by decide +kernel
theorem dX0_isCut_7 : decode cX0_isCut 7 = .ok (.if_icmp .ne 7, 3) := by decide +kernel
theorem dX0_isCut_10 : decode cX0_isCut 10 = .ok (.iconst 1, 1) := by decide +kernel
theorem dX0_isCut_11 : decode cX0_isCut 11 = .ok (.goto 4, 3) := by decide +kernel
theorem dX0_isCut_14 : decode cX0_isCut 14 = .ok (.iconst 0, 1) := by decide +kernel
theorem dX0_isCut_15 : decode cX0_isCut 15 = .ok (.ireturn, 1) := by decide +kernel
set_option maxRecDepth 20000 in
theorem ggX0_loudnessOf_X5_loudBy : GoodIn wsX0_loudnessOf wsX5_loudBy := goodIn_r _ [4] (by decide +kernel) (by decide +kernel)
set_option maxRecDepth 20000 in
theorem gX0_loudnessOf_X5_loudBy_n70 : GoodIn wsX0_loudnessOf (wsX5_loudBy) := ggX0_loudnessOf_X5_loudBy
theorem dX0_loudnessOf_0 : decode cX0_loudnessOf 0 = .ok (.aload_n 0, 1) := by decide +kernel
theorem dX0_loudnessOf_1 : decode cX0_loudnessOf 1 = .ok (.getfield 15, 3) := by decide +kernel
theorem dX0_loudnessOf_4 : decode cX0_loudnessOf 4 = .ok (.iload_n 1, 1) := by decide +kernel
theorem dX0_loudnessOf_5 : decode cX0_loudnessOf 5 = .ok (.iaload, 1) := by decide +kernel
theorem dX0_loudnessOf_6 : decode cX0_loudnessOf 6 = .ok (.iload_n 2, 1) := by decide +kernel
theorem dX0_loudnessOf_7 : decode cX0_loudnessOf 7 = .ok (.invokestatic 70, 3) := by decide +kernel
theorem dX0_loudnessOf_10 : decode cX0_loudnessOf 10 = .ok (.ireturn, 1) := by decide +kernel
set_option maxRecDepth 20000 in
theorem ggX0_noteOf_X5_noteBy : GoodIn wsX0_noteOf wsX5_noteBy := goodIn_r _ [6] (by decide +kernel) (by decide +kernel)
set_option maxRecDepth 20000 in
theorem gX0_noteOf_X5_noteBy_n74 : GoodIn wsX0_noteOf (wsX5_noteBy) := ggX0_noteOf_X5_noteBy
theorem dX0_noteOf_0 : decode cX0_noteOf 0 = .ok (.aload_n 0, 1) := by decide +kernel
theorem dX0_noteOf_1 : decode cX0_noteOf 1 = .ok (.getfield 15, 3) := by decide +kernel
theorem dX0_noteOf_4 : decode cX0_noteOf 4 = .ok (.iload_n 1, 1) := by decide +kernel
theorem dX0_noteOf_5 : decode cX0_noteOf 5 = .ok (.iaload, 1) := by decide +kernel
theorem dX0_noteOf_6 : decode cX0_noteOf 6 = .ok (.aload_n 0, 1) := by decide +kernel
theorem dX0_noteOf_7 : decode cX0_noteOf 7 = .ok (.getfield 19, 3) := by decide +kernel
theorem dX0_noteOf_10 : decode cX0_noteOf 10 = .ok (.iload_n 1, 1) := by decide +kernel
theorem dX0_noteOf_11 : decode cX0_noteOf 11 = .ok (.iaload, 1) := by decide +kernel
theorem dX0_noteOf_12 : decode cX0_noteOf 12 = .ok (.aload_n 0, 1) := by decide +kernel
theorem dX0_noteOf_13 : decode cX0_noteOf 13 = .ok (.getfield 37, 3) := by decide +kernel
theorem dX0_noteOf_16 : decode cX0_noteOf 16 = .ok (.invokestatic 74, 3) := by decide +kernel
theorem dX0_noteOf_19 : decode cX0_noteOf 19 = .ok (.ireturn, 1) := by decide +kernel
theorem dX0_span_0 : decode cX0_span 0 = .ok (.iconst 0, 1) := by decide +kernel
theorem dX0_span_1 : decode cX0_span 1 = .ok (.iload_n 1, 1) := by decide +kernel
theorem dX0_span_2 : decode cX0_span 2 = .ok (.iload_n 2, 1) := by decide +kernel
theorem dX0_span_3 : decode cX0_span 3 = .ok (.isub, 1) := by decide +kernel
theorem dX0_span_4 : decode cX0_span 4 = .ok (.iconst 1, 1) := by decide +kernel
theorem dX0_span_5 : decode cX0_span 5 = .ok (.iadd, 1) := by decide +kernel
theorem dX0_span_6 : decode cX0_span 6 = .ok (.invokestatic 78, 3) := by decide +kernel
theorem dX0_span_9 : decode cX0_span 9 = .ok (.istore_n 3, 1) := by decide +kernel
theorem dX0_span_10 : decode cX0_span 10 = .ok (.aload_n 0, 1) := by decide +kernel
theorem dX0_span_11 : decode cX0_span 11 = .ok (.getfield 9, 3) := by decide +kernel
theorem dX0_span_14 : decode cX0_span 14 = .ok (.iconst 1, 1) := by decide +kernel
theorem dX0_span_15 : decode cX0_span 15 = .ok (.isub, 1) := by decide +kernel
theorem dX0_span_16 : decode cX0_span 16 = .ok (.iload_n 1, 1) := by decide +kernel
theorem dX0_span_17 : decode cX0_span 17 = .ok (.iload_n 2, 1) := by decide +kernel
theorem dX0_span_18 : decode cX0_span 18 = .ok (.iadd, 1) := by decide +kernel
theorem dX0_span_19 : decode cX0_span 19 = .ok (.invokestatic 83, 3) := by decide +kernel
theorem dX0_span_22 : decode cX0_span 22 = .ok (.istore 4, 2) := by decide +kernel
theorem dX0_span_24 : decode cX0_span 24 = .ok (.iconst 1, 1) := by decide +kernel
theorem dX0_span_25 : decode cX0_span 25 = .ok (.iload 4, 2) := by decide +kernel
theorem dX0_span_27 : decode cX0_span 27 = .ok (.iconst 1, 1) := by decide +kernel
theorem dX0_span_28 : decode cX0_span 28 = .ok (.iadd, 1) := by decide +kernel
theorem dX0_span_29 : decode cX0_span 29 = .ok (.ishl, 1) := by decide +kernel
theorem dX0_span_30 : decode cX0_span 30 = .ok (.iconst 1, 1) := by decide +kernel
theorem dX0_span_31 : decode cX0_span 31 = .ok (.iload_n 3, 1) := by decide +kernel
theorem dX0_span_32 : decode cX0_span 32 = .ok (.ishl, 1) := by decide +kernel
theorem dX0_span_33 : decode cX0_span 33 = .ok (.isub, 1) := by decide +kernel
theorem dX0_span_34 : decode cX0_span 34 = .ok (.ireturn, 1) := by decide +kernel
set_option maxRecDepth 20000 in
theorem ggX0_reach_X0_loudnessOf : GoodIn wsX0_reach wsX0_loudnessOf := goodIn_r _ [5, 6, 7, 8, 9, 22, 23, 24, 25, 26, 27, 28, 29, 30, 31, 32, 33] (by decide +kernel) (by decide +kernel)
set_option maxRecDepth 20000 in
theorem gX0_reach_X0_loudnessOf : GoodIn wsX0_reach (wsV RX0 86 RX0 yX0_loudnessOf wsX0_loudnessOf) := goodIn_app (goodIn_of _ (by decide +kernel)) ggX0_reach_X0_loudnessOf
set_option maxRecDepth 20000 in
theorem ggX0_reach_X0_span : GoodIn wsX0_reach wsX0_span := goodIn_r _ [13, 14, 15, 16, 17, 18, 19, 20, 21, 22, 23, 24, 25, 26, 27, 28, 29, 30, 31, 32, 33] (by decide +kernel) (by decide +kernel)
set_option maxRecDepth 20000 in
theorem gX0_reach_X0_span : GoodIn wsX0_reach (wsV RX0 89 RX0 yX0_span wsX0_span) := goodIn_app (goodIn_of _ (by decide +kernel)) ggX0_reach_X0_span
theorem dX0_reach_0 : decode cX0_reach 0 = .ok (.aload_n 0, 1) := by decide +kernel
theorem dX0_reach_1 : decode cX0_reach 1 = .ok (.iload_n 1, 1) := by decide +kernel
theorem dX0_reach_2 : decode cX0_reach 2 = .ok (.aload_n 0, 1) := by decide +kernel
theorem dX0_reach_3 : decode cX0_reach 3 = .ok (.iload_n 1, 1) := by decide +kernel
theorem dX0_reach_4 : decode cX0_reach 4 = .ok (.iload_n 2, 1) := by decide +kernel
theorem dX0_reach_5 : decode cX0_reach 5 = .ok (.invokevirtual 86, 3) := by decide +kernel
theorem dX0_reach_8 : decode cX0_reach 8 = .ok (.invokevirtual 89, 3) := by decide +kernel
theorem dX0_reach_11 : decode cX0_reach 11 = .ok (.ireturn, 1) := by decide +kernel
set_option maxRecDepth 20000 in
theorem ggX0_meet_X0_reach : GoodIn wsX0_meet wsX0_reach := goodIn_r _ [5, 6, 7, 8, 4, 9, 10, 11, 12, 13, 14, 15, 16, 17, 18, 19, 20, 21, 22, 23, 24, 25, 26, 27, 28, 29, 30, 31, 32, 33, 34, 35, 36, 37] (by decide +kernel) (by decide +kernel)
set_option maxRecDepth 20000 in
theorem gX0_meet_X0_reach : GoodIn wsX0_meet (wsV RX0 92 RX0 yX0_reach wsX0_reach) := goodIn_app (goodIn_of _ (by decide +kernel)) ggX0_meet_X0_reach
theorem dX0_meet_0 : decode cX0_meet 0 = .ok (.aload_n 0, 1) := by decide +kernel
theorem dX0_meet_1 : decode cX0_meet 1 = .ok (.iload_n 1, 1) := by decide +kernel
theorem dX0_meet_2 : decode cX0_meet 2 = .ok (.iconst 2, 1) := by decide +kernel
theorem dX0_meet_3 : decode cX0_meet 3 = .ok (.invokevirtual 92, 3) := by decide +kernel
theorem dX0_meet_6 : decode cX0_meet 6 = .ok (.aload_n 0, 1) := by decide +kernel
theorem dX0_meet_7 : decode cX0_meet 7 = .ok (.iload_n 2, 1) := by decide +kernel
theorem dX0_meet_8 : decode cX0_meet 8 = .ok (.iconst 2, 1) := by decide +kernel
theorem dX0_meet_9 : decode cX0_meet 9 = .ok (.invokevirtual 92, 3) := by decide +kernel
theorem dX0_meet_12 : decode cX0_meet 12 = .ok (.iand, 1) := by decide +kernel
theorem dX0_meet_13 : decode cX0_meet 13 = .ok (.ifCond .eq 7, 3) := by decide +kernel
theorem dX0_meet_16 : decode cX0_meet 16 = .ok (.iconst 1, 1) := by decide +kernel
theorem dX0_meet_17 : decode cX0_meet 17 = .ok (.goto 4, 3) := by decide +kernel
theorem dX0_meet_20 : decode cX0_meet 20 = .ok (.iconst 0, 1) := by decide +kernel
theorem dX0_meet_21 : decode cX0_meet 21 = .ok (.ireturn, 1) := by decide +kernel
set_option maxRecDepth 20000 in
theorem ggX0_pluckNotes_X0_reach : GoodIn wsX0_pluckNotes wsX0_reach := goodIn_r _ [5, 6, 7, 8, 4, 9, 10, 11, 12, 13, 14, 15, 16, 17, 18, 19, 20, 21, 22, 23, 24, 25, 36, 37, 38, 39, 40, 41, 42, 43, 44, 45, 46, 47] (by decide +kernel) (by decide +kernel)
set_option maxRecDepth 20000 in
theorem gX0_pluckNotes_X0_reach : GoodIn wsX0_pluckNotes (wsV RX0 92 RX0 yX0_reach wsX0_reach) := goodIn_app (goodIn_of _ (by decide +kernel)) ggX0_pluckNotes_X0_reach
set_option maxRecDepth 20000 in
theorem ggX0_pluckNotes_X5_has : GoodIn wsX0_pluckNotes wsX5_has := goodIn_r _ [27] (by decide +kernel) (by decide +kernel)
set_option maxRecDepth 20000 in
theorem gX0_pluckNotes_X5_has_n67 : GoodIn wsX0_pluckNotes (wsX5_has) := ggX0_pluckNotes_X5_has
set_option maxRecDepth 20000 in
theorem ggX0_pluckNotes_X0_noteOf : GoodIn wsX0_pluckNotes wsX0_noteOf := goodIn_r _ [31, 10, 32, 33, 34, 12, 35, 36, 37, 38, 39, 40, 41, 42, 43, 44, 45, 46, 47] (by decide +kernel) (by decide +kernel)
set_option maxRecDepth 20000 in
theorem gX0_pluckNotes_X0_noteOf : GoodIn wsX0_pluckNotes (wsV RX0 95 RX0 yX0_noteOf wsX0_noteOf) := goodIn_app (goodIn_of _ (by decide +kernel)) ggX0_pluckNotes_X0_noteOf
theorem dX0_pluckNotes_0 : decode cX0_pluckNotes 0 = .ok (.aload_n 0, 1) := by decide +kernel
theorem dX0_pluckNotes_1 : decode cX0_pluckNotes 1 = .ok (.iload_n 2, 1) := by decide +kernel
theorem dX0_pluckNotes_2 : decode cX0_pluckNotes 2 = .ok (.iload_n 3, 1) := by decide +kernel
theorem dX0_pluckNotes_3 : decode cX0_pluckNotes 3 = .ok (.invokevirtual 92, 3) := by decide +kernel
theorem dX0_pluckNotes_6 : decode cX0_pluckNotes 6 = .ok (.iload_n 1, 1) := by decide +kernel
theorem dX0_pluckNotes_7 : decode cX0_pluckNotes 7 = .ok (.invokestatic 67, 3) := by decide +kernel
theorem dX0_pluckNotes_10 : decode cX0_pluckNotes 10 = .ok (.ifCond .eq 13, 3) := by decide +kernel
theorem dX0_pluckNotes_13 : decode cX0_pluckNotes 13 = .ok (.iconst 1, 1) := by decide +kernel
theorem dX0_pluckNotes_14 : decode cX0_pluckNotes 14 = .ok (.aload_n 0, 1) := by decide +kernel
theorem dX0_pluckNotes_15 : decode cX0_pluckNotes 15 = .ok (.iload_n 2, 1) := by decide +kernel
theorem dX0_pluckNotes_16 : decode cX0_pluckNotes 16 = .ok (.invokevirtual 95, 3) := by decide +kernel
theorem dX0_pluckNotes_19 : decode cX0_pluckNotes 19 = .ok (.ishl, 1) := by decide +kernel
theorem dX0_pluckNotes_20 : decode cX0_pluckNotes 20 = .ok (.goto 4, 3) := by decide +kernel
theorem dX0_pluckNotes_23 : decode cX0_pluckNotes 23 = .ok (.iconst 0, 1) := by decide +kernel
theorem dX0_pluckNotes_24 : decode cX0_pluckNotes 24 = .ok (.ireturn, 1) := by decide +kernel
set_option maxRecDepth 20000 in
theorem ggX0_stepNotes_X0_pluckNotes : GoodIn wsX0_stepNotes wsX0_pluckNotes := goodIn_r _ [5, 6, 7, 8, 4, 9, 10, 11, 12, 13, 14, 15, 16, 17, 18, 19, 20, 21, 22, 23, 24, 25, 26, 27, 28, 29, 30, 31, 32, 33, 34, 35, 36, 37, 38, 39, 50, 51, 52, 53, 54, 55, 56, 57, 58, 59, 60, 61] (by decide +kernel) (by decide +kernel)
set_option maxRecDepth 20000 in
theorem gX0_stepNotes_X0_pluckNotes : GoodIn wsX0_stepNotes (wsV RX0 102 RX0 yX0_pluckNotes wsX0_pluckNotes) := goodIn_app (goodIn_of _ (by decide +kernel)) ggX0_stepNotes_X0_pluckNotes
set_option maxRecDepth 20000 in
theorem ggX0_stepNotes_X0_isWire : GoodIn wsX0_stepNotes wsX0_isWire := goodIn_r _ [43, 44, 45, 46, 4, 47, 26, 48, 16, 49, 50, 51, 52, 53, 54, 55, 56, 57, 58, 59, 60, 61] (by decide +kernel) (by decide +kernel)
set_option maxRecDepth 20000 in
theorem gX0_stepNotes_X0_isWire : GoodIn wsX0_stepNotes (wsV RX0 105 RX0 yX0_isWire wsX0_isWire) := goodIn_app (goodIn_of _ (by decide +kernel)) ggX0_stepNotes_X0_isWire
theorem dX0_stepNotes_0 : decode cX0_stepNotes 0 = .ok (.aload_n 0, 1) := by decide +kernel
theorem dX0_stepNotes_1 : decode cX0_stepNotes 1 = .ok (.iload_n 1, 1) := by decide +kernel
theorem dX0_stepNotes_2 : decode cX0_stepNotes 2 = .ok (.iload_n 2, 1) := by decide +kernel
theorem dX0_stepNotes_3 : decode cX0_stepNotes 3 = .ok (.getstatic 99, 3) := by decide +kernel
theorem dX0_stepNotes_6 : decode cX0_stepNotes 6 = .ok (.iload_n 3, 1) := by decide +kernel
theorem dX0_stepNotes_7 : decode cX0_stepNotes 7 = .ok (.iaload, 1) := by decide +kernel
theorem dX0_stepNotes_8 : decode cX0_stepNotes 8 = .ok (.invokevirtual 102, 3) := by decide +kernel
theorem dX0_stepNotes_11 : decode cX0_stepNotes 11 = .ok (.istore 4, 2) := by decide +kernel
theorem dX0_stepNotes_13 : decode cX0_stepNotes 13 = .ok (.iload_n 3, 1) := by decide +kernel
theorem dX0_stepNotes_14 : decode cX0_stepNotes 14 = .ok (.iconst 3, 1) := by decide +kernel
theorem dX0_stepNotes_15 : decode cX0_stepNotes 15 = .ok (.if_icmp .ne 27, 3) := by decide +kernel
theorem dX0_stepNotes_18 : decode cX0_stepNotes 18 = .ok (.aload_n 0, 1) := by decide +kernel
theorem dX0_stepNotes_19 : decode cX0_stepNotes 19 = .ok (.iload_n 2, 1) := by decide +kernel
theorem dX0_stepNotes_20 : decode cX0_stepNotes 20 = .ok (.iconst 1, 1) := by decide +kernel
theorem dX0_stepNotes_21 : decode cX0_stepNotes 21 = .ok (.iadd, 1) := by decide +kernel
theorem dX0_stepNotes_22 : decode cX0_stepNotes 22 = .ok (.invokevirtual 105, 3) := by decide +kernel
theorem dX0_stepNotes_25 : decode cX0_stepNotes 25 = .ok (.ifCond .eq 17, 3) := by decide +kernel
theorem dX0_stepNotes_28 : decode cX0_stepNotes 28 = .ok (.iload 4, 2) := by decide +kernel
theorem dX0_stepNotes_30 : decode cX0_stepNotes 30 = .ok (.aload_n 0, 1) := by decide +kernel
theorem dX0_stepNotes_31 : decode cX0_stepNotes 31 = .ok (.iload_n 1, 1) := by decide +kernel
theorem dX0_stepNotes_32 : decode cX0_stepNotes 32 = .ok (.iload_n 2, 1) := by decide +kernel
theorem dX0_stepNotes_33 : decode cX0_stepNotes 33 = .ok (.iconst 1, 1) := by decide +kernel
theorem dX0_stepNotes_34 : decode cX0_stepNotes 34 = .ok (.iadd, 1) := by decide +kernel
theorem dX0_stepNotes_35 : decode cX0_stepNotes 35 = .ok (.iconst 1, 1) := by decide +kernel
theorem dX0_stepNotes_36 : decode cX0_stepNotes 36 = .ok (.invokevirtual 102, 3) := by decide +kernel
theorem dX0_stepNotes_39 : decode cX0_stepNotes 39 = .ok (.ior, 1) := by decide +kernel
theorem dX0_stepNotes_40 : decode cX0_stepNotes 40 = .ok (.istore 4, 2) := by decide +kernel
theorem dX0_stepNotes_42 : decode cX0_stepNotes 42 = .ok (.iload 4, 2) := by decide +kernel
theorem dX0_stepNotes_44 : decode cX0_stepNotes 44 = .ok (.ireturn, 1) := by decide +kernel
set_option maxRecDepth 20000 in
theorem ggX0_notesAt_X0_stepNotes : GoodIn wsX0_notesAt wsX0_stepNotes := goodIn_r _ [12, 13, 14, 15, 11, 16, 17, 18, 19, 20, 21, 22, 23, 24, 25, 26, 27, 28, 29, 30, 31, 32, 33, 34, 35, 36, 37, 38, 39, 40, 41, 42, 43, 44, 45, 46, 47, 48, 49, 50, 51, 52, 53, 54, 55, 56, 57, 58, 59, 60, 61, 62, 63, 64, 65, 66, 67, 68, 69, 70, 71, 72] (by decide +kernel) (by decide +kernel)
set_option maxRecDepth 20000 in
theorem gX0_notesAt_X0_stepNotes : GoodIn wsX0_notesAt (wsV RX0 109 RX0 yX0_stepNotes wsX0_stepNotes) := goodIn_app (goodIn_of _ (by decide +kernel)) ggX0_notesAt_X0_stepNotes
set_option maxRecDepth 20000 in
theorem ggX0_notesAt_X0_pluckNotes : GoodIn wsX0_notesAt wsX0_pluckNotes := goodIn_r _ [16, 17, 18, 19, 11, 20, 21, 22, 23, 24, 25, 26, 27, 28, 29, 30, 31, 32, 33, 34, 35, 36, 37, 38, 39, 40, 41, 42, 43, 44, 45, 46, 47, 48, 49, 50, 61, 62, 63, 64, 65, 66, 67, 68, 69, 70, 71, 72] (by decide +kernel) (by decide +kernel)
set_option maxRecDepth 20000 in
theorem gX0_notesAt_X0_pluckNotes : GoodIn wsX0_notesAt (wsV RX0 102 RX0 yX0_pluckNotes wsX0_pluckNotes) := goodIn_app (goodIn_of _ (by decide +kernel)) ggX0_notesAt_X0_pluckNotes
theorem dX0_notesAt_0 : decode cX0_notesAt 0 = .ok (.iconst 0, 1) := by decide +kernel
theorem dX0_notesAt_1 : decode cX0_notesAt 1 = .ok (.istore_n 3, 1) := by decide +kernel
theorem dX0_notesAt_2 : decode cX0_notesAt 2 = .ok (.iconst 0, 1) := by decide +kernel
theorem dX0_notesAt_3 : decode cX0_notesAt 3 = .ok (.istore 4, 2) := by decide +kernel
theorem dX0_notesAt_5 : decode cX0_notesAt 5 = .ok (.iload 4, 2) := by decide +kernel
theorem dX0_notesAt_7 : decode cX0_notesAt 7 = .ok (.aload_n 0, 1) := by decide +kernel
theorem dX0_notesAt_8 : decode cX0_notesAt 8 = .ok (.getfield 46, 3) := by decide +kernel
theorem dX0_notesAt_11 : decode cX0_notesAt 11 = .ok (.if_icmp .ge 42, 3) := by decide +kernel
theorem dX0_notesAt_14 : decode cX0_notesAt 14 = .ok (.aload_n 0, 1) := by decide +kernel
theorem dX0_notesAt_15 : decode cX0_notesAt 15 = .ok (.getfield 28, 3) := by decide +kernel
theorem dX0_notesAt_18 : decode cX0_notesAt 18 = .ok (.iload 4, 2) := by decide +kernel
theorem dX0_notesAt_20 : decode cX0_notesAt 20 = .ok (.iaload, 1) := by decide +kernel
theorem dX0_notesAt_21 : decode cX0_notesAt 21 = .ok (.iload_n 2, 1) := by decide +kernel
theorem dX0_notesAt_22 : decode cX0_notesAt 22 = .ok (.if_icmp .ne 25, 3) := by decide +kernel
theorem dX0_notesAt_25 : decode cX0_notesAt 25 = .ok (.iload_n 3, 1) := by decide +kernel
theorem dX0_notesAt_26 : decode cX0_notesAt 26 = .ok (.aload_n 0, 1) := by decide +kernel
theorem dX0_notesAt_27 : decode cX0_notesAt 27 = .ok (.iload_n 1, 1) := by decide +kernel
theorem dX0_notesAt_28 : decode cX0_notesAt 28 = .ok (.aload_n 0, 1) := by decide +kernel
theorem dX0_notesAt_29 : decode cX0_notesAt 29 = .ok (.getfield 31, 3) := by decide +kernel
theorem dX0_notesAt_32 : decode cX0_notesAt 32 = .ok (.iload 4, 2) := by decide +kernel
theorem dX0_notesAt_34 : decode cX0_notesAt 34 = .ok (.iaload, 1) := by decide +kernel
theorem dX0_notesAt_35 : decode cX0_notesAt 35 = .ok (.aload_n 0, 1) := by decide +kernel
theorem dX0_notesAt_36 : decode cX0_notesAt 36 = .ok (.getfield 34, 3) := by decide +kernel
theorem dX0_notesAt_39 : decode cX0_notesAt 39 = .ok (.iload 4, 2) := by decide +kernel
theorem dX0_notesAt_41 : decode cX0_notesAt 41 = .ok (.iaload, 1) := by decide +kernel
theorem dX0_notesAt_42 : decode cX0_notesAt 42 = .ok (.invokevirtual 109, 3) := by decide +kernel
theorem dX0_notesAt_45 : decode cX0_notesAt 45 = .ok (.ior, 1) := by decide +kernel
theorem dX0_notesAt_46 : decode cX0_notesAt 46 = .ok (.istore_n 3, 1) := by decide +kernel
theorem dX0_notesAt_47 : decode cX0_notesAt 47 = .ok (.iinc 4 1, 3) := by decide +kernel
theorem dX0_notesAt_50 : decode cX0_notesAt 50 = .ok (.goto (-45), 3) := by decide +kernel
theorem dX0_notesAt_53 : decode cX0_notesAt 53 = .ok (.iconst 0, 1) := by decide +kernel
theorem dX0_notesAt_54 : decode cX0_notesAt 54 = .ok (.istore 4, 2) := by decide +kernel
theorem dX0_notesAt_56 : decode cX0_notesAt 56 = .ok (.iload 4, 2) := by decide +kernel
theorem dX0_notesAt_58 : decode cX0_notesAt 58 = .ok (.aload_n 0, 1) := by decide +kernel
theorem dX0_notesAt_59 : decode cX0_notesAt 59 = .ok (.getfield 43, 3) := by decide +kernel
theorem dX0_notesAt_62 : decode cX0_notesAt 62 = .ok (.if_icmp .ge 36, 3) := by decide +kernel
theorem dX0_notesAt_65 : decode cX0_notesAt 65 = .ok (.aload_n 0, 1) := by decide +kernel
theorem dX0_notesAt_66 : decode cX0_notesAt 66 = .ok (.getfield 22, 3) := by decide +kernel
theorem dX0_notesAt_69 : decode cX0_notesAt 69 = .ok (.iload 4, 2) := by decide +kernel
theorem dX0_notesAt_71 : decode cX0_notesAt 71 = .ok (.iaload, 1) := by decide +kernel
theorem dX0_notesAt_72 : decode cX0_notesAt 72 = .ok (.iload_n 2, 1) := by decide +kernel
theorem dX0_notesAt_73 : decode cX0_notesAt 73 = .ok (.if_icmp .ne 19, 3) := by decide +kernel
theorem dX0_notesAt_76 : decode cX0_notesAt 76 = .ok (.iload_n 3, 1) := by decide +kernel
theorem dX0_notesAt_77 : decode cX0_notesAt 77 = .ok (.aload_n 0, 1) := by decide +kernel
theorem dX0_notesAt_78 : decode cX0_notesAt 78 = .ok (.iload_n 1, 1) := by decide +kernel
theorem dX0_notesAt_79 : decode cX0_notesAt 79 = .ok (.aload_n 0, 1) := by decide +kernel
theorem dX0_notesAt_80 : decode cX0_notesAt 80 = .ok (.getfield 25, 3) := by decide +kernel
theorem dX0_notesAt_83 : decode cX0_notesAt 83 = .ok (.iload 4, 2) := by decide +kernel
theorem dX0_notesAt_85 : decode cX0_notesAt 85 = .ok (.iaload, 1) := by decide +kernel
theorem dX0_notesAt_86 : decode cX0_notesAt 86 = .ok (.iconst 1, 1) := by decide +kernel
theorem dX0_notesAt_87 : decode cX0_notesAt 87 = .ok (.invokevirtual 102, 3) := by decide +kernel
theorem dX0_notesAt_90 : decode cX0_notesAt 90 = .ok (.ior, 1) := by decide +kernel
theorem dX0_notesAt_91 : decode cX0_notesAt 91 = .ok (.istore_n 3, 1) := by decide +kernel
theorem dX0_notesAt_92 : decode cX0_notesAt 92 = .ok (.iinc 4 1, 3) := by decide +kernel
theorem dX0_notesAt_95 : decode cX0_notesAt 95 = .ok (.goto (-39), 3) := by decide +kernel
theorem dX0_notesAt_98 : decode cX0_notesAt 98 = .ok (.iload_n 3, 1) := by decide +kernel
theorem dX0_notesAt_99 : decode cX0_notesAt 99 = .ok (.ireturn, 1) := by decide +kernel
theorem dX0_isWindy_0 : decode cX0_isWindy 0 = .ok (.iconst 0, 1) := by decide +kernel
theorem dX0_isWindy_1 : decode cX0_isWindy 1 = .ok (.istore_n 2, 1) := by decide +kernel
theorem dX0_isWindy_2 : decode cX0_isWindy 2 = .ok (.iload_n 2, 1) := by decide +kernel
theorem dX0_isWindy_3 : decode cX0_isWindy 3 = .ok (.aload_n 0, 1) := by decide +kernel
theorem dX0_isWindy_4 : decode cX0_isWindy 4 = .ok (.getfield 43, 3) := by decide +kernel
theorem dX0_isWindy_7 : decode cX0_isWindy 7 = .ok (.if_icmp .ge 21, 3) := by decide +kernel
theorem dX0_isWindy_10 : decode cX0_isWindy 10 = .ok (.aload_n 0, 1) := by decide +kernel
theorem dX0_isWindy_11 : decode cX0_isWindy 11 = .ok (.getfield 22, 3) := by decide +kernel
theorem dX0_isWindy_14 : decode cX0_isWindy 14 = .ok (.iload_n 2, 1) := by decide +kernel
theorem dX0_isWindy_15 : decode cX0_isWindy 15 = .ok (.iaload, 1) := by decide +kernel
theorem dX0_isWindy_16 : decode cX0_isWindy 16 = .ok (.iload_n 1, 1) := by decide +kernel
theorem dX0_isWindy_17 : decode cX0_isWindy 17 = .ok (.if_icmp .ne 5, 3) := by decide +kernel
theorem dX0_isWindy_20 : decode cX0_isWindy 20 = .ok (.iconst 1, 1) := by decide +kernel
theorem dX0_isWindy_21 : decode cX0_isWindy 21 = .ok (.ireturn, 1) := by decide +kernel
theorem dX0_isWindy_22 : decode cX0_isWindy 22 = .ok (.iinc 2 1, 3) := by decide +kernel
theorem dX0_isWindy_25 : decode cX0_isWindy 25 = .ok (.goto (-23), 3) := by decide +kernel
theorem dX0_isWindy_28 : decode cX0_isWindy 28 = .ok (.iconst 0, 1) := by decide +kernel
theorem dX0_isWindy_29 : decode cX0_isWindy 29 = .ok (.ireturn, 1) := by decide +kernel
theorem dX0_isBlown_0 : decode cX0_isBlown 0 = .ok (.iconst 0, 1) := by decide +kernel
theorem dX0_isBlown_1 : decode cX0_isBlown 1 = .ok (.istore_n 3, 1) := by decide +kernel
theorem dX0_isBlown_2 : decode cX0_isBlown 2 = .ok (.iload_n 3, 1) := by decide +kernel
theorem dX0_isBlown_3 : decode cX0_isBlown 3 = .ok (.aload_n 0, 1) := by decide +kernel
theorem dX0_isBlown_4 : decode cX0_isBlown 4 = .ok (.getfield 43, 3) := by decide +kernel
theorem dX0_isBlown_7 : decode cX0_isBlown 7 = .ok (.if_icmp .ge 31, 3) := by decide +kernel
theorem dX0_isBlown_10 : decode cX0_isBlown 10 = .ok (.aload_n 0, 1) := by decide +kernel
theorem dX0_isBlown_11 : decode cX0_isBlown 11 = .ok (.getfield 22, 3) := by decide +kernel
theorem dX0_isBlown_14 : decode cX0_isBlown 14 = .ok (.iload_n 3, 1) := by decide +kernel
theorem dX0_isBlown_15 : decode cX0_isBlown 15 = .ok (.iaload, 1) := by decide +kernel
theorem dX0_isBlown_16 : decode cX0_isBlown 16 = .ok (.iload_n 1, 1) := by decide +kernel
theorem dX0_isBlown_17 : decode cX0_isBlown 17 = .ok (.if_icmp .ne 15, 3) := by decide +kernel
theorem dX0_isBlown_20 : decode cX0_isBlown 20 = .ok (.aload_n 0, 1) := by decide +kernel
theorem dX0_isBlown_21 : decode cX0_isBlown 21 = .ok (.getfield 25, 3) := by decide +kernel
theorem dX0_isBlown_24 : decode cX0_isBlown 24 = .ok (.iload_n 3, 1) := by decide +kernel
theorem dX0_isBlown_25 : decode cX0_isBlown 25 = .ok (.iaload, 1) := by decide +kernel
theorem dX0_isBlown_26 : decode cX0_isBlown 26 = .ok (.iload_n 2, 1) := by decide +kernel
theorem dX0_isBlown_27 : decode cX0_isBlown 27 = .ok (.if_icmp .ne 5, 3) := by decide +kernel
theorem dX0_isBlown_30 : decode cX0_isBlown 30 = .ok (.iconst 1, 1) := by decide +kernel
theorem dX0_isBlown_31 : decode cX0_isBlown 31 = .ok (.ireturn, 1) := by decide +kernel
theorem dX0_isBlown_32 : decode cX0_isBlown 32 = .ok (.iinc 3 1, 3) := by decide +kernel
theorem dX0_isBlown_35 : decode cX0_isBlown 35 = .ok (.goto (-33), 3) := by decide +kernel
theorem dX0_isBlown_38 : decode cX0_isBlown 38 = .ok (.iconst 0, 1) := by decide +kernel
theorem dX0_isBlown_39 : decode cX0_isBlown 39 = .ok (.ireturn, 1) := by decide +kernel
set_option maxRecDepth 20000 in
theorem ggX0_digestOn_X0_wireCount : GoodIn wsX0_digestOn wsX0_wireCount := goodIn_r _ [16, 17, 18, 19, 20, 21, 22, 23, 24, 25, 26, 27, 28, 29] (by decide +kernel) (by decide +kernel)
set_option maxRecDepth 20000 in
theorem gX0_digestOn_X0_wireCount : GoodIn wsX0_digestOn (wsV RX0 63 RX0 yX0_wireCount wsX0_wireCount) := goodIn_app (goodIn_of _ (by decide +kernel)) ggX0_digestOn_X0_wireCount
theorem dX0_digestOn_0 : decode cX0_digestOn 0 = .ok (.ldc2_w 112, 3) := by decide +kernel
theorem dX0_digestOn_3 : decode cX0_digestOn 3 = .ok (.lload_n 1, 1) := by decide +kernel
theorem dX0_digestOn_4 : decode cX0_digestOn 4 = .ok (.lmul, 1) := by decide +kernel
theorem dX0_digestOn_5 : decode cX0_digestOn 5 = .ok (.aload_n 0, 1) := by decide +kernel
theorem dX0_digestOn_6 : decode cX0_digestOn 6 = .ok (.getfield 40, 3) := by decide +kernel
theorem dX0_digestOn_9 : decode cX0_digestOn 9 = .ok (.i2l, 1) := by decide +kernel
theorem dX0_digestOn_10 : decode cX0_digestOn 10 = .ok (.ladd, 1) := by decide +kernel
theorem dX0_digestOn_11 : decode cX0_digestOn 11 = .ok (.lstore_n 3, 1) := by decide +kernel
theorem dX0_digestOn_12 : decode cX0_digestOn 12 = .ok (.iconst 0, 1) := by decide +kernel
theorem dX0_digestOn_13 : decode cX0_digestOn 13 = .ok (.istore 5, 2) := by decide +kernel
theorem dX0_digestOn_15 : decode cX0_digestOn 15 = .ok (.iload 5, 2) := by decide +kernel
theorem dX0_digestOn_17 : decode cX0_digestOn 17 = .ok (.aload_n 0, 1) := by decide +kernel
theorem dX0_digestOn_18 : decode cX0_digestOn 18 = .ok (.invokevirtual 63, 3) := by decide +kernel
theorem dX0_digestOn_21 : decode cX0_digestOn 21 = .ok (.if_icmp .ge 37, 3) := by decide +kernel
theorem dX0_digestOn_24 : decode cX0_digestOn 24 = .ok (.ldc2_w 112, 3) := by decide +kernel
theorem dX0_digestOn_27 : decode cX0_digestOn 27 = .ok (.ldc2_w 112, 3) := by decide +kernel
theorem dX0_digestOn_30 : decode cX0_digestOn 30 = .ok (.lload_n 3, 1) := by decide +kernel
theorem dX0_digestOn_31 : decode cX0_digestOn 31 = .ok (.lmul, 1) := by decide +kernel
theorem dX0_digestOn_32 : decode cX0_digestOn 32 = .ok (.aload_n 0, 1) := by decide +kernel
theorem dX0_digestOn_33 : decode cX0_digestOn 33 = .ok (.getfield 15, 3) := by decide +kernel
theorem dX0_digestOn_36 : decode cX0_digestOn 36 = .ok (.iload 5, 2) := by decide +kernel
theorem dX0_digestOn_38 : decode cX0_digestOn 38 = .ok (.iaload, 1) := by decide +kernel
theorem dX0_digestOn_39 : decode cX0_digestOn 39 = .ok (.i2l, 1) := by decide +kernel
theorem dX0_digestOn_40 : decode cX0_digestOn 40 = .ok (.ladd, 1) := by decide +kernel
theorem dX0_digestOn_41 : decode cX0_digestOn 41 = .ok (.lmul, 1) := by decide +kernel
theorem dX0_digestOn_42 : decode cX0_digestOn 42 = .ok (.aload_n 0, 1) := by decide +kernel
theorem dX0_digestOn_43 : decode cX0_digestOn 43 = .ok (.getfield 19, 3) := by decide +kernel
theorem dX0_digestOn_46 : decode cX0_digestOn 46 = .ok (.iload 5, 2) := by decide +kernel
theorem dX0_digestOn_48 : decode cX0_digestOn 48 = .ok (.iaload, 1) := by decide +kernel
theorem dX0_digestOn_49 : decode cX0_digestOn 49 = .ok (.i2l, 1) := by decide +kernel
theorem dX0_digestOn_50 : decode cX0_digestOn 50 = .ok (.ladd, 1) := by decide +kernel
theorem dX0_digestOn_51 : decode cX0_digestOn 51 = .ok (.lstore_n 3, 1) := by decide +kernel
theorem dX0_digestOn_52 : decode cX0_digestOn 52 = .ok (.iinc 5 1, 3) := by decide +kernel
theorem dX0_digestOn_55 : decode cX0_digestOn 55 = .ok (.goto (-40), 3) := by decide +kernel
theorem dX0_digestOn_58 : decode cX0_digestOn 58 = .ok (.iconst 0, 1) := by decide +kernel
theorem dX0_digestOn_59 : decode cX0_digestOn 59 = .ok (.istore 5, 2) := by decide +kernel
theorem dX0_digestOn_61 : decode cX0_digestOn 61 = .ok (.iload 5, 2) := by decide +kernel
theorem dX0_digestOn_63 : decode cX0_digestOn 63 = .ok (.aload_n 0, 1) := by decide +kernel
theorem dX0_digestOn_64 : decode cX0_digestOn 64 = .ok (.getfield 43, 3) := by decide +kernel
theorem dX0_digestOn_67 : decode cX0_digestOn 67 = .ok (.if_icmp .ge 37, 3) := by decide +kernel
theorem dX0_digestOn_70 : decode cX0_digestOn 70 = .ok (.ldc2_w 112, 3) := by decide +kernel
theorem dX0_digestOn_73 : decode cX0_digestOn 73 = .ok (.ldc2_w 112, 3) := by decide +kernel
theorem dX0_digestOn_76 : decode cX0_digestOn 76 = .ok (.lload_n 3, 1) := by decide +kernel
theorem dX0_digestOn_77 : decode cX0_digestOn 77 = .ok (.lmul, 1) := by decide +kernel
theorem dX0_digestOn_78 : decode cX0_digestOn 78 = .ok (.aload_n 0, 1) := by decide +kernel
theorem dX0_digestOn_79 : decode cX0_digestOn 79 = .ok (.getfield 22, 3) := by decide +kernel
theorem dX0_digestOn_82 : decode cX0_digestOn 82 = .ok (.iload 5, 2) := by decide +kernel
theorem dX0_digestOn_84 : decode cX0_digestOn 84 = .ok (.iaload, 1) := by decide +kernel
theorem dX0_digestOn_85 : decode cX0_digestOn 85 = .ok (.i2l, 1) := by decide +kernel
theorem dX0_digestOn_86 : decode cX0_digestOn 86 = .ok (.ladd, 1) := by decide +kernel
theorem dX0_digestOn_87 : decode cX0_digestOn 87 = .ok (.lmul, 1) := by decide +kernel
theorem dX0_digestOn_88 : decode cX0_digestOn 88 = .ok (.aload_n 0, 1) := by decide +kernel
theorem dX0_digestOn_89 : decode cX0_digestOn 89 = .ok (.getfield 25, 3) := by decide +kernel
theorem dX0_digestOn_92 : decode cX0_digestOn 92 = .ok (.iload 5, 2) := by decide +kernel
theorem dX0_digestOn_94 : decode cX0_digestOn 94 = .ok (.iaload, 1) := by decide +kernel
theorem dX0_digestOn_95 : decode cX0_digestOn 95 = .ok (.i2l, 1) := by decide +kernel
theorem dX0_digestOn_96 : decode cX0_digestOn 96 = .ok (.ladd, 1) := by decide +kernel
theorem dX0_digestOn_97 : decode cX0_digestOn 97 = .ok (.lstore_n 3, 1) := by decide +kernel
theorem dX0_digestOn_98 : decode cX0_digestOn 98 = .ok (.iinc 5 1, 3) := by decide +kernel
theorem dX0_digestOn_101 : decode cX0_digestOn 101 = .ok (.goto (-40), 3) := by decide +kernel
theorem dX0_digestOn_104 : decode cX0_digestOn 104 = .ok (.iconst 0, 1) := by decide +kernel
theorem dX0_digestOn_105 : decode cX0_digestOn 105 = .ok (.istore 5, 2) := by decide +kernel
theorem dX0_digestOn_107 : decode cX0_digestOn 107 = .ok (.iload 5, 2) := by decide +kernel
theorem dX0_digestOn_109 : decode cX0_digestOn 109 = .ok (.aload_n 0, 1) := by decide +kernel
theorem dX0_digestOn_110 : decode cX0_digestOn 110 = .ok (.getfield 46, 3) := by decide +kernel
theorem dX0_digestOn_113 : decode cX0_digestOn 113 = .ok (.if_icmp .ge 52, 3) := by decide +kernel
theorem dX0_digestOn_116 : decode cX0_digestOn 116 = .ok (.ldc2_w 112, 3) := by decide +kernel
theorem dX0_digestOn_119 : decode cX0_digestOn 119 = .ok (.ldc2_w 112, 3) := by decide +kernel
theorem dX0_digestOn_122 : decode cX0_digestOn 122 = .ok (.lload_n 3, 1) := by decide +kernel
theorem dX0_digestOn_123 : decode cX0_digestOn 123 = .ok (.lmul, 1) := by decide +kernel
theorem dX0_digestOn_124 : decode cX0_digestOn 124 = .ok (.aload_n 0, 1) := by decide +kernel
theorem dX0_digestOn_125 : decode cX0_digestOn 125 = .ok (.getfield 28, 3) := by decide +kernel
theorem dX0_digestOn_128 : decode cX0_digestOn 128 = .ok (.iload 5, 2) := by decide +kernel
theorem dX0_digestOn_130 : decode cX0_digestOn 130 = .ok (.iaload, 1) := by decide +kernel
theorem dX0_digestOn_131 : decode cX0_digestOn 131 = .ok (.i2l, 1) := by decide +kernel
theorem dX0_digestOn_132 : decode cX0_digestOn 132 = .ok (.ladd, 1) := by decide +kernel
theorem dX0_digestOn_133 : decode cX0_digestOn 133 = .ok (.lmul, 1) := by decide +kernel
theorem dX0_digestOn_134 : decode cX0_digestOn 134 = .ok (.aload_n 0, 1) := by decide +kernel
theorem dX0_digestOn_135 : decode cX0_digestOn 135 = .ok (.getfield 31, 3) := by decide +kernel
theorem dX0_digestOn_138 : decode cX0_digestOn 138 = .ok (.iload 5, 2) := by decide +kernel
theorem dX0_digestOn_140 : decode cX0_digestOn 140 = .ok (.iaload, 1) := by decide +kernel
theorem dX0_digestOn_141 : decode cX0_digestOn 141 = .ok (.i2l, 1) := by decide +kernel
theorem dX0_digestOn_142 : decode cX0_digestOn 142 = .ok (.ladd, 1) := by decide +kernel
theorem dX0_digestOn_143 : decode cX0_digestOn 143 = .ok (.lstore_n 3, 1) := by decide +kernel
theorem dX0_digestOn_144 : decode cX0_digestOn 144 = .ok (.ldc2_w 112, 3) := by decide +kernel
theorem dX0_digestOn_147 : decode cX0_digestOn 147 = .ok (.lload_n 3, 1) := by decide +kernel
theorem dX0_digestOn_148 : decode cX0_digestOn 148 = .ok (.lmul, 1) := by decide +kernel
theorem dX0_digestOn_149 : decode cX0_digestOn 149 = .ok (.aload_n 0, 1) := by decide +kernel
theorem dX0_digestOn_150 : decode cX0_digestOn 150 = .ok (.getfield 34, 3) := by decide +kernel
theorem dX0_digestOn_153 : decode cX0_digestOn 153 = .ok (.iload 5, 2) := by decide +kernel
theorem dX0_digestOn_155 : decode cX0_digestOn 155 = .ok (.iaload, 1) := by decide +kernel
theorem dX0_digestOn_156 : decode cX0_digestOn 156 = .ok (.i2l, 1) := by decide +kernel
theorem dX0_digestOn_157 : decode cX0_digestOn 157 = .ok (.ladd, 1) := by decide +kernel
theorem dX0_digestOn_158 : decode cX0_digestOn 158 = .ok (.lstore_n 3, 1) := by decide +kernel
theorem dX0_digestOn_159 : decode cX0_digestOn 159 = .ok (.iinc 5 1, 3) := by decide +kernel
theorem dX0_digestOn_162 : decode cX0_digestOn 162 = .ok (.goto (-55), 3) := by decide +kernel
theorem dX0_digestOn_165 : decode cX0_digestOn 165 = .ok (.lload_n 3, 1) := by decide +kernel
theorem dX0_digestOn_166 : decode cX0_digestOn 166 = .ok (.lreturn, 1) := by decide +kernel
