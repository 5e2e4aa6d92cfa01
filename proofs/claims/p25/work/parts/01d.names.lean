theorem dX6_load_72 : decode cX6_load 72 = .ok (.getfield 94, 3) := by decide +kernel
theorem dX6_load_75 : decode cX6_load 75 = .ok (.getfield 176, 3) := by decide +kernel
theorem dX6_load_78 : decode cX6_load 78 = .ok (.iload_n 1, 1) := by decide +kernel
theorem dX6_load_79 : decode cX6_load 79 = .ok (.iaload, 1) := by decide +kernel
theorem dX6_load_80 : decode cX6_load 80 = .ok (.istore_n 3, 1) := by decide +kernel
theorem dX6_load_81 : decode cX6_load 81 = .ok (.aload_n 0, 1) := by decide +kernel
theorem dX6_load_82 : decode cX6_load 82 = .ok (.getfield 19, 3) := by decide +kernel
theorem dX6_load_85 : decode cX6_load 85 = .ok (.getfield 94, 3) := by decide +kernel
theorem dX6_load_88 : decode cX6_load 88 = .ok (.getfield 176, 3) := by decide +kernel
theorem dX6_load_91 : decode cX6_load 91 = .ok (.iload_n 1, 1) := by decide +kernel
theorem dX6_load_92 : decode cX6_load 92 = .ok (.iload_n 2, 1) := by decide +kernel
theorem dX6_load_93 : decode cX6_load 93 = .ok (.iastore, 1) := by decide +kernel
theorem dX6_load_94 : decode cX6_load 94 = .ok (.iload_n 3, 1) := by decide +kernel
theorem dX6_load_95 : decode cX6_load 95 = .ok (.ireturn, 1) := by decide +kernel
set_option maxRecDepth 20000 in
theorem ggX6_barrel_X0_has : GoodIn wsX6_barrel wsX0_has := goodIn_r _ [9, 10, 62, 63, 64, 65, 66, 67, 68, 69, 70, 71, 72, 73] (by decide +kernel) (by decide +kernel)
set_option maxRecDepth 20000 in
theorem gX6_barrel_X0_has : GoodIn wsX6_barrel (wsV RX6 124 RX0 yX0_has wsX0_has) := goodIn_app (goodIn_of _ (by decide +kernel)) ggX6_barrel_X0_has
set_option maxRecDepth 20000 in
theorem ggX6_barrel_X6_isBelow : GoodIn wsX6_barrel wsX6_isBelow := goodIn_r _ [14] (by decide +kernel) (by decide +kernel)
set_option maxRecDepth 20000 in
theorem gX6_barrel_X6_isBelow : GoodIn wsX6_barrel (va_wsS RX6 72 yX6_isBelow wsX6_isBelow) := goodIn_app (goodIn_of _ (by decide +kernel)) ggX6_barrel_X6_isBelow
set_option maxRecDepth 20000 in
theorem ggX6_barrel_X6_barrelFact : GoodIn wsX6_barrel wsX6_barrelFact := goodIn_r _ [18, 3, 4, 19, 20, 21, 22, 23, 24, 25, 26, 27, 28, 29, 30, 31, 32, 33, 34, 35, 36, 37, 38, 39, 40, 8, 41, 42, 43, 44, 45, 46, 47, 48, 49, 50, 51, 52, 53, 54, 55, 56, 57, 58, 59, 60, 61, 62, 63, 64, 65, 66, 67, 68, 69, 70, 71, 72, 73, 74, 75, 76, 77, 78] (by decide +kernel) (by decide +kernel)
set_option maxRecDepth 20000 in
theorem gX6_barrel_X6_barrelFact : GoodIn wsX6_barrel (wsV RX6 182 RX6 yX6_barrelFact wsX6_barrelFact) := goodIn_app (goodIn_of _ (by decide +kernel)) ggX6_barrel_X6_barrelFact
theorem dX6_barrel_0 : decode cX6_barrel 0 = .ok (.aload_n 0, 1) := by decide +kernel
theorem dX6_barrel_1 : decode cX6_barrel 1 = .ok (.getfield 19, 3) := by decide +kernel
theorem dX6_barrel_4 : decode cX6_barrel 4 = .ok (.getfield 94, 3) := by decide +kernel
theorem dX6_barrel_7 : decode cX6_barrel 7 = .ok (.iload_n 1, 1) := by decide +kernel
theorem dX6_barrel_8 : decode cX6_barrel 8 = .ok (.invokevirtual 124, 3) := by decide +kernel
theorem dX6_barrel_11 : decode cX6_barrel 11 = .ok (.ifCond .eq 12, 3) := by decide +kernel
theorem dX6_barrel_14 : decode cX6_barrel 14 = .ok (.iload_n 2, 1) := by decide +kernel
theorem dX6_barrel_15 : decode cX6_barrel 15 = .ok (.bipush 13, 2) := by decide +kernel
theorem dX6_barrel_17 : decode cX6_barrel 17 = .ok (.invokestatic 72, 3) := by decide +kernel
theorem dX6_barrel_20 : decode cX6_barrel 20 = .ok (.ifCond .ne 13, 3) := by decide +kernel
theorem dX6_barrel_23 : decode cX6_barrel 23 = .ok (.new 75, 3) := by decide +kernel
theorem dX6_barrel_26 : decode cX6_barrel 26 = .ok (.dup, 1) := by decide +kernel
theorem dX6_barrel_27 : decode cX6_barrel 27 = .ok (.ldc 180, 2) := by decide +kernel
theorem dX6_barrel_29 : decode cX6_barrel 29 = .ok (.invokespecial 79, 3) := by decide +kernel
theorem dX6_barrel_32 : decode cX6_barrel 32 = .ok (.athrow, 1) := by decide +kernel
theorem dX6_barrel_33 : decode cX6_barrel 33 = .ok (.aload_n 0, 1) := by decide +kernel
theorem dX6_barrel_34 : decode cX6_barrel 34 = .ok (.iload_n 1, 1) := by decide +kernel
theorem dX6_barrel_35 : decode cX6_barrel 35 = .ok (.iload_n 2, 1) := by decide +kernel
theorem dX6_barrel_36 : decode cX6_barrel 36 = .ok (.invokevirtual 182, 3) := by decide +kernel
theorem dX6_barrel_39 : decode cX6_barrel 39 = .ok (.ireturn, 1) := by decide +kernel
set_option maxRecDepth 20000 in
theorem ggX6_lashing_X0_has : GoodIn wsX6_lashing wsX0_has := goodIn_r _ [13, 14, 89, 90, 91, 92, 93, 94, 95, 96, 97, 98, 99, 100] (by decide +kernel) (by decide +kernel)
set_option maxRecDepth 20000 in
theorem gX6_lashing_X0_has : GoodIn wsX6_lashing (wsV RX6 124 RX0 yX0_has wsX0_has) := goodIn_app (goodIn_of _ (by decide +kernel)) ggX6_lashing_X0_has
set_option maxRecDepth 20000 in
theorem ggX6_lashing_X6_isBelow : GoodIn wsX6_lashing wsX6_isBelow := goodIn_r _ [18] (by decide +kernel) (by decide +kernel)
set_option maxRecDepth 20000 in
theorem gX6_lashing_X6_isBelow : GoodIn wsX6_lashing (va_wsS RX6 72 yX6_isBelow wsX6_isBelow) := goodIn_app (goodIn_of _ (by decide +kernel)) ggX6_lashing_X6_isBelow
set_option maxRecDepth 20000 in
theorem ggX6_lashing_X2_find : GoodIn wsX6_lashing wsX2_find := goodIn_r _ [23, 24, 25, 26, 27, 28, 29, 30, 31, 32, 33, 84, 85, 86, 87, 88] (by decide +kernel) (by decide +kernel)
set_option maxRecDepth 20000 in
theorem gX6_lashing_X2_find : GoodIn wsX6_lashing (wsV RX6 157 RX2 yX2_find wsX2_find) := goodIn_app (goodIn_of _ (by decide +kernel)) ggX6_lashing_X2_find
set_option maxRecDepth 20000 in
theorem ggX6_lashing_X3_stress : GoodIn wsX6_lashing wsX3_stress := goodIn_r _ [38, 39, 40, 41, 42, 43, 44, 45, 46, 26, 47, 48, 49, 50, 51, 52, 53, 54, 17, 55, 56, 57, 58, 59, 60, 61, 62, 63, 64, 65, 66, 67, 68, 12, 69, 70, 71, 77, 78, 79, 80, 81, 82, 83, 84, 85, 86, 87, 88, 89, 90, 91, 92, 93, 94, 95, 96, 97, 98, 99, 100, 101, 102, 103, 104, 105, 106, 107] (by decide +kernel) (by decide +kernel)
set_option maxRecDepth 20000 in
theorem gX6_lashing_X3_stress : GoodIn wsX6_lashing (wsV RX6 191 RX3 yX3_stress wsX3_stress) := goodIn_app (goodIn_of _ (by decide +kernel)) ggX6_lashing_X3_stress
theorem dX6_lashing_0 : decode cX6_lashing 0 = .ok (.aload_n 0, 1) := by decide +kernel
theorem dX6_lashing_1 : decode cX6_lashing 1 = .ok (.getfield 19, 3) := by decide +kernel
theorem dX6_lashing_4 : decode cX6_lashing 4 = .ok (.getfield 94, 3) := by decide +kernel
theorem dX6_lashing_7 : decode cX6_lashing 7 = .ok (.iload_n 1, 1) := by decide +kernel
theorem dX6_lashing_8 : decode cX6_lashing 8 = .ok (.invokevirtual 124, 3) := by decide +kernel
theorem dX6_lashing_11 : decode cX6_lashing 11 = .ok (.ifCond .eq 25, 3) := by decide +kernel
theorem dX6_lashing_14 : decode cX6_lashing 14 = .ok (.aload_n 0, 1) := by decide +kernel
theorem dX6_lashing_15 : decode cX6_lashing 15 = .ok (.getfield 19, 3) := by decide +kernel
theorem dX6_lashing_18 : decode cX6_lashing 18 = .ok (.getfield 94, 3) := by decide +kernel
theorem dX6_lashing_21 : decode cX6_lashing 21 = .ok (.iload_n 2, 1) := by decide +kernel
theorem dX6_lashing_22 : decode cX6_lashing 22 = .ok (.invokevirtual 124, 3) := by decide +kernel
theorem dX6_lashing_25 : decode cX6_lashing 25 = .ok (.ifCond .eq 11, 3) := by decide +kernel
theorem dX6_lashing_28 : decode cX6_lashing 28 = .ok (.iload_n 3, 1) := by decide +kernel
theorem dX6_lashing_29 : decode cX6_lashing 29 = .ok (.iconst 3, 1) := by decide +kernel
theorem dX6_lashing_30 : decode cX6_lashing 30 = .ok (.invokestatic 72, 3) := by decide +kernel
theorem dX6_lashing_33 : decode cX6_lashing 33 = .ok (.ifCond .ne 13, 3) := by decide +kernel
theorem dX6_lashing_36 : decode cX6_lashing 36 = .ok (.new 75, 3) := by decide +kernel
theorem dX6_lashing_39 : decode cX6_lashing 39 = .ok (.dup, 1) := by decide +kernel
theorem dX6_lashing_40 : decode cX6_lashing 40 = .ok (.ldc 180, 2) := by decide +kernel
theorem dX6_lashing_42 : decode cX6_lashing 42 = .ok (.invokespecial 79, 3) := by decide +kernel
theorem dX6_lashing_45 : decode cX6_lashing 45 = .ok (.athrow, 1) := by decide +kernel
theorem dX6_lashing_46 : decode cX6_lashing 46 = .ok (.aload_n 0, 1) := by decide +kernel
theorem dX6_lashing_47 : decode cX6_lashing 47 = .ok (.getfield 19, 3) := by decide +kernel
theorem dX6_lashing_50 : decode cX6_lashing 50 = .ok (.getfield 136, 3) := by decide +kernel
theorem dX6_lashing_53 : decode cX6_lashing 53 = .ok (.iload_n 1, 1) := by decide +kernel
theorem dX6_lashing_54 : decode cX6_lashing 54 = .ok (.iload_n 2, 1) := by decide +kernel
theorem dX6_lashing_55 : decode cX6_lashing 55 = .ok (.invokevirtual 157, 3) := by decide +kernel
theorem dX6_lashing_58 : decode cX6_lashing 58 = .ok (.istore 4, 2) := by decide +kernel
theorem dX6_lashing_60 : decode cX6_lashing 60 = .ok (.iload 4, 2) := by decide +kernel
theorem dX6_lashing_62 : decode cX6_lashing 62 = .ok (.ifCond .ge 5, 3) := by decide +kernel
theorem dX6_lashing_65 : decode cX6_lashing 65 = .ok (.iconst 0, 1) := by decide +kernel
theorem dX6_lashing_66 : decode cX6_lashing 66 = .ok (.ireturn, 1) := by decide +kernel
theorem dX6_lashing_67 : decode cX6_lashing 67 = .ok (.iload_n 3, 1) := by decide +kernel
theorem dX6_lashing_68 : decode cX6_lashing 68 = .ok (.lookupswitch 56 #[(0, 28), (1, 42)], 28) := by decide +kernel
theorem dX6_lashing_96 : decode cX6_lashing 96 = .ok (.aload_n 0, 1) := by decide +kernel
theorem dX6_lashing_97 : decode cX6_lashing 97 = .ok (.getfield 19, 3) := by decide +kernel
theorem dX6_lashing_100 : decode cX6_lashing 100 = .ok (.getfield 136, 3) := by decide +kernel
theorem dX6_lashing_103 : decode cX6_lashing 103 = .ok (.getfield 185, 3) := by decide +kernel
theorem dX6_lashing_106 : decode cX6_lashing 106 = .ok (.iload 4, 2) := by decide +kernel
theorem dX6_lashing_108 : decode cX6_lashing 108 = .ok (.iaload, 1) := by decide +kernel
theorem dX6_lashing_109 : decode cX6_lashing 109 = .ok (.ireturn, 1) := by decide +kernel
theorem dX6_lashing_110 : decode cX6_lashing 110 = .ok (.aload_n 0, 1) := by decide +kernel
theorem dX6_lashing_111 : decode cX6_lashing 111 = .ok (.getfield 19, 3) := by decide +kernel
theorem dX6_lashing_114 : decode cX6_lashing 114 = .ok (.getfield 136, 3) := by decide +kernel
theorem dX6_lashing_117 : decode cX6_lashing 117 = .ok (.getfield 188, 3) := by decide +kernel
theorem dX6_lashing_120 : decode cX6_lashing 120 = .ok (.iload 4, 2) := by decide +kernel
theorem dX6_lashing_122 : decode cX6_lashing 122 = .ok (.iaload, 1) := by decide +kernel
theorem dX6_lashing_123 : decode cX6_lashing 123 = .ok (.ireturn, 1) := by decide +kernel
theorem dX6_lashing_124 : decode cX6_lashing 124 = .ok (.aload_n 0, 1) := by decide +kernel
theorem dX6_lashing_125 : decode cX6_lashing 125 = .ok (.getfield 19, 3) := by decide +kernel
theorem dX6_lashing_128 : decode cX6_lashing 128 = .ok (.iload 4, 2) := by decide +kernel
theorem dX6_lashing_130 : decode cX6_lashing 130 = .ok (.aload_n 0, 1) := by decide +kernel
theorem dX6_lashing_131 : decode cX6_lashing 131 = .ok (.getfield 12, 3) := by decide +kernel
theorem dX6_lashing_134 : decode cX6_lashing 134 = .ok (.invokevirtual 191, 3) := by decide +kernel
theorem dX6_lashing_137 : decode cX6_lashing 137 = .ok (.ireturn, 1) := by decide +kernel
set_option maxRecDepth 20000 in
theorem ggX6_addCastaway_X0_has : GoodIn wsX6_addCastaway wsX0_has := goodIn_r _ [14, 15, 45, 46, 47, 48, 49, 50, 51, 52, 53, 54, 55, 56] (by decide +kernel) (by decide +kernel)
set_option maxRecDepth 20000 in
theorem gX6_addCastaway_X0_has : GoodIn wsX6_addCastaway (wsV RX6 124 RX0 yX0_has wsX0_has) := goodIn_app (goodIn_of _ (by decide +kernel)) ggX6_addCastaway_X0_has
set_option maxRecDepth 20000 in
theorem ggX6_addCastaway_X0_floats : GoodIn wsX6_addCastaway wsX0_floats := goodIn_r _ [19, 20, 21, 11, 12, 13, 14, 15, 45, 46, 47, 48, 49, 50, 51, 52, 53, 54, 55, 56] (by decide +kernel) (by decide +kernel)
set_option maxRecDepth 20000 in
theorem gX6_addCastaway_X0_floats : GoodIn wsX6_addCastaway (wsV RX6 171 RX0 yX0_floats wsX0_floats) := goodIn_app (goodIn_of _ (by decide +kernel)) ggX6_addCastaway_X0_floats
set_option maxRecDepth 20000 in
theorem ggX6_addCastaway_X1_append : GoodIn wsX6_addCastaway wsX1_append := goodIn_r _ [26, 27, 28, 29, 42, 43, 44] (by decide +kernel) (by decide +kernel)
set_option maxRecDepth 20000 in
theorem gX6_addCastaway_X1_append : GoodIn wsX6_addCastaway (wsV RX6 207 RX1 yX1_append wsX1_append) := goodIn_app (goodIn_of _ (by decide +kernel)) ggX6_addCastaway_X1_append
theorem dX6_addCastaway_0 : decode cX6_addCastaway 0 = .ok (.aload_n 0, 1) := by decide +kernel
theorem dX6_addCastaway_1 : decode cX6_addCastaway 1 = .ok (.getfield 19, 3) := by decide +kernel
theorem dX6_addCastaway_4 : decode cX6_addCastaway 4 = .ok (.getfield 94, 3) := by decide +kernel
theorem dX6_addCastaway_7 : decode cX6_addCastaway 7 = .ok (.iload_n 1, 1) := by decide +kernel
theorem dX6_addCastaway_8 : decode cX6_addCastaway 8 = .ok (.invokevirtual 124, 3) := by decide +kernel
theorem dX6_addCastaway_11 : decode cX6_addCastaway 11 = .ok (.ifCond .ne 13, 3) := by decide +kernel
theorem dX6_addCastaway_14 : decode cX6_addCastaway 14 = .ok (.new 75, 3) := by decide +kernel
theorem dX6_addCastaway_17 : decode cX6_addCastaway 17 = .ok (.dup, 1) := by decide +kernel
theorem dX6_addCastaway_18 : decode cX6_addCastaway 18 = .ok (.ldc 127, 2) := by decide +kernel
theorem dX6_addCastaway_20 : decode cX6_addCastaway 20 = .ok (.invokespecial 79, 3) := by decide +kernel
theorem dX6_addCastaway_23 : decode cX6_addCastaway 23 = .ok (.athrow, 1) := by decide +kernel
theorem dX6_addCastaway_24 : decode cX6_addCastaway 24 = .ok (.aload_n 0, 1) := by decide +kernel
theorem dX6_addCastaway_25 : decode cX6_addCastaway 25 = .ok (.getfield 19, 3) := by decide +kernel
theorem dX6_addCastaway_28 : decode cX6_addCastaway 28 = .ok (.getfield 94, 3) := by decide +kernel
theorem dX6_addCastaway_31 : decode cX6_addCastaway 31 = .ok (.iload_n 1, 1) := by decide +kernel
theorem dX6_addCastaway_32 : decode cX6_addCastaway 32 = .ok (.invokevirtual 171, 3) := by decide +kernel
theorem dX6_addCastaway_35 : decode cX6_addCastaway 35 = .ok (.ifCond .eq 18, 3) := by decide +kernel
theorem dX6_addCastaway_38 : decode cX6_addCastaway 38 = .ok (.aload_n 0, 1) := by decide +kernel
theorem dX6_addCastaway_39 : decode cX6_addCastaway 39 = .ok (.getfield 19, 3) := by decide +kernel
theorem dX6_addCastaway_42 : decode cX6_addCastaway 42 = .ok (.getfield 195, 3) := by decide +kernel
theorem dX6_addCastaway_45 : decode cX6_addCastaway 45 = .ok (.getfield 199, 3) := by decide +kernel
theorem dX6_addCastaway_48 : decode cX6_addCastaway 48 = .ok (.bipush 8, 2) := by decide +kernel
theorem dX6_addCastaway_50 : decode cX6_addCastaway 50 = .ok (.if_icmp .lt 13, 3) := by decide +kernel
theorem dX6_addCastaway_53 : decode cX6_addCastaway 53 = .ok (.new 59, 3) := by decide +kernel
theorem dX6_addCastaway_56 : decode cX6_addCastaway 56 = .ok (.dup, 1) := by decide +kernel
theorem dX6_addCastaway_57 : decode cX6_addCastaway 57 = .ok (.ldc 202, 2) := by decide +kernel
theorem dX6_addCastaway_59 : decode cX6_addCastaway 59 = .ok (.invokespecial 63, 3) := by decide +kernel
theorem dX6_addCastaway_62 : decode cX6_addCastaway 62 = .ok (.athrow, 1) := by decide +kernel
theorem dX6_addCastaway_63 : decode cX6_addCastaway 63 = .ok (.aload_n 0, 1) := by decide +kernel
theorem dX6_addCastaway_64 : decode cX6_addCastaway 64 = .ok (.getfield 19, 3) := by decide +kernel
theorem dX6_addCastaway_67 : decode cX6_addCastaway 67 = .ok (.getfield 94, 3) := by decide +kernel
theorem dX6_addCastaway_70 : decode cX6_addCastaway 70 = .ok (.getfield 204, 3) := by decide +kernel
theorem dX6_addCastaway_73 : decode cX6_addCastaway 73 = .ok (.iload_n 1, 1) := by decide +kernel
theorem dX6_addCastaway_74 : decode cX6_addCastaway 74 = .ok (.dup2, 1) := by decide +kernel
theorem dX6_addCastaway_75 : decode cX6_addCastaway 75 = .ok (.iaload, 1) := by decide +kernel
theorem dX6_addCastaway_76 : decode cX6_addCastaway 76 = .ok (.iconst 1, 1) := by decide +kernel
theorem dX6_addCastaway_77 : decode cX6_addCastaway 77 = .ok (.iadd, 1) := by decide +kernel
theorem dX6_addCastaway_78 : decode cX6_addCastaway 78 = .ok (.iastore, 1) := by decide +kernel
theorem dX6_addCastaway_79 : decode cX6_addCastaway 79 = .ok (.aload_n 0, 1) := by decide +kernel
theorem dX6_addCastaway_80 : decode cX6_addCastaway 80 = .ok (.getfield 19, 3) := by decide +kernel
theorem dX6_addCastaway_83 : decode cX6_addCastaway 83 = .ok (.getfield 195, 3) := by decide +kernel
theorem dX6_addCastaway_86 : decode cX6_addCastaway 86 = .ok (.iload_n 1, 1) := by decide +kernel
theorem dX6_addCastaway_87 : decode cX6_addCastaway 87 = .ok (.invokevirtual 207, 3) := by decide +kernel
theorem dX6_addCastaway_90 : decode cX6_addCastaway 90 = .ok (.ireturn, 1) := by decide +kernel
set_option maxRecDepth 20000 in
theorem ggX6_go_X1_has : GoodIn wsX6_go wsX1_has := goodIn_r _ [15, 16, 50, 51, 52] (by decide +kernel) (by decide +kernel)
set_option maxRecDepth 20000 in
theorem gX6_go_X1_has : GoodIn wsX6_go (wsV RX6 209 RX1 yX1_has wsX1_has) := goodIn_app (goodIn_of _ (by decide +kernel)) ggX6_go_X1_has
set_option maxRecDepth 20000 in
theorem ggX6_go_X0_has : GoodIn wsX6_go wsX0_has := goodIn_r _ [21, 22, 53, 54, 55, 56, 57, 58, 59, 60, 61, 62, 63, 64] (by decide +kernel) (by decide +kernel)
set_option maxRecDepth 20000 in
theorem gX6_go_X0_has : GoodIn wsX6_go (wsV RX6 124 RX0 yX0_has wsX0_has) := goodIn_app (goodIn_of _ (by decide +kernel)) ggX6_go_X0_has
set_option maxRecDepth 20000 in
theorem ggX6_go_X2_find : GoodIn wsX6_go wsX2_find := goodIn_r _ [27, 28, 29, 30, 31, 32, 33, 34, 35, 36, 37, 65, 66, 67, 68, 69] (by decide +kernel) (by decide +kernel)
set_option maxRecDepth 20000 in
theorem gX6_go_X2_find : GoodIn wsX6_go (wsV RX6 157 RX2 yX2_find wsX2_find) := goodIn_app (goodIn_of _ (by decide +kernel)) ggX6_go_X2_find
theorem dX6_go_0 : decode cX6_go 0 = .ok (.aload_n 0, 1) := by decide +kernel
theorem dX6_go_1 : decode cX6_go 1 = .ok (.getfield 19, 3) := by decide +kernel
theorem dX6_go_4 : decode cX6_go 4 = .ok (.getfield 195, 3) := by decide +kernel
theorem dX6_go_7 : decode cX6_go 7 = .ok (.iload_n 1, 1) := by decide +kernel
theorem dX6_go_8 : decode cX6_go 8 = .ok (.invokevirtual 209, 3) := by decide +kernel
theorem dX6_go_11 : decode cX6_go 11 = .ok (.ifCond .eq 17, 3) := by decide +kernel
theorem dX6_go_14 : decode cX6_go 14 = .ok (.aload_n 0, 1) := by decide +kernel
theorem dX6_go_15 : decode cX6_go 15 = .ok (.getfield 19, 3) := by decide +kernel
theorem dX6_go_18 : decode cX6_go 18 = .ok (.getfield 94, 3) := by decide +kernel
theorem dX6_go_21 : decode cX6_go 21 = .ok (.iload_n 2, 1) := by decide +kernel
theorem dX6_go_22 : decode cX6_go 22 = .ok (.invokevirtual 124, 3) := by decide +kernel
theorem dX6_go_25 : decode cX6_go 25 = .ok (.ifCond .ne 13, 3) := by decide +kernel
theorem dX6_go_28 : decode cX6_go 28 = .ok (.new 75, 3) := by decide +kernel
theorem dX6_go_31 : decode cX6_go 31 = .ok (.dup, 1) := by decide +kernel
theorem dX6_go_32 : decode cX6_go 32 = .ok (.ldc 210, 2) := by decide +kernel
theorem dX6_go_34 : decode cX6_go 34 = .ok (.invokespecial 79, 3) := by decide +kernel
theorem dX6_go_37 : decode cX6_go 37 = .ok (.athrow, 1) := by decide +kernel
theorem dX6_go_38 : decode cX6_go 38 = .ok (.aload_n 0, 1) := by decide +kernel
theorem dX6_go_39 : decode cX6_go 39 = .ok (.getfield 19, 3) := by decide +kernel
theorem dX6_go_42 : decode cX6_go 42 = .ok (.getfield 195, 3) := by decide +kernel
theorem dX6_go_45 : decode cX6_go 45 = .ok (.getfield 212, 3) := by decide +kernel
theorem dX6_go_48 : decode cX6_go 48 = .ok (.iload_n 1, 1) := by decide +kernel
theorem dX6_go_49 : decode cX6_go 49 = .ok (.iaload, 1) := by decide +kernel
theorem dX6_go_50 : decode cX6_go 50 = .ok (.istore_n 3, 1) := by decide +kernel
theorem dX6_go_51 : decode cX6_go 51 = .ok (.aload_n 0, 1) := by decide +kernel
theorem dX6_go_52 : decode cX6_go 52 = .ok (.getfield 19, 3) := by decide +kernel
theorem dX6_go_55 : decode cX6_go 55 = .ok (.getfield 94, 3) := by decide +kernel
theorem dX6_go_58 : decode cX6_go 58 = .ok (.iload_n 3, 1) := by decide +kernel
theorem dX6_go_59 : decode cX6_go 59 = .ok (.invokevirtual 124, 3) := by decide +kernel
theorem dX6_go_62 : decode cX6_go 62 = .ok (.ifCond .eq 18, 3) := by decide +kernel
theorem dX6_go_65 : decode cX6_go 65 = .ok (.aload_n 0, 1) := by decide +kernel
theorem dX6_go_66 : decode cX6_go 66 = .ok (.getfield 19, 3) := by decide +kernel
theorem dX6_go_69 : decode cX6_go 69 = .ok (.getfield 136, 3) := by decide +kernel
theorem dX6_go_72 : decode cX6_go 72 = .ok (.iload_n 3, 1) := by decide +kernel
theorem dX6_go_73 : decode cX6_go 73 = .ok (.iload_n 2, 1) := by decide +kernel
theorem dX6_go_74 : decode cX6_go 74 = .ok (.invokevirtual 157, 3) := by decide +kernel
theorem dX6_go_77 : decode cX6_go 77 = .ok (.ifCond .ge 13, 3) := by decide +kernel
theorem dX6_go_80 : decode cX6_go 80 = .ok (.new 59, 3) := by decide +kernel
theorem dX6_go_83 : decode cX6_go 83 = .ok (.dup, 1) := by decide +kernel
theorem dX6_go_84 : decode cX6_go 84 = .ok (.ldc 215, 2) := by decide +kernel
theorem dX6_go_86 : decode cX6_go 86 = .ok (.invokespecial 63, 3) := by decide +kernel
theorem dX6_go_89 : decode cX6_go 89 = .ok (.athrow, 1) := by decide +kernel
theorem dX6_go_90 : decode cX6_go 90 = .ok (.aload_n 0, 1) := by decide +kernel
theorem dX6_go_91 : decode cX6_go 91 = .ok (.getfield 19, 3) := by decide +kernel
theorem dX6_go_94 : decode cX6_go 94 = .ok (.getfield 94, 3) := by decide +kernel
theorem dX6_go_97 : decode cX6_go 97 = .ok (.getfield 204, 3) := by decide +kernel
theorem dX6_go_100 : decode cX6_go 100 = .ok (.iload_n 3, 1) := by decide +kernel
theorem dX6_go_101 : decode cX6_go 101 = .ok (.dup2, 1) := by decide +kernel
theorem dX6_go_102 : decode cX6_go 102 = .ok (.iaload, 1) := by decide +kernel
theorem dX6_go_103 : decode cX6_go 103 = .ok (.iconst 1, 1) := by decide +kernel
theorem dX6_go_104 : decode cX6_go 104 = .ok (.isub, 1) := by decide +kernel
theorem dX6_go_105 : decode cX6_go 105 = .ok (.iastore, 1) := by decide +kernel
theorem dX6_go_106 : decode cX6_go 106 = .ok (.aload_n 0, 1) := by decide +kernel
theorem dX6_go_107 : decode cX6_go 107 = .ok (.getfield 19, 3) := by decide +kernel
theorem dX6_go_110 : decode cX6_go 110 = .ok (.getfield 94, 3) := by decide +kernel
theorem dX6_go_113 : decode cX6_go 113 = .ok (.getfield 204, 3) := by decide +kernel
theorem dX6_go_116 : decode cX6_go 116 = .ok (.iload_n 2, 1) := by decide +kernel
theorem dX6_go_117 : decode cX6_go 117 = .ok (.dup2, 1) := by decide +kernel
theorem dX6_go_118 : decode cX6_go 118 = .ok (.iaload, 1) := by decide +kernel
theorem dX6_go_119 : decode cX6_go 119 = .ok (.iconst 1, 1) := by decide +kernel
theorem dX6_go_120 : decode cX6_go 120 = .ok (.iadd, 1) := by decide +kernel
theorem dX6_go_121 : decode cX6_go 121 = .ok (.iastore, 1) := by decide +kernel
theorem dX6_go_122 : decode cX6_go 122 = .ok (.aload_n 0, 1) := by decide +kernel
theorem dX6_go_123 : decode cX6_go 123 = .ok (.getfield 19, 3) := by decide +kernel
theorem dX6_go_126 : decode cX6_go 126 = .ok (.getfield 195, 3) := by decide +kernel
theorem dX6_go_129 : decode cX6_go 129 = .ok (.getfield 212, 3) := by decide +kernel
theorem dX6_go_132 : decode cX6_go 132 = .ok (.iload_n 1, 1) := by decide +kernel
theorem dX6_go_133 : decode cX6_go 133 = .ok (.iload_n 2, 1) := by decide +kernel
theorem dX6_go_134 : decode cX6_go 134 = .ok (.iastore, 1) := by decide +kernel
theorem dX6_go_135 : decode cX6_go 135 = .ok (.aload_n 0, 1) := by decide +kernel
theorem dX6_go_136 : decode cX6_go 136 = .ok (.getfield 19, 3) := by decide +kernel
theorem dX6_go_139 : decode cX6_go 139 = .ok (.getfield 94, 3) := by decide +kernel
theorem dX6_go_142 : decode cX6_go 142 = .ok (.getfield 204, 3) := by decide +kernel
theorem dX6_go_145 : decode cX6_go 145 = .ok (.iload_n 2, 1) := by decide +kernel
theorem dX6_go_146 : decode cX6_go 146 = .ok (.iaload, 1) := by decide +kernel
theorem dX6_go_147 : decode cX6_go 147 = .ok (.ireturn, 1) := by decide +kernel
set_option maxRecDepth 20000 in
theorem ggX6_bail_X1_has : GoodIn wsX6_bail wsX1_has := goodIn_r _ [18, 19, 38, 39, 40] (by decide +kernel) (by decide +kernel)
set_option maxRecDepth 20000 in
theorem gX6_bail_X1_has : GoodIn wsX6_bail (wsV RX6 209 RX1 yX1_has wsX1_has) := goodIn_app (goodIn_of _ (by decide +kernel)) ggX6_bail_X1_has
set_option maxRecDepth 20000 in
theorem ggX6_bail_X0_has : GoodIn wsX6_bail wsX0_has := goodIn_r _ [24, 25, 41, 42, 43, 44, 45, 46, 47, 48, 49, 50, 51, 52] (by decide +kernel) (by decide +kernel)
set_option maxRecDepth 20000 in
theorem gX6_bail_X0_has : GoodIn wsX6_bail (wsV RX6 124 RX0 yX0_has wsX0_has) := goodIn_app (goodIn_of _ (by decide +kernel)) ggX6_bail_X0_has
theorem dX6_bail_0 : decode cX6_bail 0 = .ok (.aload_n 0, 1) := by decide +kernel
theorem dX6_bail_1 : decode cX6_bail 1 = .ok (.getfield 19, 3) := by decide +kernel
theorem dX6_bail_4 : decode cX6_bail 4 = .ok (.getfield 195, 3) := by decide +kernel
theorem dX6_bail_7 : decode cX6_bail 7 = .ok (.iload_n 1, 1) := by decide +kernel
theorem dX6_bail_8 : decode cX6_bail 8 = .ok (.invokevirtual 209, 3) := by decide +kernel
theorem dX6_bail_11 : decode cX6_bail 11 = .ok (.ifCond .ne 13, 3) := by decide +kernel
theorem dX6_bail_14 : decode cX6_bail 14 = .ok (.new 75, 3) := by decide +kernel
theorem dX6_bail_17 : decode cX6_bail 17 = .ok (.dup, 1) := by decide +kernel
theorem dX6_bail_18 : decode cX6_bail 18 = .ok (.ldc 217, 2) := by decide +kernel
theorem dX6_bail_20 : decode cX6_bail 20 = .ok (.invokespecial 79, 3) := by decide +kernel
theorem dX6_bail_23 : decode cX6_bail 23 = .ok (.athrow, 1) := by decide +kernel
theorem dX6_bail_24 : decode cX6_bail 24 = .ok (.aload_n 0, 1) := by decide +kernel
theorem dX6_bail_25 : decode cX6_bail 25 = .ok (.getfield 19, 3) := by decide +kernel
theorem dX6_bail_28 : decode cX6_bail 28 = .ok (.getfield 195, 3) := by decide +kernel
theorem dX6_bail_31 : decode cX6_bail 31 = .ok (.getfield 212, 3) := by decide +kernel
theorem dX6_bail_34 : decode cX6_bail 34 = .ok (.iload_n 1, 1) := by decide +kernel
theorem dX6_bail_35 : decode cX6_bail 35 = .ok (.iaload, 1) := by decide +kernel
theorem dX6_bail_36 : decode cX6_bail 36 = .ok (.istore_n 2, 1) := by decide +kernel
theorem dX6_bail_37 : decode cX6_bail 37 = .ok (.aload_n 0, 1) := by decide +kernel
theorem dX6_bail_38 : decode cX6_bail 38 = .ok (.getfield 19, 3) := by decide +kernel
theorem dX6_bail_41 : decode cX6_bail 41 = .ok (.getfield 94, 3) := by decide +kernel
theorem dX6_bail_44 : decode cX6_bail 44 = .ok (.iload_n 2, 1) := by decide +kernel
theorem dX6_bail_45 : decode cX6_bail 45 = .ok (.invokevirtual 124, 3) := by decide +kernel
theorem dX6_bail_48 : decode cX6_bail 48 = .ok (.ifCond .ne 13, 3) := by decide +kernel
theorem dX6_bail_51 : decode cX6_bail 51 = .ok (.new 59, 3) := by decide +kernel
theorem dX6_bail_54 : decode cX6_bail 54 = .ok (.dup, 1) := by decide +kernel
theorem dX6_bail_55 : decode cX6_bail 55 = .ok (.ldc 219, 2) := by decide +kernel
theorem dX6_bail_57 : decode cX6_bail 57 = .ok (.invokespecial 63, 3) := by decide +kernel
theorem dX6_bail_60 : decode cX6_bail 60 = .ok (.athrow, 1) := by decide +kernel
theorem dX6_bail_61 : decode cX6_bail 61 = .ok (.aload_n 0, 1) := by decide +kernel
theorem dX6_bail_62 : decode cX6_bail 62 = .ok (.getfield 19, 3) := by decide +kernel
theorem dX6_bail_65 : decode cX6_bail 65 = .ok (.getfield 94, 3) := by decide +kernel
theorem dX6_bail_68 : decode cX6_bail 68 = .ok (.getfield 221, 3) := by decide +kernel
theorem dX6_bail_71 : decode cX6_bail 71 = .ok (.iload_n 2, 1) := by decide +kernel
theorem dX6_bail_72 : decode cX6_bail 72 = .ok (.iconst 0, 1) := by decide +kernel
theorem dX6_bail_73 : decode cX6_bail 73 = .ok (.aload_n 0, 1) := by decide +kernel
theorem dX6_bail_74 : decode cX6_bail 74 = .ok (.getfield 19, 3) := by decide +kernel
theorem dX6_bail_77 : decode cX6_bail 77 = .ok (.getfield 94, 3) := by decide +kernel
theorem dX6_bail_80 : decode cX6_bail 80 = .ok (.getfield 221, 3) := by decide +kernel
theorem dX6_bail_83 : decode cX6_bail 83 = .ok (.iload_n 2, 1) := by decide +kernel
theorem dX6_bail_84 : decode cX6_bail 84 = .ok (.iaload, 1) := by decide +kernel
theorem dX6_bail_85 : decode cX6_bail 85 = .ok (.bipush 25, 2) := by decide +kernel
theorem dX6_bail_87 : decode cX6_bail 87 = .ok (.isub, 1) := by decide +kernel
theorem dX6_bail_88 : decode cX6_bail 88 = .ok (.invokestatic 145, 3) := by decide +kernel
theorem dX6_bail_91 : decode cX6_bail 91 = .ok (.iastore, 1) := by decide +kernel
theorem dX6_bail_92 : decode cX6_bail 92 = .ok (.aload_n 0, 1) := by decide +kernel
theorem dX6_bail_93 : decode cX6_bail 93 = .ok (.getfield 19, 3) := by decide +kernel
theorem dX6_bail_96 : decode cX6_bail 96 = .ok (.getfield 94, 3) := by decide +kernel
theorem dX6_bail_99 : decode cX6_bail 99 = .ok (.getfield 221, 3) := by decide +kernel
theorem dX6_bail_102 : decode cX6_bail 102 = .ok (.iload_n 2, 1) := by decide +kernel
theorem dX6_bail_103 : decode cX6_bail 103 = .ok (.iaload, 1) := by decide +kernel
theorem dX6_bail_104 : decode cX6_bail 104 = .ok (.ireturn, 1) := by decide +kernel
set_option maxRecDepth 20000 in
theorem ggX6_castaway_X1_has : GoodIn wsX6_castaway wsX1_has := goodIn_r _ [9, 10, 33, 34, 35] (by decide +kernel) (by decide +kernel)
set_option maxRecDepth 20000 in
theorem gX6_castaway_X1_has : GoodIn wsX6_castaway (wsV RX6 209 RX1 yX1_has wsX1_has) := goodIn_app (goodIn_of _ (by decide +kernel)) ggX6_castaway_X1_has
set_option maxRecDepth 20000 in
theorem ggX6_castaway_X6_isBelow : GoodIn wsX6_castaway wsX6_isBelow := goodIn_r _ [14] (by decide +kernel) (by decide +kernel)
set_option maxRecDepth 20000 in
theorem gX6_castaway_X6_isBelow : GoodIn wsX6_castaway (va_wsS RX6 72 yX6_isBelow wsX6_isBelow) := goodIn_app (goodIn_of _ (by decide +kernel)) ggX6_castaway_X6_isBelow
set_option maxRecDepth 20000 in
theorem ggX6_castaway_X6_castawayFact : GoodIn wsX6_castaway wsX6_castawayFact := goodIn_r _ [18, 3, 4, 19, 20, 21, 22, 23, 24, 25, 26, 27, 28, 29, 30, 31, 32, 33, 34, 35] (by decide +kernel) (by decide +kernel)
set_option maxRecDepth 20000 in
theorem gX6_castaway_X6_castawayFact : GoodIn wsX6_castaway (wsV RX6 226 RX6 yX6_castawayFact wsX6_castawayFact) := goodIn_app (goodIn_of _ (by decide +kernel)) ggX6_castaway_X6_castawayFact
theorem dX6_castaway_0 : decode cX6_castaway 0 = .ok (.aload_n 0, 1) := by decide +kernel
theorem dX6_castaway_1 : decode cX6_castaway 1 = .ok (.getfield 19, 3) := by decide +kernel
theorem dX6_castaway_4 : decode cX6_castaway 4 = .ok (.getfield 195, 3) := by decide +kernel
theorem dX6_castaway_7 : decode cX6_castaway 7 = .ok (.iload_n 1, 1) := by decide +kernel
theorem dX6_castaway_8 : decode cX6_castaway 8 = .ok (.invokevirtual 209, 3) := by decide +kernel
theorem dX6_castaway_11 : decode cX6_castaway 11 = .ok (.ifCond .eq 11, 3) := by decide +kernel
theorem dX6_castaway_14 : decode cX6_castaway 14 = .ok (.iload_n 2, 1) := by decide +kernel
theorem dX6_castaway_15 : decode cX6_castaway 15 = .ok (.iconst 2, 1) := by decide +kernel
theorem dX6_castaway_16 : decode cX6_castaway 16 = .ok (.invokestatic 72, 3) := by decide +kernel
theorem dX6_castaway_19 : decode cX6_castaway 19 = .ok (.ifCond .ne 13, 3) := by decide +kernel
theorem dX6_castaway_22 : decode cX6_castaway 22 = .ok (.new 75, 3) := by decide +kernel
theorem dX6_castaway_25 : decode cX6_castaway 25 = .ok (.dup, 1) := by decide +kernel
theorem dX6_castaway_26 : decode cX6_castaway 26 = .ok (.ldc 224, 2) := by decide +kernel
theorem dX6_castaway_28 : decode cX6_castaway 28 = .ok (.invokespecial 79, 3) := by decide +kernel
theorem dX6_castaway_31 : decode cX6_castaway 31 = .ok (.athrow, 1) := by decide +kernel
theorem dX6_castaway_32 : decode cX6_castaway 32 = .ok (.aload_n 0, 1) := by decide +kernel
theorem dX6_castaway_33 : decode cX6_castaway 33 = .ok (.iload_n 1, 1) := by decide +kernel
theorem dX6_castaway_34 : decode cX6_castaway 34 = .ok (.iload_n 2, 1) := by decide +kernel
theorem dX6_castaway_35 : decode cX6_castaway 35 = .ok (.invokevirtual 226, 3) := by decide +kernel
theorem dX6_castaway_38 : decode cX6_castaway 38 = .ok (.ireturn, 1) := by decide +kernel
set_option maxRecDepth 20000 in
theorem ggX6_pass_X3_passHours : GoodIn wsX6_pass wsX3_passHours := goodIn_r _ [10, 11, 12, 13, 14, 15, 16, 17, 18, 19, 20, 21, 22, 23, 24, 25, 26, 27, 28, 29, 30, 31, 32, 9, 33, 34, 35, 36, 37, 38, 39, 40, 41, 42, 43, 44, 45, 46, 47, 48, 49, 50, 51, 52, 53, 54, 55, 56, 57, 58, 59, 60, 61, 62, 63, 64, 65, 66, 67, 68, 69, 70, 71, 72, 73, 74, 75, 76, 77, 78, 79, 80, 81, 82, 83, 84, 85, 86, 87, 88, 89, 90, 91, 92, 93, 94, 95, 96, 97, 98, 99, 100, 101, 102, 103, 104, 105, 106, 107, 108, 109, 110, 111, 112, 113, 114, 115, 116, 117, 118, 119, 120, 121, 122, 123, 124, 125, 126, 127, 128, 129, 130, 131, 132, 133, 134, 135, 136, 137, 138, 139, 140, 141, 142, 143, 144, 145, 146, 147, 148, 149, 150, 151, 152, 153, 154, 155, 156, 157, 158, 159, 160, 161, 162, 163, 164, 165, 166, 167, 168, 169, 170, 171, 172, 173, 174, 175, 176, 177, 178, 179, 180, 181, 187, 188, 189, 190, 191, 192, 193, 194, 195, 196, 197, 198, 199, 200, 201, 202, 203, 204, 205, 206, 207, 208, 209, 210, 211, 212, 213, 214, 215, 216, 217, 218, 219, 220] (by decide +kernel) (by decide +kernel)
set_option maxRecDepth 20000 in
theorem gX6_pass_X3_passHours : GoodIn wsX6_pass (wsV RX6 234 RX3 yX3_passHours wsX3_passHours) := goodIn_app (goodIn_of _ (by decide +kernel)) ggX6_pass_X3_passHours
theorem dX6_pass_0 : decode cX6_pass 0 = .ok (.iload_n 1, 1) := by decide +kernel
theorem dX6_pass_1 : decode cX6_pass 1 = .ok (.iconst 1, 1) := by decide +kernel
theorem dX6_pass_2 : decode cX6_pass 2 = .ok (.if_icmp .lt 9, 3) := by decide +kernel
theorem dX6_pass_5 : decode cX6_pass 5 = .ok (.iload_n 1, 1) := by decide +kernel
theorem dX6_pass_6 : decode cX6_pass 6 = .ok (.bipush 100, 2) := by decide +kernel
theorem dX6_pass_8 : decode cX6_pass 8 = .ok (.if_icmp .le 13, 3) := by decide +kernel
theorem dX6_pass_11 : decode cX6_pass 11 = .ok (.new 41, 3) := by decide +kernel
theorem dX6_pass_14 : decode cX6_pass 14 = .ok (.dup, 1) := by decide +kernel
theorem dX6_pass_15 : decode cX6_pass 15 = .ok (.ldc 229, 2) := by decide +kernel
theorem dX6_pass_17 : decode cX6_pass 17 = .ok (.invokespecial 45, 3) := by decide +kernel
theorem dX6_pass_20 : decode cX6_pass 20 = .ok (.athrow, 1) := by decide +kernel
theorem dX6_pass_21 : decode cX6_pass 21 = .ok (.aload_n 0, 1) := by decide +kernel
theorem dX6_pass_22 : decode cX6_pass 22 = .ok (.getfield 19, 3) := by decide +kernel
theorem dX6_pass_25 : decode cX6_pass 25 = .ok (.getfield 231, 3) := by decide +kernel
theorem dX6_pass_28 : decode cX6_pass 28 = .ok (.istore_n 2, 1) := by decide +kernel
theorem dX6_pass_29 : decode cX6_pass 29 = .ok (.aload_n 0, 1) := by decide +kernel
theorem dX6_pass_30 : decode cX6_pass 30 = .ok (.getfield 19, 3) := by decide +kernel
theorem dX6_pass_33 : decode cX6_pass 33 = .ok (.iload_n 1, 1) := by decide +kernel
theorem dX6_pass_34 : decode cX6_pass 34 = .ok (.aload_n 0, 1) := by decide +kernel
theorem dX6_pass_35 : decode cX6_pass 35 = .ok (.getfield 12, 3) := by decide +kernel
theorem dX6_pass_38 : decode cX6_pass 38 = .ok (.invokevirtual 234, 3) := by decide +kernel
theorem dX6_pass_41 : decode cX6_pass 41 = .ok (.aload_n 0, 1) := by decide +kernel
theorem dX6_pass_42 : decode cX6_pass 42 = .ok (.getfield 19, 3) := by decide +kernel
theorem dX6_pass_45 : decode cX6_pass 45 = .ok (.getfield 231, 3) := by decide +kernel
theorem dX6_pass_48 : decode cX6_pass 48 = .ok (.iload_n 2, 1) := by decide +kernel
theorem dX6_pass_49 : decode cX6_pass 49 = .ok (.isub, 1) := by decide +kernel
theorem dX6_pass_50 : decode cX6_pass 50 = .ok (.ireturn, 1) := by decide +kernel
set_option maxRecDepth 20000 in
theorem ggX6_count_X6_isBelow : GoodIn wsX6_count wsX6_isBelow := goodIn_r _ [6] (by decide +kernel) (by decide +kernel)
set_option maxRecDepth 20000 in
theorem gX6_count_X6_isBelow : GoodIn wsX6_count (va_wsS RX6 72 yX6_isBelow wsX6_isBelow) := goodIn_app (goodIn_of _ (by decide +kernel)) ggX6_count_X6_isBelow
set_option maxRecDepth 20000 in
theorem ggX6_count_X6_countFact : GoodIn wsX6_count wsX6_countFact := goodIn_r _ [10, 11, 12, 13, 14, 15, 16, 17, 18, 19, 20, 21, 22, 23, 24, 25, 26, 27, 28, 29, 30, 31, 32, 33, 34, 35, 36, 37, 38, 39, 40, 41, 42, 43, 44, 45, 46, 47, 48, 49, 50, 51, 52, 53, 54, 55, 56, 57, 58, 59, 60, 61, 62, 63, 64, 65, 66, 67, 68, 69, 70, 71, 72, 73, 74, 75, 76] (by decide +kernel) (by decide +kernel)
set_option maxRecDepth 20000 in
theorem gX6_count_X6_countFact : GoodIn wsX6_count (wsV RX6 240 RX6 yX6_countFact wsX6_countFact) := goodIn_app (goodIn_of _ (by decide +kernel)) ggX6_count_X6_countFact
theorem dX6_count_0 : decode cX6_count 0 = .ok (.iload_n 1, 1) := by decide +kernel
theorem dX6_count_1 : decode cX6_count 1 = .ok (.bipush 12, 2) := by decide +kernel
theorem dX6_count_3 : decode cX6_count 3 = .ok (.invokestatic 72, 3) := by decide +kernel
theorem dX6_count_6 : decode cX6_count 6 = .ok (.ifCond .ne 13, 3) := by decide +kernel
theorem dX6_count_9 : decode cX6_count 9 = .ok (.new 75, 3) := by decide +kernel
theorem dX6_count_12 : decode cX6_count 12 = .ok (.dup, 1) := by decide +kernel
theorem dX6_count_13 : decode cX6_count 13 = .ok (.ldc 238, 2) := by decide +kernel
theorem dX6_count_15 : decode cX6_count 15 = .ok (.invokespecial 79, 3) := by decide +kernel
theorem dX6_count_18 : decode cX6_count 18 = .ok (.athrow, 1) := by decide +kernel
theorem dX6_count_19 : decode cX6_count 19 = .ok (.aload_n 0, 1) := by decide +kernel
theorem dX6_count_20 : decode cX6_count 20 = .ok (.iload_n 1, 1) := by decide +kernel
theorem dX6_count_21 : decode cX6_count 21 = .ok (.invokevirtual 240, 3) := by decide +kernel
theorem dX6_count_24 : decode cX6_count 24 = .ok (.ireturn, 1) := by decide +kernel
set_option maxRecDepth 20000 in
theorem ggX6_firm_X0_has : GoodIn wsX6_firm wsX0_has := goodIn_r _ [11, 12, 62, 63, 64, 65, 66, 67, 68, 69, 70, 71, 72, 73] (by decide +kernel) (by decide +kernel)
set_option maxRecDepth 20000 in
theorem gX6_firm_X0_has : GoodIn wsX6_firm (wsV RX6 124 RX0 yX0_has wsX0_has) := goodIn_app (goodIn_of _ (by decide +kernel)) ggX6_firm_X0_has
set_option maxRecDepth 20000 in
theorem ggX6_firm_X5_countApart : GoodIn wsX6_firm wsX5_countApart := goodIn_r _ [17, 18, 19, 20, 21, 22, 23, 24, 25, 26, 16, 27, 28, 29, 30, 31, 32, 33, 34, 35, 36, 37, 38, 39, 40, 41, 42, 43, 44, 45, 46, 47, 48, 49, 74, 75, 76, 77, 78, 79, 80, 81, 82] (by decide +kernel) (by decide +kernel)
set_option maxRecDepth 20000 in
theorem gX6_firm_X5_countApart : GoodIn wsX6_firm (wsV RX6 243 RX5 yX5_countApart wsX5_countApart) := goodIn_app (goodIn_of _ (by decide +kernel)) ggX6_firm_X5_countApart
theorem dX6_firm_0 : decode cX6_firm 0 = .ok (.aload_n 0, 1) := by decide +kernel
theorem dX6_firm_1 : decode cX6_firm 1 = .ok (.getfield 19, 3) := by decide +kernel
theorem dX6_firm_4 : decode cX6_firm 4 = .ok (.getfield 94, 3) := by decide +kernel
theorem dX6_firm_7 : decode cX6_firm 7 = .ok (.iload_n 1, 1) := by decide +kernel
theorem dX6_firm_8 : decode cX6_firm 8 = .ok (.invokevirtual 124, 3) := by decide +kernel
theorem dX6_firm_11 : decode cX6_firm 11 = .ok (.ifCond .eq 17, 3) := by decide +kernel
theorem dX6_firm_14 : decode cX6_firm 14 = .ok (.aload_n 0, 1) := by decide +kernel
theorem dX6_firm_15 : decode cX6_firm 15 = .ok (.getfield 19, 3) := by decide +kernel
theorem dX6_firm_18 : decode cX6_firm 18 = .ok (.getfield 94, 3) := by decide +kernel
theorem dX6_firm_21 : decode cX6_firm 21 = .ok (.iload_n 2, 1) := by decide +kernel
theorem dX6_firm_22 : decode cX6_firm 22 = .ok (.invokevirtual 124, 3) := by decide +kernel
theorem dX6_firm_25 : decode cX6_firm 25 = .ok (.ifCond .ne 13, 3) := by decide +kernel
theorem dX6_firm_28 : decode cX6_firm 28 = .ok (.new 75, 3) := by decide +kernel
theorem dX6_firm_31 : decode cX6_firm 31 = .ok (.dup, 1) := by decide +kernel
theorem dX6_firm_32 : decode cX6_firm 32 = .ok (.ldc 127, 2) := by decide +kernel
theorem dX6_firm_34 : decode cX6_firm 34 = .ok (.invokespecial 79, 3) := by decide +kernel
theorem dX6_firm_37 : decode cX6_firm 37 = .ok (.athrow, 1) := by decide +kernel
theorem dX6_firm_38 : decode cX6_firm 38 = .ok (.iload_n 1, 1) := by decide +kernel
theorem dX6_firm_39 : decode cX6_firm 39 = .ok (.iload_n 2, 1) := by decide +kernel
theorem dX6_firm_40 : decode cX6_firm 40 = .ok (.if_icmp .ne 7, 3) := by decide +kernel
theorem dX6_firm_43 : decode cX6_firm 43 = .ok (.iconst (-1), 1) := by decide +kernel
theorem dX6_firm_44 : decode cX6_firm 44 = .ok (.goto 19, 3) := by decide +kernel
theorem dX6_firm_47 : decode cX6_firm 47 = .ok (.aload_n 0, 1) := by decide +kernel
theorem dX6_firm_48 : decode cX6_firm 48 = .ok (.getfield 29, 3) := by decide +kernel
theorem dX6_firm_51 : decode cX6_firm 51 = .ok (.aload_n 0, 1) := by decide +kernel
theorem dX6_firm_52 : decode cX6_firm 52 = .ok (.getfield 19, 3) := by decide +kernel
theorem dX6_firm_55 : decode cX6_firm 55 = .ok (.getfield 136, 3) := by decide +kernel
theorem dX6_firm_58 : decode cX6_firm 58 = .ok (.iload_n 1, 1) := by decide +kernel
theorem dX6_firm_59 : decode cX6_firm 59 = .ok (.iload_n 2, 1) := by decide +kernel
theorem dX6_firm_60 : decode cX6_firm 60 = .ok (.invokevirtual 243, 3) := by decide +kernel
theorem dX6_firm_63 : decode cX6_firm 63 = .ok (.ireturn, 1) := by decide +kernel
set_option maxRecDepth 20000 in
theorem ggX6_hold_X0_has : GoodIn wsX6_hold wsX0_has := goodIn_r _ [11, 12, 56, 57, 58, 59, 60, 61, 62, 63, 64, 65, 66, 67] (by decide +kernel) (by decide +kernel)
set_option maxRecDepth 20000 in
theorem gX6_hold_X0_has : GoodIn wsX6_hold (wsV RX6 124 RX0 yX0_has wsX0_has) := goodIn_app (goodIn_of _ (by decide +kernel)) ggX6_hold_X0_has
set_option maxRecDepth 20000 in
theorem ggX6_hold_X5_strongest : GoodIn wsX6_hold wsX5_strongest := goodIn_r _ [17, 18, 19, 20, 21, 22, 23, 24, 25, 16, 26, 27, 28, 29, 30, 31, 32, 33, 34, 35, 36, 37, 38, 39, 40, 41, 42, 43, 68, 69, 70, 71, 72, 73, 74, 75, 76] (by decide +kernel) (by decide +kernel)
set_option maxRecDepth 20000 in
theorem gX6_hold_X5_strongest : GoodIn wsX6_hold (wsV RX6 247 RX5 yX5_strongest wsX5_strongest) := goodIn_app (goodIn_of _ (by decide +kernel)) ggX6_hold_X5_strongest
theorem dX6_hold_0 : decode cX6_hold 0 = .ok (.aload_n 0, 1) := by decide +kernel
theorem dX6_hold_1 : decode cX6_hold 1 = .ok (.getfield 19, 3) := by decide +kernel
theorem dX6_hold_4 : decode cX6_hold 4 = .ok (.getfield 94, 3) := by decide +kernel
theorem dX6_hold_7 : decode cX6_hold 7 = .ok (.iload_n 1, 1) := by decide +kernel
theorem dX6_hold_8 : decode cX6_hold 8 = .ok (.invokevirtual 124, 3) := by decide +kernel
theorem dX6_hold_11 : decode cX6_hold 11 = .ok (.ifCond .eq 17, 3) := by decide +kernel
theorem dX6_hold_14 : decode cX6_hold 14 = .ok (.aload_n 0, 1) := by decide +kernel
theorem dX6_hold_15 : decode cX6_hold 15 = .ok (.getfield 19, 3) := by decide +kernel
theorem dX6_hold_18 : decode cX6_hold 18 = .ok (.getfield 94, 3) := by decide +kernel
theorem dX6_hold_21 : decode cX6_hold 21 = .ok (.iload_n 2, 1) := by decide +kernel
theorem dX6_hold_22 : decode cX6_hold 22 = .ok (.invokevirtual 124, 3) := by decide +kernel
theorem dX6_hold_25 : decode cX6_hold 25 = .ok (.ifCond .ne 13, 3) := by decide +kernel
theorem dX6_hold_28 : decode cX6_hold 28 = .ok (.new 75, 3) := by decide +kernel
theorem dX6_hold_31 : decode cX6_hold 31 = .ok (.dup, 1) := by decide +kernel
theorem dX6_hold_32 : decode cX6_hold 32 = .ok (.ldc 127, 2) := by decide +kernel
theorem dX6_hold_34 : decode cX6_hold 34 = .ok (.invokespecial 79, 3) := by decide +kernel
theorem dX6_hold_37 : decode cX6_hold 37 = .ok (.athrow, 1) := by decide +kernel
theorem dX6_hold_38 : decode cX6_hold 38 = .ok (.iload_n 1, 1) := by decide +kernel
theorem dX6_hold_39 : decode cX6_hold 39 = .ok (.iload_n 2, 1) := by decide +kernel
theorem dX6_hold_40 : decode cX6_hold 40 = .ok (.if_icmp .ne 7, 3) := by decide +kernel
theorem dX6_hold_43 : decode cX6_hold 43 = .ok (.iconst 0, 1) := by decide +kernel
theorem dX6_hold_44 : decode cX6_hold 44 = .ok (.goto 19, 3) := by decide +kernel
theorem dX6_hold_47 : decode cX6_hold 47 = .ok (.aload_n 0, 1) := by decide +kernel
theorem dX6_hold_48 : decode cX6_hold 48 = .ok (.getfield 29, 3) := by decide +kernel
theorem dX6_hold_51 : decode cX6_hold 51 = .ok (.aload_n 0, 1) := by decide +kernel
theorem dX6_hold_52 : decode cX6_hold 52 = .ok (.getfield 19, 3) := by decide +kernel
theorem dX6_hold_55 : decode cX6_hold 55 = .ok (.getfield 136, 3) := by decide +kernel
theorem dX6_hold_58 : decode cX6_hold 58 = .ok (.iload_n 1, 1) := by decide +kernel
theorem dX6_hold_59 : decode cX6_hold 59 = .ok (.iload_n 2, 1) := by decide +kernel
theorem dX6_hold_60 : decode cX6_hold 60 = .ok (.invokevirtual 247, 3) := by decide +kernel
theorem dX6_hold_63 : decode cX6_hold 63 = .ok (.ireturn, 1) := by decide +kernel
set_option maxRecDepth 20000 in
theorem ggX6_piece_X0_has : GoodIn wsX6_piece wsX0_has := goodIn_r _ [10, 11, 92, 93, 94, 95, 96, 97, 98, 99, 100, 101, 102, 103] (by decide +kernel) (by decide +kernel)
set_option maxRecDepth 20000 in
theorem gX6_piece_X0_has : GoodIn wsX6_piece (wsV RX6 124 RX0 yX0_has wsX0_has) := goodIn_app (goodIn_of _ (by decide +kernel)) ggX6_piece_X0_has
set_option maxRecDepth 20000 in
theorem ggX6_piece_X6_isBelow : GoodIn wsX6_piece wsX6_isBelow := goodIn_r _ [15] (by decide +kernel) (by decide +kernel)
set_option maxRecDepth 20000 in
theorem gX6_piece_X6_isBelow : GoodIn wsX6_piece (va_wsS RX6 72 yX6_isBelow wsX6_isBelow) := goodIn_app (goodIn_of _ (by decide +kernel)) ggX6_piece_X6_isBelow
set_option maxRecDepth 20000 in
theorem ggX6_piece_X6_singleLashings : GoodIn wsX6_piece wsX6_singleLashings := goodIn_r _ [19, 3, 20, 21, 22, 4, 5, 23, 24, 25, 26, 27, 28, 29, 30, 31, 32, 33, 34, 35, 36, 37, 38, 39, 40, 41, 42, 43, 44, 45, 46, 47, 48, 49, 50, 51, 52, 53, 54, 55, 56, 57, 58, 59, 60, 61, 80, 81, 82, 83, 84, 85, 86, 87, 88, 89, 90, 91, 104, 105, 106, 107, 108, 92, 93, 94, 95, 96, 97, 98, 99, 100, 101, 102, 103, 109, 110, 111, 112] (by decide +kernel) (by decide +kernel)
set_option maxRecDepth 20000 in
theorem gX6_piece_X6_singleLashings : GoodIn wsX6_piece (wsV RX6 253 RX6 yX6_singleLashings wsX6_singleLashings) := goodIn_app (goodIn_of _ (by decide +kernel)) ggX6_piece_X6_singleLashings
set_option maxRecDepth 20000 in
theorem ggX6_piece_X6_pieceSum : GoodIn wsX6_piece wsX6_pieceSum := goodIn_r _ [65, 3, 4, 66, 5, 67, 68, 69, 70, 9, 71, 72, 73, 74, 75, 76, 77, 78, 79, 80, 81, 82, 83, 84, 85, 86, 87, 88, 89, 90, 91, 92, 93, 94, 95, 96, 97, 98, 99, 100, 101, 102, 103] (by decide +kernel) (by decide +kernel)
set_option maxRecDepth 20000 in
theorem gX6_piece_X6_pieceSum : GoodIn wsX6_piece (wsV RX6 256 RX6 yX6_pieceSum wsX6_pieceSum) := goodIn_app (goodIn_of _ (by decide +kernel)) ggX6_piece_X6_pieceSum
theorem dX6_piece_0 : decode cX6_piece 0 = .ok (.aload_n 0, 1) := by decide +kernel
theorem dX6_piece_1 : decode cX6_piece 1 = .ok (.getfield 19, 3) := by decide +kernel
theorem dX6_piece_4 : decode cX6_piece 4 = .ok (.getfield 94, 3) := by decide +kernel
theorem dX6_piece_7 : decode cX6_piece 7 = .ok (.iload_n 1, 1) := by decide +kernel
theorem dX6_piece_8 : decode cX6_piece 8 = .ok (.invokevirtual 124, 3) := by decide +kernel
theorem dX6_piece_11 : decode cX6_piece 11 = .ok (.ifCond .eq 11, 3) := by decide +kernel
theorem dX6_piece_14 : decode cX6_piece 14 = .ok (.iload_n 2, 1) := by decide +kernel
theorem dX6_piece_15 : decode cX6_piece 15 = .ok (.iconst 5, 1) := by decide +kernel
theorem dX6_piece_16 : decode cX6_piece 16 = .ok (.invokestatic 72, 3) := by decide +kernel
theorem dX6_piece_19 : decode cX6_piece 19 = .ok (.ifCond .ne 13, 3) := by decide +kernel
theorem dX6_piece_22 : decode cX6_piece 22 = .ok (.new 75, 3) := by decide +kernel
theorem dX6_piece_25 : decode cX6_piece 25 = .ok (.dup, 1) := by decide +kernel
theorem dX6_piece_26 : decode cX6_piece 26 = .ok (.ldc 180, 2) := by decide +kernel
theorem dX6_piece_28 : decode cX6_piece 28 = .ok (.invokespecial 79, 3) := by decide +kernel
theorem dX6_piece_31 : decode cX6_piece 31 = .ok (.athrow, 1) := by decide +kernel
theorem dX6_piece_32 : decode cX6_piece 32 = .ok (.aload_n 0, 1) := by decide +kernel
theorem dX6_piece_33 : decode cX6_piece 33 = .ok (.getfield 19, 3) := by decide +kernel
theorem dX6_piece_36 : decode cX6_piece 36 = .ok (.getfield 94, 3) := by decide +kernel
theorem dX6_piece_39 : decode cX6_piece 39 = .ok (.getfield 250, 3) := by decide +kernel
theorem dX6_piece_42 : decode cX6_piece 42 = .ok (.iload_n 1, 1) := by decide +kernel
theorem dX6_piece_43 : decode cX6_piece 43 = .ok (.iaload, 1) := by decide +kernel
theorem dX6_piece_44 : decode cX6_piece 44 = .ok (.istore_n 3, 1) := by decide +kernel
theorem dX6_piece_45 : decode cX6_piece 45 = .ok (.iload_n 3, 1) := by decide +kernel
theorem dX6_piece_46 : decode cX6_piece 46 = .ok (.ifCond .ge 5, 3) := by decide +kernel
theorem dX6_piece_49 : decode cX6_piece 49 = .ok (.iconst 0, 1) := by decide +kernel
theorem dX6_piece_50 : decode cX6_piece 50 = .ok (.ireturn, 1) := by decide +kernel
theorem dX6_piece_51 : decode cX6_piece 51 = .ok (.iload_n 2, 1) := by decide +kernel
theorem dX6_piece_52 : decode cX6_piece 52 = .ok (.iconst 4, 1) := by decide +kernel
theorem dX6_piece_53 : decode cX6_piece 53 = .ok (.if_icmp .ne 11, 3) := by decide +kernel
theorem dX6_piece_56 : decode cX6_piece 56 = .ok (.aload_n 0, 1) := by decide +kernel
theorem dX6_piece_57 : decode cX6_piece 57 = .ok (.iload_n 3, 1) := by decide +kernel
theorem dX6_piece_58 : decode cX6_piece 58 = .ok (.invokevirtual 253, 3) := by decide +kernel
theorem dX6_piece_61 : decode cX6_piece 61 = .ok (.goto 9, 3) := by decide +kernel
theorem dX6_piece_64 : decode cX6_piece 64 = .ok (.aload_n 0, 1) := by decide +kernel
theorem dX6_piece_65 : decode cX6_piece 65 = .ok (.iload_n 3, 1) := by decide +kernel
theorem dX6_piece_66 : decode cX6_piece 66 = .ok (.iload_n 2, 1) := by decide +kernel
theorem dX6_piece_67 : decode cX6_piece 67 = .ok (.invokevirtual 256, 3) := by decide +kernel
theorem dX6_piece_70 : decode cX6_piece 70 = .ok (.ireturn, 1) := by decide +kernel
set_option maxRecDepth 20000 in
theorem ggX6_foresee_X6_isBelow : GoodIn wsX6_foresee wsX6_isBelow := goodIn_r _ [15] (by decide +kernel) (by decide +kernel)
set_option maxRecDepth 20000 in
theorem gX6_foresee_X6_isBelow : GoodIn wsX6_foresee (va_wsS RX6 72 yX6_isBelow wsX6_isBelow) := goodIn_app (goodIn_of _ (by decide +kernel)) ggX6_foresee_X6_isBelow
set_option maxRecDepth 20000 in
theorem ggX6_foresee_X3_copyFrom : GoodIn wsX6_foresee wsX3_copyFrom := goodIn_r _ [20, 21, 22, 23, 24, 25, 26, 27, 28, 29, 30, 31, 32, 33, 34, 35, 36, 37, 38, 39, 40, 41, 42, 43, 44, 45, 46, 47, 48, 49, 50, 51, 52, 53, 54, 55, 56, 57, 58, 59, 60, 61, 62, 63, 64, 65, 66, 234, 235, 236, 237, 238, 239, 240, 246, 247, 248, 249, 250, 251, 252, 253, 254, 255, 256, 257, 258, 259, 260, 241, 242, 243, 244, 245] (by decide +kernel) (by decide +kernel)
set_option maxRecDepth 20000 in
theorem gX6_foresee_X3_copyFrom : GoodIn wsX6_foresee (wsV RX6 259 RX3 yX3_copyFrom wsX3_copyFrom) := goodIn_app (goodIn_of _ (by decide +kernel)) ggX6_foresee_X3_copyFrom
set_option maxRecDepth 20000 in
theorem ggX6_foresee_X3_passHours : GoodIn wsX6_foresee wsX3_passHours := goodIn_r _ [70, 21, 24, 71, 72, 73, 29, 74, 46, 42, 75, 76, 77, 78, 39, 38, 79, 80, 81, 82, 83, 84, 85, 19, 86, 87, 88, 89, 90, 91, 92, 93, 94, 95, 96, 97, 98, 37, 99, 100, 101, 102, 40, 41, 103, 104, 105, 106, 45, 107, 108, 109, 110, 22, 23, 111, 112, 113, 114, 115, 50, 116, 55, 52, 117, 54, 118, 119, 120, 121, 122, 123, 124, 125, 126, 127, 128, 129, 59, 130, 64, 131, 132, 133, 134, 66, 135, 136, 137, 138, 61, 63, 65, 139, 140, 141, 142, 143, 25, 144, 145, 146, 147, 148, 149, 150, 151, 152, 153, 154, 155, 156, 157, 158, 159, 160, 14, 161, 162, 163, 164, 165, 166, 167, 168, 169, 170, 171, 172, 173, 174, 175, 176, 177, 178, 179, 180, 181, 182, 183, 184, 185, 186, 187, 188, 189, 190, 191, 192, 193, 194, 195, 196, 197, 198, 199, 200, 201, 202, 203, 204, 205, 206, 207, 208, 209, 210, 211, 212, 213, 214, 215, 216, 234, 235, 236, 237, 238, 239, 240, 246, 247, 248, 249, 250, 251, 252, 253, 254, 255, 256, 257, 241, 242, 243, 244, 245, 258, 259, 260, 261, 262, 263, 264, 265, 266, 267] (by decide +kernel) (by decide +kernel)
set_option maxRecDepth 20000 in
theorem gX6_foresee_X3_passHours : GoodIn wsX6_foresee (wsV RX6 234 RX3 yX3_passHours wsX3_passHours) := goodIn_app (goodIn_of _ (by decide +kernel)) ggX6_foresee_X3_passHours
set_option maxRecDepth 20000 in
theorem ggX6_foresee_X0_countOf : GoodIn wsX6_foresee wsX0_countOf := goodIn_r _ [220, 46, 42, 246, 247, 248, 249, 250, 251, 252, 253, 254, 255, 256, 257] (by decide +kernel) (by decide +kernel)
set_option maxRecDepth 20000 in
theorem gX6_foresee_X0_countOf : GoodIn wsX6_foresee (wsV RX6 263 RX0 yX0_countOf wsX0_countOf) := goodIn_app (goodIn_of _ (by decide +kernel)) ggX6_foresee_X0_countOf
set_option maxRecDepth 20000 in
theorem ggX6_foresee_X1_countOf : GoodIn wsX6_foresee wsX1_countOf := goodIn_r _ [224, 55, 54, 258, 259, 260] (by decide +kernel) (by decide +kernel)
set_option maxRecDepth 20000 in
theorem gX6_foresee_X1_countOf : GoodIn wsX6_foresee (wsV RX6 266 RX1 yX1_countOf wsX1_countOf) := goodIn_app (goodIn_of _ (by decide +kernel)) ggX6_foresee_X1_countOf
set_option maxRecDepth 20000 in
theorem ggX6_foresee_X0_pieces : GoodIn wsX6_foresee wsX0_pieces := goodIn_r _ [228, 46, 45, 246, 247, 248, 249, 250, 251, 252, 253, 254, 255, 256, 257] (by decide +kernel) (by decide +kernel)
set_option maxRecDepth 20000 in
theorem gX6_foresee_X0_pieces : GoodIn wsX6_foresee (wsV RX6 267 RX0 yX0_pieces wsX0_pieces) := goodIn_app (goodIn_of _ (by decide +kernel)) ggX6_foresee_X0_pieces
theorem dX6_foresee_0 : decode cX6_foresee 0 = .ok (.iload_n 1, 1) := by decide +kernel
theorem dX6_foresee_1 : decode cX6_foresee 1 = .ok (.iconst 1, 1) := by decide +kernel
theorem dX6_foresee_2 : decode cX6_foresee 2 = .ok (.if_icmp .lt 9, 3) := by decide +kernel
theorem dX6_foresee_5 : decode cX6_foresee 5 = .ok (.iload_n 1, 1) := by decide +kernel
theorem dX6_foresee_6 : decode cX6_foresee 6 = .ok (.bipush 100, 2) := by decide +kernel
theorem dX6_foresee_8 : decode cX6_foresee 8 = .ok (.if_icmp .le 13, 3) := by decide +kernel
theorem dX6_foresee_11 : decode cX6_foresee 11 = .ok (.new 41, 3) := by decide +kernel
theorem dX6_foresee_14 : decode cX6_foresee 14 = .ok (.dup, 1) := by decide +kernel
theorem dX6_foresee_15 : decode cX6_foresee 15 = .ok (.ldc 229, 2) := by decide +kernel
theorem dX6_foresee_17 : decode cX6_foresee 17 = .ok (.invokespecial 45, 3) := by decide +kernel
theorem dX6_foresee_20 : decode cX6_foresee 20 = .ok (.athrow, 1) := by decide +kernel
theorem dX6_foresee_21 : decode cX6_foresee 21 = .ok (.iload_n 2, 1) := by decide +kernel
theorem dX6_foresee_22 : decode cX6_foresee 22 = .ok (.iconst 4, 1) := by decide +kernel
theorem dX6_foresee_23 : decode cX6_foresee 23 = .ok (.invokestatic 72, 3) := by decide +kernel
theorem dX6_foresee_26 : decode cX6_foresee 26 = .ok (.ifCond .ne 13, 3) := by decide +kernel
theorem dX6_foresee_29 : decode cX6_foresee 29 = .ok (.new 75, 3) := by decide +kernel
theorem dX6_foresee_32 : decode cX6_foresee 32 = .ok (.dup, 1) := by decide +kernel
theorem dX6_foresee_33 : decode cX6_foresee 33 = .ok (.ldc 238, 2) := by decide +kernel
theorem dX6_foresee_35 : decode cX6_foresee 35 = .ok (.invokespecial 79, 3) := by decide +kernel
theorem dX6_foresee_38 : decode cX6_foresee 38 = .ok (.athrow, 1) := by decide +kernel
theorem dX6_foresee_39 : decode cX6_foresee 39 = .ok (.aload_n 0, 1) := by decide +kernel
theorem dX6_foresee_40 : decode cX6_foresee 40 = .ok (.getfield 23, 3) := by decide +kernel
theorem dX6_foresee_43 : decode cX6_foresee 43 = .ok (.aload_n 0, 1) := by decide +kernel
theorem dX6_foresee_44 : decode cX6_foresee 44 = .ok (.getfield 19, 3) := by decide +kernel
theorem dX6_foresee_47 : decode cX6_foresee 47 = .ok (.invokevirtual 259, 3) := by decide +kernel
theorem dX6_foresee_50 : decode cX6_foresee 50 = .ok (.aload_n 0, 1) := by decide +kernel
theorem dX6_foresee_51 : decode cX6_foresee 51 = .ok (.getfield 23, 3) := by decide +kernel
theorem dX6_foresee_54 : decode cX6_foresee 54 = .ok (.iload_n 1, 1) := by decide +kernel
theorem dX6_foresee_55 : decode cX6_foresee 55 = .ok (.aload_n 0, 1) := by decide +kernel
theorem dX6_foresee_56 : decode cX6_foresee 56 = .ok (.getfield 12, 3) := by decide +kernel
theorem dX6_foresee_59 : decode cX6_foresee 59 = .ok (.invokevirtual 234, 3) := by decide +kernel
theorem dX6_foresee_62 : decode cX6_foresee 62 = .ok (.iload_n 2, 1) := by decide +kernel
theorem dX6_foresee_63 : decode cX6_foresee 63 = .ok (.tableswitch 60 0 2 #[25, 37, 49], 25) := by decide +kernel
theorem dX6_foresee_88 : decode cX6_foresee 88 = .ok (.aload_n 0, 1) := by decide +kernel
theorem dX6_foresee_89 : decode cX6_foresee 89 = .ok (.getfield 23, 3) := by decide +kernel
theorem dX6_foresee_92 : decode cX6_foresee 92 = .ok (.getfield 94, 3) := by decide +kernel
theorem dX6_foresee_95 : decode cX6_foresee 95 = .ok (.iconst 0, 1) := by decide +kernel
theorem dX6_foresee_96 : decode cX6_foresee 96 = .ok (.invokevirtual 263, 3) := by decide +kernel
theorem dX6_foresee_99 : decode cX6_foresee 99 = .ok (.ireturn, 1) := by decide +kernel
theorem dX6_foresee_100 : decode cX6_foresee 100 = .ok (.aload_n 0, 1) := by decide +kernel
theorem dX6_foresee_101 : decode cX6_foresee 101 = .ok (.getfield 23, 3) := by decide +kernel
theorem dX6_foresee_104 : decode cX6_foresee 104 = .ok (.getfield 195, 3) := by decide +kernel
theorem dX6_foresee_107 : decode cX6_foresee 107 = .ok (.iconst 2, 1) := by decide +kernel
theorem dX6_foresee_108 : decode cX6_foresee 108 = .ok (.invokevirtual 266, 3) := by decide +kernel
theorem dX6_foresee_111 : decode cX6_foresee 111 = .ok (.ireturn, 1) := by decide +kernel
theorem dX6_foresee_112 : decode cX6_foresee 112 = .ok (.aload_n 0, 1) := by decide +kernel
theorem dX6_foresee_113 : decode cX6_foresee 113 = .ok (.getfield 23, 3) := by decide +kernel
theorem dX6_foresee_116 : decode cX6_foresee 116 = .ok (.getfield 94, 3) := by decide +kernel
theorem dX6_foresee_119 : decode cX6_foresee 119 = .ok (.invokevirtual 267, 3) := by decide +kernel
theorem dX6_foresee_122 : decode cX6_foresee 122 = .ok (.ireturn, 1) := by decide +kernel
theorem dX6_foresee_123 : decode cX6_foresee 123 = .ok (.aload_n 0, 1) := by decide +kernel
theorem dX6_foresee_124 : decode cX6_foresee 124 = .ok (.getfield 23, 3) := by decide +kernel
theorem dX6_foresee_127 : decode cX6_foresee 127 = .ok (.getfield 136, 3) := by decide +kernel
theorem dX6_foresee_130 : decode cX6_foresee 130 = .ok (.getfield 271, 3) := by decide +kernel
theorem dX6_foresee_133 : decode cX6_foresee 133 = .ok (.ireturn, 1) := by decide +kernel
theorem dX6_isBelow_0 : decode cX6_isBelow 0 = .ok (.iload_n 0, 1) := by decide +kernel
theorem dX6_isBelow_1 : decode cX6_isBelow 1 = .ok (.ifCond .lt 12, 3) := by decide +kernel
theorem dX6_isBelow_4 : decode cX6_isBelow 4 = .ok (.iload_n 0, 1) := by decide +kernel
theorem dX6_isBelow_5 : decode cX6_isBelow 5 = .ok (.iload_n 1, 1) := by decide +kernel
theorem dX6_isBelow_6 : decode cX6_isBelow 6 = .ok (.if_icmp .ge 7, 3) := by decide +kernel
theorem dX6_isBelow_9 : decode cX6_isBelow 9 = .ok (.iconst 1, 1) := by decide +kernel
theorem dX6_isBelow_10 : decode cX6_isBelow 10 = .ok (.goto 4, 3) := by decide +kernel
theorem dX6_isBelow_13 : decode cX6_isBelow 13 = .ok (.iconst 0, 1) := by decide +kernel
theorem dX6_isBelow_14 : decode cX6_isBelow 14 = .ok (.ireturn, 1) := by decide +kernel
theorem dX6_isSea_0 : decode cX6_isSea 0 = .ok (.iload_n 0, 1) := by decide +kernel
theorem dX6_isSea_1 : decode cX6_isSea 1 = .ok (.ifCond .lt 23, 3) := by decide +kernel
theorem dX6_isSea_4 : decode cX6_isSea 4 = .ok (.iload_n 0, 1) := by decide +kernel
theorem dX6_isSea_5 : decode cX6_isSea 5 = .ok (.bipush 30, 2) := by decide +kernel
theorem dX6_isSea_7 : decode cX6_isSea 7 = .ok (.if_icmp .ge 17, 3) := by decide +kernel
theorem dX6_isSea_10 : decode cX6_isSea 10 = .ok (.iload_n 1, 1) := by decide +kernel
theorem dX6_isSea_11 : decode cX6_isSea 11 = .ok (.ifCond .lt 13, 3) := by decide +kernel
theorem dX6_isSea_14 : decode cX6_isSea 14 = .ok (.iload_n 1, 1) := by decide +kernel
theorem dX6_isSea_15 : decode cX6_isSea 15 = .ok (.bipush 20, 2) := by decide +kernel
theorem dX6_isSea_17 : decode cX6_isSea 17 = .ok (.if_icmp .ge 7, 3) := by decide +kernel
theorem dX6_isSea_20 : decode cX6_isSea 20 = .ok (.iconst 1, 1) := by decide +kernel
theorem dX6_isSea_21 : decode cX6_isSea 21 = .ok (.goto 4, 3) := by decide +kernel
theorem dX6_isSea_24 : decode cX6_isSea 24 = .ok (.iconst 0, 1) := by decide +kernel
theorem dX6_isSea_25 : decode cX6_isSea 25 = .ok (.ireturn, 1) := by decide +kernel
theorem dX6_isFlow_0 : decode cX6_isFlow 0 = .ok (.iload_n 0, 1) := by decide +kernel
theorem dX6_isFlow_1 : decode cX6_isFlow 1 = .ok (.bipush (-2), 2) := by decide +kernel
theorem dX6_isFlow_3 : decode cX6_isFlow 3 = .ok (.if_icmp .lt 12, 3) := by decide +kernel
theorem dX6_isFlow_6 : decode cX6_isFlow 6 = .ok (.iload_n 0, 1) := by decide +kernel
theorem dX6_isFlow_7 : decode cX6_isFlow 7 = .ok (.iconst 2, 1) := by decide +kernel
theorem dX6_isFlow_8 : decode cX6_isFlow 8 = .ok (.if_icmp .gt 7, 3) := by decide +kernel
theorem dX6_isFlow_11 : decode cX6_isFlow 11 = .ok (.iconst 1, 1) := by decide +kernel
theorem dX6_isFlow_12 : decode cX6_isFlow 12 = .ok (.goto 4, 3) := by decide +kernel
theorem dX6_isFlow_15 : decode cX6_isFlow 15 = .ok (.iconst 0, 1) := by decide +kernel
theorem dX6_isFlow_16 : decode cX6_isFlow 16 = .ok (.ireturn, 1) := by decide +kernel
set_option maxRecDepth 20000 in
theorem ggX6_barrelFact_X2_countAt : GoodIn wsX6_barrelFact wsX2_countAt := goodIn_r _ [18, 19, 20, 21, 59, 60, 61, 62, 63] (by decide +kernel) (by decide +kernel)
set_option maxRecDepth 20000 in
theorem gX6_barrelFact_X2_countAt : GoodIn wsX6_barrelFact (wsV RX6 312 RX2 yX2_countAt wsX2_countAt) := goodIn_app (goodIn_of _ (by decide +kernel)) ggX6_barrelFact_X2_countAt
set_option maxRecDepth 20000 in
theorem ggX6_barrelFact_X0_liftNow : GoodIn wsX6_barrelFact wsX0_liftNow := goodIn_r _ [26, 27, 28, 47, 48, 49, 50, 51, 52, 53, 54, 55, 56, 57, 58] (by decide +kernel) (by decide +kernel)
set_option maxRecDepth 20000 in
theorem gX6_barrelFact_X0_liftNow : GoodIn wsX6_barrelFact (wsV RX6 281 RX0 yX0_liftNow wsX0_liftNow) := goodIn_app (goodIn_of _ (by decide +kernel)) ggX6_barrelFact_X0_liftNow
set_option maxRecDepth 20000 in
theorem ggX6_barrelFact_X0_loadOf : GoodIn wsX6_barrelFact wsX0_loadOf := goodIn_r _ [32, 33, 34, 47, 48, 49, 50, 51, 52, 53, 54, 55, 56, 57, 58] (by decide +kernel) (by decide +kernel)
set_option maxRecDepth 20000 in
theorem gX6_barrelFact_X0_loadOf : GoodIn wsX6_barrelFact (wsV RX6 284 RX0 yX0_loadOf wsX0_loadOf) := goodIn_app (goodIn_of _ (by decide +kernel)) ggX6_barrelFact_X0_loadOf
theorem dX6_barrelFact_0 : decode cX6_barrelFact 0 = .ok (.aload_n 0, 1) := by decide +kernel
theorem dX6_barrelFact_1 : decode cX6_barrelFact 1 = .ok (.getfield 19, 3) := by decide +kernel
theorem dX6_barrelFact_4 : decode cX6_barrelFact 4 = .ok (.getfield 94, 3) := by decide +kernel
theorem dX6_barrelFact_7 : decode cX6_barrelFact 7 = .ok (.astore_n 3, 1) := by decide +kernel
theorem dX6_barrelFact_8 : decode cX6_barrelFact 8 = .ok (.iload_n 2, 1) := by decide +kernel
theorem dX6_barrelFact_9 : decode cX6_barrelFact 9 = .ok (.tableswitch 151 0 11 #[63, 70, 77, 84, 91, 98, 105, 112, 119, 126, 133, 145], 63) := by decide +kernel
theorem dX6_barrelFact_72 : decode cX6_barrelFact 72 = .ok (.aload_n 3, 1) := by decide +kernel
theorem dX6_barrelFact_73 : decode cX6_barrelFact 73 = .ok (.getfield 291, 3) := by decide +kernel
theorem dX6_barrelFact_76 : decode cX6_barrelFact 76 = .ok (.iload_n 1, 1) := by decide +kernel
theorem dX6_barrelFact_77 : decode cX6_barrelFact 77 = .ok (.iaload, 1) := by decide +kernel
theorem dX6_barrelFact_78 : decode cX6_barrelFact 78 = .ok (.ireturn, 1) := by decide +kernel
theorem dX6_barrelFact_79 : decode cX6_barrelFact 79 = .ok (.aload_n 3, 1) := by decide +kernel
theorem dX6_barrelFact_80 : decode cX6_barrelFact 80 = .ok (.getfield 294, 3) := by decide +kernel
theorem dX6_barrelFact_83 : decode cX6_barrelFact 83 = .ok (.iload_n 1, 1) := by decide +kernel
theorem dX6_barrelFact_84 : decode cX6_barrelFact 84 = .ok (.iaload, 1) := by decide +kernel
theorem dX6_barrelFact_85 : decode cX6_barrelFact 85 = .ok (.ireturn, 1) := by decide +kernel
theorem dX6_barrelFact_86 : decode cX6_barrelFact 86 = .ok (.aload_n 3, 1) := by decide +kernel
theorem dX6_barrelFact_87 : decode cX6_barrelFact 87 = .ok (.getfield 297, 3) := by decide +kernel
theorem dX6_barrelFact_90 : decode cX6_barrelFact 90 = .ok (.iload_n 1, 1) := by decide +kernel
theorem dX6_barrelFact_91 : decode cX6_barrelFact 91 = .ok (.iaload, 1) := by decide +kernel
theorem dX6_barrelFact_92 : decode cX6_barrelFact 92 = .ok (.ireturn, 1) := by decide +kernel
theorem dX6_barrelFact_93 : decode cX6_barrelFact 93 = .ok (.aload_n 3, 1) := by decide +kernel
theorem dX6_barrelFact_94 : decode cX6_barrelFact 94 = .ok (.getfield 300, 3) := by decide +kernel
theorem dX6_barrelFact_97 : decode cX6_barrelFact 97 = .ok (.iload_n 1, 1) := by decide +kernel
theorem dX6_barrelFact_98 : decode cX6_barrelFact 98 = .ok (.iaload, 1) := by decide +kernel
theorem dX6_barrelFact_99 : decode cX6_barrelFact 99 = .ok (.ireturn, 1) := by decide +kernel
theorem dX6_barrelFact_100 : decode cX6_barrelFact 100 = .ok (.aload_n 3, 1) := by decide +kernel
theorem dX6_barrelFact_101 : decode cX6_barrelFact 101 = .ok (.getfield 221, 3) := by decide +kernel
theorem dX6_barrelFact_104 : decode cX6_barrelFact 104 = .ok (.iload_n 1, 1) := by decide +kernel
theorem dX6_barrelFact_105 : decode cX6_barrelFact 105 = .ok (.iaload, 1) := by decide +kernel
theorem dX6_barrelFact_106 : decode cX6_barrelFact 106 = .ok (.ireturn, 1) := by decide +kernel
theorem dX6_barrelFact_107 : decode cX6_barrelFact 107 = .ok (.aload_n 3, 1) := by decide +kernel
theorem dX6_barrelFact_108 : decode cX6_barrelFact 108 = .ok (.getfield 176, 3) := by decide +kernel
theorem dX6_barrelFact_111 : decode cX6_barrelFact 111 = .ok (.iload_n 1, 1) := by decide +kernel
theorem dX6_barrelFact_112 : decode cX6_barrelFact 112 = .ok (.iaload, 1) := by decide +kernel
theorem dX6_barrelFact_113 : decode cX6_barrelFact 113 = .ok (.ireturn, 1) := by decide +kernel
theorem dX6_barrelFact_114 : decode cX6_barrelFact 114 = .ok (.aload_n 3, 1) := by decide +kernel
theorem dX6_barrelFact_115 : decode cX6_barrelFact 115 = .ok (.getfield 303, 3) := by decide +kernel
theorem dX6_barrelFact_118 : decode cX6_barrelFact 118 = .ok (.iload_n 1, 1) := by decide +kernel
theorem dX6_barrelFact_119 : decode cX6_barrelFact 119 = .ok (.iaload, 1) := by decide +kernel
theorem dX6_barrelFact_120 : decode cX6_barrelFact 120 = .ok (.ireturn, 1) := by decide +kernel
theorem dX6_barrelFact_121 : decode cX6_barrelFact 121 = .ok (.aload_n 3, 1) := by decide +kernel
theorem dX6_barrelFact_122 : decode cX6_barrelFact 122 = .ok (.getfield 250, 3) := by decide +kernel
theorem dX6_barrelFact_125 : decode cX6_barrelFact 125 = .ok (.iload_n 1, 1) := by decide +kernel
theorem dX6_barrelFact_126 : decode cX6_barrelFact 126 = .ok (.iaload, 1) := by decide +kernel
theorem dX6_barrelFact_127 : decode cX6_barrelFact 127 = .ok (.ireturn, 1) := by decide +kernel
theorem dX6_barrelFact_128 : decode cX6_barrelFact 128 = .ok (.aload_n 3, 1) := by decide +kernel
theorem dX6_barrelFact_129 : decode cX6_barrelFact 129 = .ok (.getfield 306, 3) := by decide +kernel
theorem dX6_barrelFact_132 : decode cX6_barrelFact 132 = .ok (.iload_n 1, 1) := by decide +kernel
theorem dX6_barrelFact_133 : decode cX6_barrelFact 133 = .ok (.iaload, 1) := by decide +kernel
theorem dX6_barrelFact_134 : decode cX6_barrelFact 134 = .ok (.ireturn, 1) := by decide +kernel
theorem dX6_barrelFact_135 : decode cX6_barrelFact 135 = .ok (.aload_n 3, 1) := by decide +kernel
theorem dX6_barrelFact_136 : decode cX6_barrelFact 136 = .ok (.getfield 309, 3) := by decide +kernel
theorem dX6_barrelFact_139 : decode cX6_barrelFact 139 = .ok (.iload_n 1, 1) := by decide +kernel
theorem dX6_barrelFact_140 : decode cX6_barrelFact 140 = .ok (.iaload, 1) := by decide +kernel
theorem dX6_barrelFact_141 : decode cX6_barrelFact 141 = .ok (.ireturn, 1) := by decide +kernel
theorem dX6_barrelFact_142 : decode cX6_barrelFact 142 = .ok (.aload_n 0, 1) := by decide +kernel
theorem dX6_barrelFact_143 : decode cX6_barrelFact 143 = .ok (.getfield 19, 3) := by decide +kernel
theorem dX6_barrelFact_146 : decode cX6_barrelFact 146 = .ok (.getfield 136, 3) := by decide +kernel
theorem dX6_barrelFact_149 : decode cX6_barrelFact 149 = .ok (.iload_n 1, 1) := by decide +kernel
theorem dX6_barrelFact_150 : decode cX6_barrelFact 150 = .ok (.invokevirtual 312, 3) := by decide +kernel
theorem dX6_barrelFact_153 : decode cX6_barrelFact 153 = .ok (.ireturn, 1) := by decide +kernel
theorem dX6_barrelFact_154 : decode cX6_barrelFact 154 = .ok (.aload_n 3, 1) := by decide +kernel
theorem dX6_barrelFact_155 : decode cX6_barrelFact 155 = .ok (.iload_n 1, 1) := by decide +kernel
theorem dX6_barrelFact_156 : decode cX6_barrelFact 156 = .ok (.invokevirtual 281, 3) := by decide +kernel
theorem dX6_barrelFact_159 : decode cX6_barrelFact 159 = .ok (.ireturn, 1) := by decide +kernel
theorem dX6_barrelFact_160 : decode cX6_barrelFact 160 = .ok (.aload_n 3, 1) := by decide +kernel
theorem dX6_barrelFact_161 : decode cX6_barrelFact 161 = .ok (.iload_n 1, 1) := by decide +kernel
theorem dX6_barrelFact_162 : decode cX6_barrelFact 162 = .ok (.invokevirtual 284, 3) := by decide +kernel
theorem dX6_barrelFact_165 : decode cX6_barrelFact 165 = .ok (.ireturn, 1) := by decide +kernel
theorem dX6_castawayFact_0 : decode cX6_castawayFact 0 = .ok (.iload_n 2, 1) := by decide +kernel
theorem dX6_castawayFact_1 : decode cX6_castawayFact 1 = .ok (.ifCond .ne 18, 3) := by decide +kernel
theorem dX6_castawayFact_4 : decode cX6_castawayFact 4 = .ok (.aload_n 0, 1) := by decide +kernel
theorem dX6_castawayFact_5 : decode cX6_castawayFact 5 = .ok (.getfield 19, 3) := by decide +kernel
theorem dX6_castawayFact_8 : decode cX6_castawayFact 8 = .ok (.getfield 195, 3) := by decide +kernel
theorem dX6_castawayFact_11 : decode cX6_castawayFact 11 = .ok (.getfield 212, 3) := by decide +kernel
theorem dX6_castawayFact_14 : decode cX6_castawayFact 14 = .ok (.iload_n 1, 1) := by decide +kernel
theorem dX6_castawayFact_15 : decode cX6_castawayFact 15 = .ok (.iaload, 1) := by decide +kernel
theorem dX6_castawayFact_16 : decode cX6_castawayFact 16 = .ok (.goto 15, 3) := by decide +kernel
theorem dX6_castawayFact_19 : decode cX6_castawayFact 19 = .ok (.aload_n 0, 1) := by decide +kernel
theorem dX6_castawayFact_20 : decode cX6_castawayFact 20 = .ok (.getfield 19, 3) := by decide +kernel
theorem dX6_castawayFact_23 : decode cX6_castawayFact 23 = .ok (.getfield 195, 3) := by decide +kernel
theorem dX6_castawayFact_26 : decode cX6_castawayFact 26 = .ok (.getfield 315, 3) := by decide +kernel
theorem dX6_castawayFact_29 : decode cX6_castawayFact 29 = .ok (.iload_n 1, 1) := by decide +kernel
theorem dX6_castawayFact_30 : decode cX6_castawayFact 30 = .ok (.iaload, 1) := by decide +kernel
theorem dX6_castawayFact_31 : decode cX6_castawayFact 31 = .ok (.ireturn, 1) := by decide +kernel
set_option maxRecDepth 20000 in
theorem ggX6_countFact_X0_countOf : GoodIn wsX6_countFact wsX0_countOf := goodIn_r _ [15, 16, 17, 47, 48, 49, 50, 51, 52, 53, 54, 55, 56, 57, 58] (by decide +kernel) (by decide +kernel)
set_option maxRecDepth 20000 in
theorem gX6_countFact_X0_countOf : GoodIn wsX6_countFact (wsV RX6 263 RX0 yX0_countOf wsX0_countOf) := goodIn_app (goodIn_of _ (by decide +kernel)) ggX6_countFact_X0_countOf
set_option maxRecDepth 20000 in
theorem ggX6_countFact_X1_countOf : GoodIn wsX6_countFact wsX1_countOf := goodIn_r _ [22, 23, 24, 59, 60, 61] (by decide +kernel) (by decide +kernel)
set_option maxRecDepth 20000 in
theorem gX6_countFact_X1_countOf : GoodIn wsX6_countFact (wsV RX6 266 RX1 yX1_countOf wsX1_countOf) := goodIn_app (goodIn_of _ (by decide +kernel)) ggX6_countFact_X1_countOf
set_option maxRecDepth 20000 in
theorem ggX6_countFact_X0_pieces : GoodIn wsX6_countFact wsX0_pieces := goodIn_r _ [28, 16, 29, 47, 48, 49, 50, 51, 52, 53, 54, 55, 56, 57, 58] (by decide +kernel) (by decide +kernel)
set_option maxRecDepth 20000 in
theorem gX6_countFact_X0_pieces : GoodIn wsX6_countFact (wsV RX6 267 RX0 yX0_pieces wsX0_pieces) := goodIn_app (goodIn_of _ (by decide +kernel)) ggX6_countFact_X0_pieces
set_option maxRecDepth 20000 in
theorem ggX6_countFact_X0_goodsSaved : GoodIn wsX6_countFact wsX0_goodsSaved := goodIn_r _ [33, 16, 17, 34, 47, 48, 49, 50, 51, 52, 53, 54, 55, 56, 57, 58] (by decide +kernel) (by decide +kernel)
set_option maxRecDepth 20000 in
theorem gX6_countFact_X0_goodsSaved : GoodIn wsX6_countFact (wsV RX6 319 RX0 yX0_goodsSaved wsX0_goodsSaved) := goodIn_app (goodIn_of _ (by decide +kernel)) ggX6_countFact_X0_goodsSaved
theorem dX6_countFact_0 : decode cX6_countFact 0 = .ok (.iload_n 1, 1) := by decide +kernel
theorem dX6_countFact_1 : decode cX6_countFact 1 = .ok (.tableswitch 172 0 10 #[59, 67, 78, 90, 102, 113, 125, 137, 148, 159, 164], 59) := by decide +kernel
theorem dX6_countFact_60 : decode cX6_countFact 60 = .ok (.aload_n 0, 1) := by decide +kernel
theorem dX6_countFact_61 : decode cX6_countFact 61 = .ok (.getfield 19, 3) := by decide +kernel
theorem dX6_countFact_64 : decode cX6_countFact 64 = .ok (.getfield 316, 3) := by decide +kernel
theorem dX6_countFact_67 : decode cX6_countFact 67 = .ok (.ireturn, 1) := by decide +kernel
theorem dX6_countFact_68 : decode cX6_countFact 68 = .ok (.aload_n 0, 1) := by decide +kernel
theorem dX6_countFact_69 : decode cX6_countFact 69 = .ok (.getfield 19, 3) := by decide +kernel
theorem dX6_countFact_72 : decode cX6_countFact 72 = .ok (.getfield 94, 3) := by decide +kernel
theorem dX6_countFact_75 : decode cX6_countFact 75 = .ok (.getfield 118, 3) := by decide +kernel
theorem dX6_countFact_78 : decode cX6_countFact 78 = .ok (.ireturn, 1) := by decide +kernel
theorem dX6_countFact_79 : decode cX6_countFact 79 = .ok (.aload_n 0, 1) := by decide +kernel
theorem dX6_countFact_80 : decode cX6_countFact 80 = .ok (.getfield 19, 3) := by decide +kernel
theorem dX6_countFact_83 : decode cX6_countFact 83 = .ok (.getfield 94, 3) := by decide +kernel
theorem dX6_countFact_86 : decode cX6_countFact 86 = .ok (.iconst 0, 1) := by decide +kernel
theorem dX6_countFact_87 : decode cX6_countFact 87 = .ok (.invokevirtual 263, 3) := by decide +kernel
theorem dX6_countFact_90 : decode cX6_countFact 90 = .ok (.ireturn, 1) := by decide +kernel
theorem dX6_countFact_91 : decode cX6_countFact 91 = .ok (.aload_n 0, 1) := by decide +kernel
theorem dX6_countFact_92 : decode cX6_countFact 92 = .ok (.getfield 19, 3) := by decide +kernel
theorem dX6_countFact_95 : decode cX6_countFact 95 = .ok (.getfield 94, 3) := by decide +kernel
theorem dX6_countFact_98 : decode cX6_countFact 98 = .ok (.iconst 2, 1) := by decide +kernel
theorem dX6_countFact_99 : decode cX6_countFact 99 = .ok (.invokevirtual 263, 3) := by decide +kernel
theorem dX6_countFact_102 : decode cX6_countFact 102 = .ok (.ireturn, 1) := by decide +kernel
theorem dX6_countFact_103 : decode cX6_countFact 103 = .ok (.aload_n 0, 1) := by decide +kernel
theorem dX6_countFact_104 : decode cX6_countFact 104 = .ok (.getfield 19, 3) := by decide +kernel
theorem dX6_countFact_107 : decode cX6_countFact 107 = .ok (.getfield 195, 3) := by decide +kernel
theorem dX6_countFact_110 : decode cX6_countFact 110 = .ok (.getfield 199, 3) := by decide +kernel
theorem dX6_countFact_113 : decode cX6_countFact 113 = .ok (.ireturn, 1) := by decide +kernel
theorem dX6_countFact_114 : decode cX6_countFact 114 = .ok (.aload_n 0, 1) := by decide +kernel
theorem dX6_countFact_115 : decode cX6_countFact 115 = .ok (.getfield 19, 3) := by decide +kernel
theorem dX6_countFact_118 : decode cX6_countFact 118 = .ok (.getfield 195, 3) := by decide +kernel
theorem dX6_countFact_121 : decode cX6_countFact 121 = .ok (.iconst 0, 1) := by decide +kernel
theorem dX6_countFact_122 : decode cX6_countFact 122 = .ok (.invokevirtual 266, 3) := by decide +kernel
theorem dX6_countFact_125 : decode cX6_countFact 125 = .ok (.ireturn, 1) := by decide +kernel
theorem dX6_countFact_126 : decode cX6_countFact 126 = .ok (.aload_n 0, 1) := by decide +kernel
theorem dX6_countFact_127 : decode cX6_countFact 127 = .ok (.getfield 19, 3) := by decide +kernel
theorem dX6_countFact_130 : decode cX6_countFact 130 = .ok (.getfield 195, 3) := by decide +kernel
theorem dX6_countFact_133 : decode cX6_countFact 133 = .ok (.iconst 2, 1) := by decide +kernel
theorem dX6_countFact_134 : decode cX6_countFact 134 = .ok (.invokevirtual 266, 3) := by decide +kernel
theorem dX6_countFact_137 : decode cX6_countFact 137 = .ok (.ireturn, 1) := by decide +kernel
theorem dX6_countFact_138 : decode cX6_countFact 138 = .ok (.aload_n 0, 1) := by decide +kernel
theorem dX6_countFact_139 : decode cX6_countFact 139 = .ok (.getfield 19, 3) := by decide +kernel
theorem dX6_countFact_142 : decode cX6_countFact 142 = .ok (.getfield 136, 3) := by decide +kernel
theorem dX6_countFact_145 : decode cX6_countFact 145 = .ok (.getfield 271, 3) := by decide +kernel
theorem dX6_countFact_148 : decode cX6_countFact 148 = .ok (.ireturn, 1) := by decide +kernel
theorem dX6_countFact_149 : decode cX6_countFact 149 = .ok (.aload_n 0, 1) := by decide +kernel
theorem dX6_countFact_150 : decode cX6_countFact 150 = .ok (.getfield 19, 3) := by decide +kernel
theorem dX6_countFact_153 : decode cX6_countFact 153 = .ok (.getfield 94, 3) := by decide +kernel
theorem dX6_countFact_156 : decode cX6_countFact 156 = .ok (.invokevirtual 267, 3) := by decide +kernel
theorem dX6_countFact_159 : decode cX6_countFact 159 = .ok (.ireturn, 1) := by decide +kernel
theorem dX6_countFact_160 : decode cX6_countFact 160 = .ok (.aload_n 0, 1) := by decide +kernel
theorem dX6_countFact_161 : decode cX6_countFact 161 = .ok (.getfield 33, 3) := by decide +kernel
theorem dX6_countFact_164 : decode cX6_countFact 164 = .ok (.ireturn, 1) := by decide +kernel
theorem dX6_countFact_165 : decode cX6_countFact 165 = .ok (.aload_n 0, 1) := by decide +kernel
theorem dX6_countFact_166 : decode cX6_countFact 166 = .ok (.getfield 19, 3) := by decide +kernel
theorem dX6_countFact_169 : decode cX6_countFact 169 = .ok (.getfield 231, 3) := by decide +kernel
theorem dX6_countFact_172 : decode cX6_countFact 172 = .ok (.ireturn, 1) := by decide +kernel
theorem dX6_countFact_173 : decode cX6_countFact 173 = .ok (.aload_n 0, 1) := by decide +kernel
theorem dX6_countFact_174 : decode cX6_countFact 174 = .ok (.getfield 19, 3) := by decide +kernel
theorem dX6_countFact_177 : decode cX6_countFact 177 = .ok (.getfield 94, 3) := by decide +kernel
theorem dX6_countFact_180 : decode cX6_countFact 180 = .ok (.invokevirtual 319, 3) := by decide +kernel
theorem dX6_countFact_183 : decode cX6_countFact 183 = .ok (.ireturn, 1) := by decide +kernel
set_option maxRecDepth 20000 in
theorem ggX6_pieceSum_X0_liftNow : GoodIn wsX6_pieceSum wsX0_liftNow := goodIn_r _ [10, 11, 12, 31, 32, 33, 34, 35, 36, 37, 38, 39, 40, 41, 42] (by decide +kernel) (by decide +kernel)
set_option maxRecDepth 20000 in
theorem gX6_pieceSum_X0_liftNow : GoodIn wsX6_pieceSum (wsV RX6 281 RX0 yX0_liftNow wsX0_liftNow) := goodIn_app (goodIn_of _ (by decide +kernel)) ggX6_pieceSum_X0_liftNow
set_option maxRecDepth 20000 in
theorem ggX6_pieceSum_X0_loadOf : GoodIn wsX6_pieceSum wsX0_loadOf := goodIn_r _ [16, 17, 18, 31, 32, 33, 34, 35, 36, 37, 38, 39, 40, 41, 42] (by decide +kernel) (by decide +kernel)
set_option maxRecDepth 20000 in
theorem gX6_pieceSum_X0_loadOf : GoodIn wsX6_pieceSum (wsV RX6 284 RX0 yX0_loadOf wsX0_loadOf) := goodIn_app (goodIn_of _ (by decide +kernel)) ggX6_pieceSum_X0_loadOf
theorem dX6_pieceSum_0 : decode cX6_pieceSum 0 = .ok (.aload_n 0, 1) := by decide +kernel
theorem dX6_pieceSum_1 : decode cX6_pieceSum 1 = .ok (.getfield 19, 3) := by decide +kernel
theorem dX6_pieceSum_4 : decode cX6_pieceSum 4 = .ok (.getfield 94, 3) := by decide +kernel
theorem dX6_pieceSum_7 : decode cX6_pieceSum 7 = .ok (.astore_n 3, 1) := by decide +kernel
theorem dX6_pieceSum_8 : decode cX6_pieceSum 8 = .ok (.iconst 0, 1) := by decide +kernel
theorem dX6_pieceSum_9 : decode cX6_pieceSum 9 = .ok (.istore 4, 2) := by decide +kernel
theorem dX6_pieceSum_11 : decode cX6_pieceSum 11 = .ok (.iconst 0, 1) := by decide +kernel
theorem dX6_pieceSum_12 : decode cX6_pieceSum 12 = .ok (.istore 5, 2) := by decide +kernel
theorem dX6_pieceSum_14 : decode cX6_pieceSum 14 = .ok (.iload 5, 2) := by decide +kernel
theorem dX6_pieceSum_16 : decode cX6_pieceSum 16 = .ok (.aload_n 3, 1) := by decide +kernel
theorem dX6_pieceSum_17 : decode cX6_pieceSum 17 = .ok (.getfield 118, 3) := by decide +kernel
theorem dX6_pieceSum_20 : decode cX6_pieceSum 20 = .ok (.if_icmp .ge 92, 3) := by decide +kernel
theorem dX6_pieceSum_23 : decode cX6_pieceSum 23 = .ok (.aload_n 3, 1) := by decide +kernel
theorem dX6_pieceSum_24 : decode cX6_pieceSum 24 = .ok (.getfield 250, 3) := by decide +kernel
theorem dX6_pieceSum_27 : decode cX6_pieceSum 27 = .ok (.iload 5, 2) := by decide +kernel
theorem dX6_pieceSum_29 : decode cX6_pieceSum 29 = .ok (.iaload, 1) := by decide +kernel
theorem dX6_pieceSum_30 : decode cX6_pieceSum 30 = .ok (.iload_n 1, 1) := by decide +kernel
theorem dX6_pieceSum_31 : decode cX6_pieceSum 31 = .ok (.if_icmp .ne 75, 3) := by decide +kernel
theorem dX6_pieceSum_34 : decode cX6_pieceSum 34 = .ok (.iload_n 2, 1) := by decide +kernel
theorem dX6_pieceSum_35 : decode cX6_pieceSum 35 = .ok (.tableswitch 59 0 2 #[25, 31, 45], 25) := by decide +kernel
theorem dX6_pieceSum_60 : decode cX6_pieceSum 60 = .ok (.iinc 4 1, 3) := by decide +kernel
theorem dX6_pieceSum_63 : decode cX6_pieceSum 63 = .ok (.goto 43, 3) := by decide +kernel
theorem dX6_pieceSum_66 : decode cX6_pieceSum 66 = .ok (.iload 4, 2) := by decide +kernel
theorem dX6_pieceSum_68 : decode cX6_pieceSum 68 = .ok (.aload_n 3, 1) := by decide +kernel
theorem dX6_pieceSum_69 : decode cX6_pieceSum 69 = .ok (.iload 5, 2) := by decide +kernel
theorem dX6_pieceSum_71 : decode cX6_pieceSum 71 = .ok (.invokevirtual 281, 3) := by decide +kernel
theorem dX6_pieceSum_74 : decode cX6_pieceSum 74 = .ok (.iadd, 1) := by decide +kernel
theorem dX6_pieceSum_75 : decode cX6_pieceSum 75 = .ok (.istore 4, 2) := by decide +kernel
theorem dX6_pieceSum_77 : decode cX6_pieceSum 77 = .ok (.goto 29, 3) := by decide +kernel
theorem dX6_pieceSum_80 : decode cX6_pieceSum 80 = .ok (.iload 4, 2) := by decide +kernel
theorem dX6_pieceSum_82 : decode cX6_pieceSum 82 = .ok (.aload_n 3, 1) := by decide +kernel
theorem dX6_pieceSum_83 : decode cX6_pieceSum 83 = .ok (.iload 5, 2) := by decide +kernel
theorem dX6_pieceSum_85 : decode cX6_pieceSum 85 = .ok (.invokevirtual 284, 3) := by decide +kernel
theorem dX6_pieceSum_88 : decode cX6_pieceSum 88 = .ok (.iadd, 1) := by decide +kernel
theorem dX6_pieceSum_89 : decode cX6_pieceSum 89 = .ok (.istore 4, 2) := by decide +kernel
theorem dX6_pieceSum_91 : decode cX6_pieceSum 91 = .ok (.goto 15, 3) := by decide +kernel
theorem dX6_pieceSum_94 : decode cX6_pieceSum 94 = .ok (.iload 4, 2) := by decide +kernel
theorem dX6_pieceSum_96 : decode cX6_pieceSum 96 = .ok (.aload_n 3, 1) := by decide +kernel
theorem dX6_pieceSum_97 : decode cX6_pieceSum 97 = .ok (.getfield 204, 3) := by decide +kernel
theorem dX6_pieceSum_100 : decode cX6_pieceSum 100 = .ok (.iload 5, 2) := by decide +kernel
theorem dX6_pieceSum_102 : decode cX6_pieceSum 102 = .ok (.iaload, 1) := by decide +kernel
theorem dX6_pieceSum_103 : decode cX6_pieceSum 103 = .ok (.iadd, 1) := by decide +kernel
theorem dX6_pieceSum_104 : decode cX6_pieceSum 104 = .ok (.istore 4, 2) := by decide +kernel
theorem dX6_pieceSum_106 : decode cX6_pieceSum 106 = .ok (.iinc 5 1, 3) := by decide +kernel
theorem dX6_pieceSum_109 : decode cX6_pieceSum 109 = .ok (.goto (-95), 3) := by decide +kernel
theorem dX6_pieceSum_112 : decode cX6_pieceSum 112 = .ok (.iload 4, 2) := by decide +kernel
theorem dX6_pieceSum_114 : decode cX6_pieceSum 114 = .ok (.ireturn, 1) := by decide +kernel
set_option maxRecDepth 20000 in
theorem ggX6_singleLashings_X5_countApart : GoodIn wsX6_singleLashings wsX5_countApart := goodIn_r _ [13, 14, 15, 16, 17, 18, 19, 20, 21, 22, 12, 23, 24, 25, 26, 27, 28, 29, 30, 31, 32, 33, 34, 35, 36, 37, 38, 39, 40, 41, 42, 43, 44, 45, 75, 76, 77, 78, 58, 59, 60, 61, 62] (by decide +kernel) (by decide +kernel)
set_option maxRecDepth 20000 in
theorem gX6_singleLashings_X5_countApart : GoodIn wsX6_singleLashings (wsV RX6 243 RX5 yX5_countApart wsX5_countApart) := goodIn_app (goodIn_of _ (by decide +kernel)) ggX6_singleLashings_X5_countApart
theorem dX6_singleLashings_0 : decode cX6_singleLashings 0 = .ok (.aload_n 0, 1) := by decide +kernel
theorem dX6_singleLashings_1 : decode cX6_singleLashings 1 = .ok (.getfield 19, 3) := by decide +kernel
theorem dX6_singleLashings_4 : decode cX6_singleLashings 4 = .ok (.getfield 136, 3) := by decide +kernel
theorem dX6_singleLashings_7 : decode cX6_singleLashings 7 = .ok (.astore_n 2, 1) := by decide +kernel
theorem dX6_singleLashings_8 : decode cX6_singleLashings 8 = .ok (.iconst 0, 1) := by decide +kernel
theorem dX6_singleLashings_9 : decode cX6_singleLashings 9 = .ok (.istore_n 3, 1) := by decide +kernel
theorem dX6_singleLashings_10 : decode cX6_singleLashings 10 = .ok (.iconst 0, 1) := by decide +kernel
theorem dX6_singleLashings_11 : decode cX6_singleLashings 11 = .ok (.istore 4, 2) := by decide +kernel
theorem dX6_singleLashings_13 : decode cX6_singleLashings 13 = .ok (.iload 4, 2) := by decide +kernel
theorem dX6_singleLashings_15 : decode cX6_singleLashings 15 = .ok (.aload_n 2, 1) := by decide +kernel
theorem dX6_singleLashings_16 : decode cX6_singleLashings 16 = .ok (.getfield 271, 3) := by decide +kernel
theorem dX6_singleLashings_19 : decode cX6_singleLashings 19 = .ok (.if_icmp .ge 59, 3) := by decide +kernel
theorem dX6_singleLashings_22 : decode cX6_singleLashings 22 = .ok (.aload_n 2, 1) := by decide +kernel
theorem dX6_singleLashings_23 : decode cX6_singleLashings 23 = .ok (.getfield 275, 3) := by decide +kernel
theorem dX6_singleLashings_26 : decode cX6_singleLashings 26 = .ok (.iload 4, 2) := by decide +kernel
theorem dX6_singleLashings_28 : decode cX6_singleLashings 28 = .ok (.iaload, 1) := by decide +kernel
theorem dX6_singleLashings_29 : decode cX6_singleLashings 29 = .ok (.istore 5, 2) := by decide +kernel
theorem dX6_singleLashings_31 : decode cX6_singleLashings 31 = .ok (.aload_n 0, 1) := by decide +kernel
theorem dX6_singleLashings_32 : decode cX6_singleLashings 32 = .ok (.getfield 19, 3) := by decide +kernel
theorem dX6_singleLashings_35 : decode cX6_singleLashings 35 = .ok (.getfield 94, 3) := by decide +kernel
theorem dX6_singleLashings_38 : decode cX6_singleLashings 38 = .ok (.getfield 250, 3) := by decide +kernel
theorem dX6_singleLashings_41 : decode cX6_singleLashings 41 = .ok (.iload 5, 2) := by decide +kernel
theorem dX6_singleLashings_43 : decode cX6_singleLashings 43 = .ok (.iaload, 1) := by decide +kernel
theorem dX6_singleLashings_44 : decode cX6_singleLashings 44 = .ok (.iload_n 1, 1) := by decide +kernel
theorem dX6_singleLashings_45 : decode cX6_singleLashings 45 = .ok (.if_icmp .ne 27, 3) := by decide +kernel
theorem dX6_singleLashings_48 : decode cX6_singleLashings 48 = .ok (.aload_n 0, 1) := by decide +kernel
theorem dX6_singleLashings_49 : decode cX6_singleLashings 49 = .ok (.getfield 29, 3) := by decide +kernel
theorem dX6_singleLashings_52 : decode cX6_singleLashings 52 = .ok (.aload_n 2, 1) := by decide +kernel
theorem dX6_singleLashings_53 : decode cX6_singleLashings 53 = .ok (.iload 5, 2) := by decide +kernel
theorem dX6_singleLashings_55 : decode cX6_singleLashings 55 = .ok (.aload_n 2, 1) := by decide +kernel
theorem dX6_singleLashings_56 : decode cX6_singleLashings 56 = .ok (.getfield 278, 3) := by decide +kernel
theorem dX6_singleLashings_59 : decode cX6_singleLashings 59 = .ok (.iload 4, 2) := by decide +kernel
theorem dX6_singleLashings_61 : decode cX6_singleLashings 61 = .ok (.iaload, 1) := by decide +kernel
theorem dX6_singleLashings_62 : decode cX6_singleLashings 62 = .ok (.invokevirtual 243, 3) := by decide +kernel
theorem dX6_singleLashings_65 : decode cX6_singleLashings 65 = .ok (.iconst 1, 1) := by decide +kernel
theorem dX6_singleLashings_66 : decode cX6_singleLashings 66 = .ok (.if_icmp .ne 6, 3) := by decide +kernel
theorem dX6_singleLashings_69 : decode cX6_singleLashings 69 = .ok (.iinc 3 1, 3) := by decide +kernel
theorem dX6_singleLashings_72 : decode cX6_singleLashings 72 = .ok (.iinc 4 1, 3) := by decide +kernel
theorem dX6_singleLashings_75 : decode cX6_singleLashings 75 = .ok (.goto (-62), 3) := by decide +kernel
theorem dX6_singleLashings_78 : decode cX6_singleLashings 78 = .ok (.iload_n 3, 1) := by decide +kernel
theorem dX6_singleLashings_79 : decode cX6_singleLashings 79 = .ok (.ireturn, 1) := by decide +kernel
theorem dX7_init_0 : decode cX7_init 0 = .ok (.aload_n 0, 1) := by decide +kernel
theorem dX7_init_1 : decode cX7_init 1 = .ok (.invokespecial 1, 3) := by decide +kernel
theorem dX7_init_4 : decode cX7_init 4 = .ok (.aload_n 0, 1) := by decide +kernel
theorem dX7_init_5 : decode cX7_init 5 = .ok (.bipush 10, 2) := by decide +kernel
theorem dX7_init_7 : decode cX7_init 7 = .ok (.putfield 7, 3) := by decide +kernel
theorem dX7_init_10 : decode cX7_init 10 = .ok (.aload_n 0, 1) := by decide +kernel
theorem dX7_init_11 : decode cX7_init 11 = .ok (.iconst 0, 1) := by decide +kernel
theorem dX7_init_12 : decode cX7_init 12 = .ok (.anewarray 13, 3) := by decide +kernel
theorem dX7_init_15 : decode cX7_init 15 = .ok (.putfield 15, 3) := by decide +kernel
theorem dX7_init_18 : decode cX7_init 18 = .ok (.aload_n 0, 1) := by decide +kernel
theorem dX7_init_19 : decode cX7_init 19 = .ok (.iconst 0, 1) := by decide +kernel
theorem dX7_init_20 : decode cX7_init 20 = .ok (.anewarray 13, 3) := by decide +kernel
theorem dX7_init_23 : decode cX7_init 23 = .ok (.putfield 19, 3) := by decide +kernel
theorem dX7_init_26 : decode cX7_init 26 = .ok (.aload_n 0, 1) := by decide +kernel
theorem dX7_init_27 : decode cX7_init 27 = .ok (.iconst 0, 1) := by decide +kernel
theorem dX7_init_28 : decode cX7_init 28 = .ok (.anewarray 13, 3) := by decide +kernel
theorem dX7_init_31 : decode cX7_init 31 = .ok (.putfield 22, 3) := by decide +kernel
theorem dX7_init_34 : decode cX7_init 34 = .ok (.aload_n 0, 1) := by decide +kernel
theorem dX7_init_35 : decode cX7_init 35 = .ok (.iconst 0, 1) := by decide +kernel
theorem dX7_init_36 : decode cX7_init 36 = .ok (.anewarray 13, 3) := by decide +kernel
theorem dX7_init_39 : decode cX7_init 39 = .ok (.putfield 25, 3) := by decide +kernel
theorem dX7_init_42 : decode cX7_init 42 = .ok (.return_, 1) := by decide +kernel
theorem dX7_more_0 : decode cX7_more 0 = .ok (.aload_n 0, 1) := by decide +kernel
theorem dX7_more_1 : decode cX7_more 1 = .ok (.arraylength, 1) := by decide +kernel
theorem dX7_more_2 : decode cX7_more 2 = .ok (.iconst 1, 1) := by decide +kernel
theorem dX7_more_3 : decode cX7_more 3 = .ok (.iadd, 1) := by decide +kernel
theorem dX7_more_4 : decode cX7_more 4 = .ok (.anewarray 13, 3) := by decide +kernel
theorem dX7_more_7 : decode cX7_more 7 = .ok (.astore_n 2, 1) := by decide +kernel
theorem dX7_more_8 : decode cX7_more 8 = .ok (.iconst 0, 1) := by decide +kernel
theorem dX7_more_9 : decode cX7_more 9 = .ok (.istore_n 3, 1) := by decide +kernel
theorem dX7_more_10 : decode cX7_more 10 = .ok (.iload_n 3, 1) := by decide +kernel
theorem dX7_more_11 : decode cX7_more 11 = .ok (.aload_n 0, 1) := by decide +kernel
theorem dX7_more_12 : decode cX7_more 12 = .ok (.arraylength, 1) := by decide +kernel
theorem dX7_more_13 : decode cX7_more 13 = .ok (.if_icmp .ge 15, 3) := by decide +kernel
theorem dX7_more_16 : decode cX7_more 16 = .ok (.aload_n 2, 1) := by decide +kernel
theorem dX7_more_17 : decode cX7_more 17 = .ok (.iload_n 3, 1) := by decide +kernel
theorem dX7_more_18 : decode cX7_more 18 = .ok (.aload_n 0, 1) := by decide +kernel
theorem dX7_more_19 : decode cX7_more 19 = .ok (.iload_n 3, 1) := by decide +kernel
theorem dX7_more_20 : decode cX7_more 20 = .ok (.aaload, 1) := by decide +kernel
theorem dX7_more_21 : decode cX7_more 21 = .ok (.aastore, 1) := by decide +kernel
theorem dX7_more_22 : decode cX7_more 22 = .ok (.iinc 3 1, 3) := by decide +kernel
theorem dX7_more_25 : decode cX7_more 25 = .ok (.goto (-15), 3) := by decide +kernel
theorem dX7_more_28 : decode cX7_more 28 = .ok (.aload_n 2, 1) := by decide +kernel
theorem dX7_more_29 : decode cX7_more 29 = .ok (.aload_n 0, 1) := by decide +kernel
theorem dX7_more_30 : decode cX7_more 30 = .ok (.arraylength, 1) := by decide +kernel
theorem dX7_more_31 : decode cX7_more 31 = .ok (.aload_n 1, 1) := by decide +kernel
theorem dX7_more_32 : decode cX7_more 32 = .ok (.aastore, 1) := by decide +kernel
theorem dX7_more_33 : decode cX7_more 33 = .ok (.aload_n 2, 1) := by decide +kernel
theorem dX7_more_34 : decode cX7_more 34 = .ok (.areturn, 1) := by decide +kernel
theorem dX7_tie_0 : decode cX7_tie 0 = .ok (.aload_n 0, 1) := by decide +kernel
theorem dX7_tie_1 : decode cX7_tie 1 = .ok (.getfield 22, 3) := by decide +kernel
theorem dX7_tie_4 : decode cX7_tie 4 = .ok (.astore_n 3, 1) := by decide +kernel
theorem dX7_tie_5 : decode cX7_tie 5 = .ok (.aload_n 3, 1) := by decide +kernel
theorem dX7_tie_6 : decode cX7_tie 6 = .ok (.arraylength, 1) := by decide +kernel
theorem dX7_tie_7 : decode cX7_tie 7 = .ok (.istore 4, 2) := by decide +kernel
theorem dX7_tie_9 : decode cX7_tie 9 = .ok (.iconst 0, 1) := by decide +kernel
theorem dX7_tie_10 : decode cX7_tie 10 = .ok (.istore 5, 2) := by decide +kernel
theorem dX7_tie_12 : decode cX7_tie 12 = .ok (.iload 5, 2) := by decide +kernel
theorem dX7_tie_14 : decode cX7_tie 14 = .ok (.iload 4, 2) := by decide +kernel
theorem dX7_tie_16 : decode cX7_tie 16 = .ok (.if_icmp .ge 42, 3) := by decide +kernel
theorem dX7_tie_19 : decode cX7_tie 19 = .ok (.aload_n 3, 1) := by decide +kernel
theorem dX7_tie_20 : decode cX7_tie 20 = .ok (.iload 5, 2) := by decide +kernel
theorem dX7_tie_22 : decode cX7_tie 22 = .ok (.aaload, 1) := by decide +kernel
theorem dX7_tie_23 : decode cX7_tie 23 = .ok (.astore 6, 2) := by decide +kernel
theorem dX7_tie_25 : decode cX7_tie 25 = .ok (.aload 6, 2) := by decide +kernel
theorem dX7_tie_27 : decode cX7_tie 27 = .ok (.iconst 0, 1) := by decide +kernel
theorem dX7_tie_28 : decode cX7_tie 28 = .ok (.iaload, 1) := by decide +kernel
theorem dX7_tie_29 : decode cX7_tie 29 = .ok (.iload_n 1, 1) := by decide +kernel
theorem dX7_tie_30 : decode cX7_tie 30 = .ok (.iload_n 2, 1) := by decide +kernel
theorem dX7_tie_31 : decode cX7_tie 31 = .ok (.invokestatic 49, 3) := by decide +kernel
theorem dX7_tie_34 : decode cX7_tie 34 = .ok (.if_icmp .ne 18, 3) := by decide +kernel
theorem dX7_tie_37 : decode cX7_tie 37 = .ok (.aload 6, 2) := by decide +kernel
theorem dX7_tie_39 : decode cX7_tie 39 = .ok (.iconst 1, 1) := by decide +kernel
theorem dX7_tie_40 : decode cX7_tie 40 = .ok (.iaload, 1) := by decide +kernel
theorem dX7_tie_41 : decode cX7_tie 41 = .ok (.iload_n 1, 1) := by decide +kernel
theorem dX7_tie_42 : decode cX7_tie 42 = .ok (.iload_n 2, 1) := by decide +kernel
theorem dX7_tie_43 : decode cX7_tie 43 = .ok (.invokestatic 55, 3) := by decide +kernel
theorem dX7_tie_46 : decode cX7_tie 46 = .ok (.if_icmp .ne 6, 3) := by decide +kernel
theorem dX7_tie_49 : decode cX7_tie 49 = .ok (.aload 6, 2) := by decide +kernel
theorem dX7_tie_51 : decode cX7_tie 51 = .ok (.areturn, 1) := by decide +kernel
theorem dX7_tie_52 : decode cX7_tie 52 = .ok (.iinc 5 1, 3) := by decide +kernel
theorem dX7_tie_55 : decode cX7_tie 55 = .ok (.goto (-43), 3) := by decide +kernel
theorem dX7_tie_58 : decode cX7_tie 58 = .ok (.aconst_null, 1) := by decide +kernel
theorem dX7_tie_59 : decode cX7_tie 59 = .ok (.areturn, 1) := by decide +kernel
set_option maxRecDepth 20000 in
theorem ggX7_untie_X7_more : GoodIn wsX7_untie wsX7_more := goodIn_r _ [6, 1] (by decide +kernel) (by decide +kernel)
set_option maxRecDepth 20000 in
theorem gX7_untie_X7_more : GoodIn wsX7_untie (va_wsS RX7 58 yX7_more wsX7_more) := goodIn_app (goodIn_of _ (by decide +kernel)) ggX7_untie_X7_more
theorem dX7_untie_0 : decode cX7_untie 0 = .ok (.iconst 0, 1) := by decide +kernel
theorem dX7_untie_1 : decode cX7_untie 1 = .ok (.anewarray 13, 3) := by decide +kernel
theorem dX7_untie_4 : decode cX7_untie 4 = .ok (.astore_n 2, 1) := by decide +kernel
theorem dX7_untie_5 : decode cX7_untie 5 = .ok (.aload_n 0, 1) := by decide +kernel
theorem dX7_untie_6 : decode cX7_untie 6 = .ok (.getfield 22, 3) := by decide +kernel
theorem dX7_untie_9 : decode cX7_untie 9 = .ok (.astore_n 3, 1) := by decide +kernel
theorem dX7_untie_10 : decode cX7_untie 10 = .ok (.aload_n 3, 1) := by decide +kernel
theorem dX7_untie_11 : decode cX7_untie 11 = .ok (.arraylength, 1) := by decide +kernel
theorem dX7_untie_12 : decode cX7_untie 12 = .ok (.istore 4, 2) := by decide +kernel
theorem dX7_untie_14 : decode cX7_untie 14 = .ok (.iconst 0, 1) := by decide +kernel
theorem dX7_untie_15 : decode cX7_untie 15 = .ok (.istore 5, 2) := by decide +kernel
theorem dX7_untie_17 : decode cX7_untie 17 = .ok (.iload 5, 2) := by decide +kernel
theorem dX7_untie_19 : decode cX7_untie 19 = .ok (.iload 4, 2) := by decide +kernel
theorem dX7_untie_21 : decode cX7_untie 21 = .ok (.if_icmp .ge 28, 3) := by decide +kernel
theorem dX7_untie_24 : decode cX7_untie 24 = .ok (.aload_n 3, 1) := by decide +kernel
theorem dX7_untie_25 : decode cX7_untie 25 = .ok (.iload 5, 2) := by decide +kernel
theorem dX7_untie_27 : decode cX7_untie 27 = .ok (.aaload, 1) := by decide +kernel
theorem dX7_untie_28 : decode cX7_untie 28 = .ok (.astore 6, 2) := by decide +kernel
theorem dX7_untie_30 : decode cX7_untie 30 = .ok (.aload 6, 2) := by decide +kernel
theorem dX7_untie_32 : decode cX7_untie 32 = .ok (.aload_n 1, 1) := by decide +kernel
theorem dX7_untie_33 : decode cX7_untie 33 = .ok (.if_acmp .eq 10, 3) := by decide +kernel
theorem dX7_untie_36 : decode cX7_untie 36 = .ok (.aload_n 2, 1) := by decide +kernel
theorem dX7_untie_37 : decode cX7_untie 37 = .ok (.aload 6, 2) := by decide +kernel
theorem dX7_untie_39 : decode cX7_untie 39 = .ok (.invokestatic 58, 3) := by decide +kernel
theorem dX7_untie_42 : decode cX7_untie 42 = .ok (.astore_n 2, 1) := by decide +kernel
theorem dX7_untie_43 : decode cX7_untie 43 = .ok (.iinc 5 1, 3) := by decide +kernel
theorem dX7_untie_46 : decode cX7_untie 46 = .ok (.goto (-29), 3) := by decide +kernel
theorem dX7_untie_49 : decode cX7_untie 49 = .ok (.aload_n 0, 1) := by decide +kernel
theorem dX7_untie_50 : decode cX7_untie 50 = .ok (.aload_n 2, 1) := by decide +kernel
theorem dX7_untie_51 : decode cX7_untie 51 = .ok (.putfield 22, 3) := by decide +kernel
theorem dX7_untie_54 : decode cX7_untie 54 = .ok (.return_, 1) := by decide +kernel
set_option maxRecDepth 20000 in
theorem ggX7_tie__X7_tie : GoodIn wsX7_tie_ wsX7_tie := goodIn_r _ [15, 9, 1, 2, 3, 4, 5, 6, 7, 23, 24, 25, 26, 27, 28, 29, 30, 31] (by decide +kernel) (by decide +kernel)
set_option maxRecDepth 20000 in
theorem gX7_tie__X7_tie : GoodIn wsX7_tie_ (wsV RX7 62 RX7 yX7_tie wsX7_tie) := goodIn_app (goodIn_of _ (by decide +kernel)) ggX7_tie__X7_tie
set_option maxRecDepth 20000 in
theorem ggX7_tie__X7_untie : GoodIn wsX7_tie_ wsX7_untie := goodIn_r _ [19, 8, 9, 20, 21, 14, 22, 23, 24, 25, 26, 27, 28, 29, 30, 31] (by decide +kernel) (by decide +kernel)
set_option maxRecDepth 20000 in
theorem gX7_tie__X7_untie : GoodIn wsX7_tie_ (wsV RX7 66 RX7 yX7_untie wsX7_untie) := goodIn_app (goodIn_of _ (by decide +kernel)) ggX7_tie__X7_untie
set_option maxRecDepth 20000 in
theorem ggX7_tie__X7_more : GoodIn wsX7_tie_ wsX7_more := goodIn_r _ [22, 8] (by decide +kernel) (by decide +kernel)
set_option maxRecDepth 20000 in
theorem gX7_tie__X7_more : GoodIn wsX7_tie_ (va_wsS RX7 58 yX7_more wsX7_more) := goodIn_app (goodIn_of _ (by decide +kernel)) ggX7_tie__X7_more
theorem dX7_tie__0 : decode cX7_tie_ 0 = .ok (.aload_n 0, 1) := by decide +kernel
theorem dX7_tie__1 : decode cX7_tie_ 1 = .ok (.iload_n 1, 1) := by decide +kernel
theorem dX7_tie__2 : decode cX7_tie_ 2 = .ok (.iload_n 2, 1) := by decide +kernel
theorem dX7_tie__3 : decode cX7_tie_ 3 = .ok (.invokevirtual 62, 3) := by decide +kernel
theorem dX7_tie__6 : decode cX7_tie_ 6 = .ok (.ifnull 13, 3) := by decide +kernel
theorem dX7_tie__9 : decode cX7_tie_ 9 = .ok (.aload_n 0, 1) := by decide +kernel
theorem dX7_tie__10 : decode cX7_tie_ 10 = .ok (.aload_n 0, 1) := by decide +kernel
theorem dX7_tie__11 : decode cX7_tie_ 11 = .ok (.iload_n 1, 1) := by decide +kernel
theorem dX7_tie__12 : decode cX7_tie_ 12 = .ok (.iload_n 2, 1) := by decide +kernel
theorem dX7_tie__13 : decode cX7_tie_ 13 = .ok (.invokevirtual 62, 3) := by decide +kernel
theorem dX7_tie__16 : decode cX7_tie_ 16 = .ok (.invokevirtual 66, 3) := by decide +kernel
theorem dX7_tie__19 : decode cX7_tie_ 19 = .ok (.iload_n 1, 1) := by decide +kernel
theorem dX7_tie__20 : decode cX7_tie_ 20 = .ok (.iload_n 2, 1) := by decide +kernel
theorem dX7_tie__21 : decode cX7_tie_ 21 = .ok (.invokestatic 49, 3) := by decide +kernel
theorem dX7_tie__24 : decode cX7_tie_ 24 = .ok (.istore 4, 2) := by decide +kernel
theorem dX7_tie__26 : decode cX7_tie_ 26 = .ok (.iload_n 1, 1) := by decide +kernel
theorem dX7_tie__27 : decode cX7_tie_ 27 = .ok (.iload_n 2, 1) := by decide +kernel
theorem dX7_tie__28 : decode cX7_tie_ 28 = .ok (.invokestatic 55, 3) := by decide +kernel
theorem dX7_tie__31 : decode cX7_tie_ 31 = .ok (.istore 5, 2) := by decide +kernel
theorem dX7_tie__33 : decode cX7_tie_ 33 = .ok (.iconst 0, 1) := by decide +kernel
theorem dX7_tie__34 : decode cX7_tie_ 34 = .ok (.anewarray 13, 3) := by decide +kernel
theorem dX7_tie__37 : decode cX7_tie_ 37 = .ok (.astore 6, 2) := by decide +kernel
theorem dX7_tie__39 : decode cX7_tie_ 39 = .ok (.iconst 0, 1) := by decide +kernel
theorem dX7_tie__40 : decode cX7_tie_ 40 = .ok (.istore 7, 2) := by decide +kernel
theorem dX7_tie__42 : decode cX7_tie_ 42 = .ok (.aload_n 0, 1) := by decide +kernel
theorem dX7_tie__43 : decode cX7_tie_ 43 = .ok (.getfield 22, 3) := by decide +kernel
theorem dX7_tie__46 : decode cX7_tie_ 46 = .ok (.astore 8, 2) := by decide +kernel
theorem dX7_tie__48 : decode cX7_tie_ 48 = .ok (.aload 8, 2) := by decide +kernel
theorem dX7_tie__50 : decode cX7_tie_ 50 = .ok (.arraylength, 1) := by decide +kernel
theorem dX7_tie__51 : decode cX7_tie_ 51 = .ok (.istore 9, 2) := by decide +kernel
theorem dX7_tie__53 : decode cX7_tie_ 53 = .ok (.iconst 0, 1) := by decide +kernel
theorem dX7_tie__54 : decode cX7_tie_ 54 = .ok (.istore 10, 2) := by decide +kernel
theorem dX7_tie__56 : decode cX7_tie_ 56 = .ok (.iload 10, 2) := by decide +kernel
theorem dX7_tie__58 : decode cX7_tie_ 58 = .ok (.iload 9, 2) := by decide +kernel
theorem dX7_tie__60 : decode cX7_tie_ 60 = .ok (.if_icmp .ge 88, 3) := by decide +kernel
theorem dX7_tie__63 : decode cX7_tie_ 63 = .ok (.aload 8, 2) := by decide +kernel
theorem dX7_tie__65 : decode cX7_tie_ 65 = .ok (.iload 10, 2) := by decide +kernel
theorem dX7_tie__67 : decode cX7_tie_ 67 = .ok (.aaload, 1) := by decide +kernel
theorem dX7_tie__68 : decode cX7_tie_ 68 = .ok (.astore 11, 2) := by decide +kernel
theorem dX7_tie__70 : decode cX7_tie_ 70 = .ok (.iload 7, 2) := by decide +kernel
theorem dX7_tie__72 : decode cX7_tie_ 72 = .ok (.ifCond .ne 61, 3) := by decide +kernel
theorem dX7_tie__75 : decode cX7_tie_ 75 = .ok (.aload 11, 2) := by decide +kernel
theorem dX7_tie__77 : decode cX7_tie_ 77 = .ok (.iconst 0, 1) := by decide +kernel
theorem dX7_tie__78 : decode cX7_tie_ 78 = .ok (.iaload, 1) := by decide +kernel
theorem dX7_tie__79 : decode cX7_tie_ 79 = .ok (.iload 4, 2) := by decide +kernel
theorem dX7_tie__81 : decode cX7_tie_ 81 = .ok (.if_icmp .gt 21, 3) := by decide +kernel
theorem dX7_tie__84 : decode cX7_tie_ 84 = .ok (.aload 11, 2) := by decide +kernel
theorem dX7_tie__86 : decode cX7_tie_ 86 = .ok (.iconst 0, 1) := by decide +kernel
theorem dX7_tie__87 : decode cX7_tie_ 87 = .ok (.iaload, 1) := by decide +kernel
theorem dX7_tie__88 : decode cX7_tie_ 88 = .ok (.iload 4, 2) := by decide +kernel
theorem dX7_tie__90 : decode cX7_tie_ 90 = .ok (.if_icmp .ne 43, 3) := by decide +kernel
theorem dX7_tie__93 : decode cX7_tie_ 93 = .ok (.aload 11, 2) := by decide +kernel
theorem dX7_tie__95 : decode cX7_tie_ 95 = .ok (.iconst 1, 1) := by decide +kernel
theorem dX7_tie__96 : decode cX7_tie_ 96 = .ok (.iaload, 1) := by decide +kernel
theorem dX7_tie__97 : decode cX7_tie_ 97 = .ok (.iload 5, 2) := by decide +kernel
theorem dX7_tie__99 : decode cX7_tie_ 99 = .ok (.if_icmp .le 34, 3) := by decide +kernel
theorem dX7_tie__102 : decode cX7_tie_ 102 = .ok (.aload 6, 2) := by decide +kernel
theorem dX7_tie__104 : decode cX7_tie_ 104 = .ok (.iconst 4, 1) := by decide +kernel
theorem dX7_tie__105 : decode cX7_tie_ 105 = .ok (.newarray .int, 2) := by decide +kernel
theorem dX7_tie__107 : decode cX7_tie_ 107 = .ok (.dup, 1) := by decide +kernel
theorem dX7_tie__108 : decode cX7_tie_ 108 = .ok (.iconst 0, 1) := by decide +kernel
theorem dX7_tie__109 : decode cX7_tie_ 109 = .ok (.iload 4, 2) := by decide +kernel
theorem dX7_tie__111 : decode cX7_tie_ 111 = .ok (.iastore, 1) := by decide +kernel
theorem dX7_tie__112 : decode cX7_tie_ 112 = .ok (.dup, 1) := by decide +kernel
theorem dX7_tie__113 : decode cX7_tie_ 113 = .ok (.iconst 1, 1) := by decide +kernel
theorem dX7_tie__114 : decode cX7_tie_ 114 = .ok (.iload 5, 2) := by decide +kernel
theorem dX7_tie__116 : decode cX7_tie_ 116 = .ok (.iastore, 1) := by decide +kernel
theorem dX7_tie__117 : decode cX7_tie_ 117 = .ok (.dup, 1) := by decide +kernel
theorem dX7_tie__118 : decode cX7_tie_ 118 = .ok (.iconst 2, 1) := by decide +kernel
theorem dX7_tie__119 : decode cX7_tie_ 119 = .ok (.iload_n 3, 1) := by decide +kernel
theorem dX7_tie__120 : decode cX7_tie_ 120 = .ok (.iastore, 1) := by decide +kernel
theorem dX7_tie__121 : decode cX7_tie_ 121 = .ok (.dup, 1) := by decide +kernel
theorem dX7_tie__122 : decode cX7_tie_ 122 = .ok (.iconst 3, 1) := by decide +kernel
theorem dX7_tie__123 : decode cX7_tie_ 123 = .ok (.iconst 0, 1) := by decide +kernel
theorem dX7_tie__124 : decode cX7_tie_ 124 = .ok (.iastore, 1) := by decide +kernel
theorem dX7_tie__125 : decode cX7_tie_ 125 = .ok (.invokestatic 58, 3) := by decide +kernel
theorem dX7_tie__128 : decode cX7_tie_ 128 = .ok (.astore 6, 2) := by decide +kernel
theorem dX7_tie__130 : decode cX7_tie_ 130 = .ok (.iconst 1, 1) := by decide +kernel
theorem dX7_tie__131 : decode cX7_tie_ 131 = .ok (.istore 7, 2) := by decide +kernel
theorem dX7_tie__133 : decode cX7_tie_ 133 = .ok (.aload 6, 2) := by decide +kernel
theorem dX7_tie__135 : decode cX7_tie_ 135 = .ok (.aload 11, 2) := by decide +kernel
theorem dX7_tie__137 : decode cX7_tie_ 137 = .ok (.invokestatic 58, 3) := by decide +kernel
theorem dX7_tie__140 : decode cX7_tie_ 140 = .ok (.astore 6, 2) := by decide +kernel
theorem dX7_tie__142 : decode cX7_tie_ 142 = .ok (.iinc 10 1, 3) := by decide +kernel
theorem dX7_tie__145 : decode cX7_tie_ 145 = .ok (.goto (-89), 3) := by decide +kernel
theorem dX7_tie__148 : decode cX7_tie_ 148 = .ok (.aload_n 0, 1) := by decide +kernel
theorem dX7_tie__149 : decode cX7_tie_ 149 = .ok (.iload 7, 2) := by decide +kernel
theorem dX7_tie__151 : decode cX7_tie_ 151 = .ok (.ifCond .eq 8, 3) := by decide +kernel
theorem dX7_tie__154 : decode cX7_tie_ 154 = .ok (.aload 6, 2) := by decide +kernel
theorem dX7_tie__156 : decode cX7_tie_ 156 = .ok (.goto 29, 3) := by decide +kernel
theorem dX7_tie__159 : decode cX7_tie_ 159 = .ok (.aload 6, 2) := by decide +kernel
theorem dX7_tie__161 : decode cX7_tie_ 161 = .ok (.iconst 4, 1) := by decide +kernel
theorem dX7_tie__162 : decode cX7_tie_ 162 = .ok (.newarray .int, 2) := by decide +kernel
theorem dX7_tie__164 : decode cX7_tie_ 164 = .ok (.dup, 1) := by decide +kernel
theorem dX7_tie__165 : decode cX7_tie_ 165 = .ok (.iconst 0, 1) := by decide +kernel
theorem dX7_tie__166 : decode cX7_tie_ 166 = .ok (.iload 4, 2) := by decide +kernel
theorem dX7_tie__168 : decode cX7_tie_ 168 = .ok (.iastore, 1) := by decide +kernel
theorem dX7_tie__169 : decode cX7_tie_ 169 = .ok (.dup, 1) := by decide +kernel
theorem dX7_tie__170 : decode cX7_tie_ 170 = .ok (.iconst 1, 1) := by decide +kernel
theorem dX7_tie__171 : decode cX7_tie_ 171 = .ok (.iload 5, 2) := by decide +kernel
theorem dX7_tie__173 : decode cX7_tie_ 173 = .ok (.iastore, 1) := by decide +kernel
theorem dX7_tie__174 : decode cX7_tie_ 174 = .ok (.dup, 1) := by decide +kernel
theorem dX7_tie__175 : decode cX7_tie_ 175 = .ok (.iconst 2, 1) := by decide +kernel
theorem dX7_tie__176 : decode cX7_tie_ 176 = .ok (.iload_n 3, 1) := by decide +kernel
theorem dX7_tie__177 : decode cX7_tie_ 177 = .ok (.iastore, 1) := by decide +kernel
theorem dX7_tie__178 : decode cX7_tie_ 178 = .ok (.dup, 1) := by decide +kernel
theorem dX7_tie__179 : decode cX7_tie_ 179 = .ok (.iconst 3, 1) := by decide +kernel
theorem dX7_tie__180 : decode cX7_tie_ 180 = .ok (.iconst 0, 1) := by decide +kernel
theorem dX7_tie__181 : decode cX7_tie_ 181 = .ok (.iastore, 1) := by decide +kernel
theorem dX7_tie__182 : decode cX7_tie_ 182 = .ok (.invokestatic 58, 3) := by decide +kernel
theorem dX7_tie__185 : decode cX7_tie_ 185 = .ok (.putfield 22, 3) := by decide +kernel
theorem dX7_tie__188 : decode cX7_tie_ 188 = .ok (.return_, 1) := by decide +kernel
theorem dX7_sea_0 : decode cX7_sea 0 = .ok (.iconst 4, 1) := by decide +kernel
theorem dX7_sea_1 : decode cX7_sea 1 = .ok (.newarray .int, 2) := by decide +kernel
theorem dX7_sea_3 : decode cX7_sea 3 = .ok (.dup, 1) := by decide +kernel
theorem dX7_sea_4 : decode cX7_sea 4 = .ok (.iconst 0, 1) := by decide +kernel
theorem dX7_sea_5 : decode cX7_sea 5 = .ok (.iconst 0, 1) := by decide +kernel
theorem dX7_sea_6 : decode cX7_sea 6 = .ok (.iastore, 1) := by decide +kernel
theorem dX7_sea_7 : decode cX7_sea 7 = .ok (.dup, 1) := by decide +kernel
theorem dX7_sea_8 : decode cX7_sea 8 = .ok (.iconst 1, 1) := by decide +kernel
theorem dX7_sea_9 : decode cX7_sea 9 = .ok (.iconst 0, 1) := by decide +kernel
theorem dX7_sea_10 : decode cX7_sea 10 = .ok (.iastore, 1) := by decide +kernel
theorem dX7_sea_11 : decode cX7_sea 11 = .ok (.dup, 1) := by decide +kernel
theorem dX7_sea_12 : decode cX7_sea 12 = .ok (.iconst 2, 1) := by decide +kernel
theorem dX7_sea_13 : decode cX7_sea 13 = .ok (.iconst 0, 1) := by decide +kernel
theorem dX7_sea_14 : decode cX7_sea 14 = .ok (.iastore, 1) := by decide +kernel
theorem dX7_sea_15 : decode cX7_sea 15 = .ok (.dup, 1) := by decide +kernel
theorem dX7_sea_16 : decode cX7_sea 16 = .ok (.iconst 3, 1) := by decide +kernel
theorem dX7_sea_17 : decode cX7_sea 17 = .ok (.iconst (-1), 1) := by decide +kernel
theorem dX7_sea_18 : decode cX7_sea 18 = .ok (.iastore, 1) := by decide +kernel
theorem dX7_sea_19 : decode cX7_sea 19 = .ok (.astore_n 3, 1) := by decide +kernel
theorem dX7_sea_20 : decode cX7_sea 20 = .ok (.iconst 0, 1) := by decide +kernel
theorem dX7_sea_21 : decode cX7_sea 21 = .ok (.istore 4, 2) := by decide +kernel
theorem dX7_sea_23 : decode cX7_sea 23 = .ok (.iload 4, 2) := by decide +kernel
theorem dX7_sea_25 : decode cX7_sea 25 = .ok (.aload_n 0, 1) := by decide +kernel
theorem dX7_sea_26 : decode cX7_sea 26 = .ok (.getfield 15, 3) := by decide +kernel
theorem dX7_sea_29 : decode cX7_sea 29 = .ok (.arraylength, 1) := by decide +kernel
theorem dX7_sea_30 : decode cX7_sea 30 = .ok (.if_icmp .ge 91, 3) := by decide +kernel
theorem dX7_sea_33 : decode cX7_sea 33 = .ok (.aload_n 0, 1) := by decide +kernel
theorem dX7_sea_34 : decode cX7_sea 34 = .ok (.getfield 15, 3) := by decide +kernel
theorem dX7_sea_37 : decode cX7_sea 37 = .ok (.iload 4, 2) := by decide +kernel
theorem dX7_sea_39 : decode cX7_sea 39 = .ok (.aaload, 1) := by decide +kernel
theorem dX7_sea_40 : decode cX7_sea 40 = .ok (.astore 5, 2) := by decide +kernel
theorem dX7_sea_42 : decode cX7_sea 42 = .ok (.iload_n 1, 1) := by decide +kernel
theorem dX7_sea_43 : decode cX7_sea 43 = .ok (.aload 5, 2) := by decide +kernel
theorem dX7_sea_45 : decode cX7_sea 45 = .ok (.iconst 0, 1) := by decide +kernel
theorem dX7_sea_46 : decode cX7_sea 46 = .ok (.iaload, 1) := by decide +kernel
theorem dX7_sea_47 : decode cX7_sea 47 = .ok (.if_icmp .lt 68, 3) := by decide +kernel
theorem dX7_sea_50 : decode cX7_sea 50 = .ok (.iload_n 1, 1) := by decide +kernel
theorem dX7_sea_51 : decode cX7_sea 51 = .ok (.aload 5, 2) := by decide +kernel
theorem dX7_sea_53 : decode cX7_sea 53 = .ok (.iconst 0, 1) := by decide +kernel
theorem dX7_sea_54 : decode cX7_sea 54 = .ok (.iaload, 1) := by decide +kernel
theorem dX7_sea_55 : decode cX7_sea 55 = .ok (.aload 5, 2) := by decide +kernel
theorem dX7_sea_57 : decode cX7_sea 57 = .ok (.iconst 2, 1) := by decide +kernel
theorem dX7_sea_58 : decode cX7_sea 58 = .ok (.iaload, 1) := by decide +kernel
theorem dX7_sea_59 : decode cX7_sea 59 = .ok (.iadd, 1) := by decide +kernel
theorem dX7_sea_60 : decode cX7_sea 60 = .ok (.if_icmp .ge 55, 3) := by decide +kernel
theorem dX7_sea_63 : decode cX7_sea 63 = .ok (.iload_n 2, 1) := by decide +kernel
theorem dX7_sea_64 : decode cX7_sea 64 = .ok (.aload 5, 2) := by decide +kernel
theorem dX7_sea_66 : decode cX7_sea 66 = .ok (.iconst 1, 1) := by decide +kernel
theorem dX7_sea_67 : decode cX7_sea 67 = .ok (.iaload, 1) := by decide +kernel
theorem dX7_sea_68 : decode cX7_sea 68 = .ok (.if_icmp .lt 47, 3) := by decide +kernel
theorem dX7_sea_71 : decode cX7_sea 71 = .ok (.iload_n 2, 1) := by decide +kernel
theorem dX7_sea_72 : decode cX7_sea 72 = .ok (.aload 5, 2) := by decide +kernel
theorem dX7_sea_74 : decode cX7_sea 74 = .ok (.iconst 1, 1) := by decide +kernel
theorem dX7_sea_75 : decode cX7_sea 75 = .ok (.iaload, 1) := by decide +kernel
theorem dX7_sea_76 : decode cX7_sea 76 = .ok (.aload 5, 2) := by decide +kernel
theorem dX7_sea_78 : decode cX7_sea 78 = .ok (.iconst 3, 1) := by decide +kernel
theorem dX7_sea_79 : decode cX7_sea 79 = .ok (.iaload, 1) := by decide +kernel
theorem dX7_sea_80 : decode cX7_sea 80 = .ok (.iadd, 1) := by decide +kernel
theorem dX7_sea_81 : decode cX7_sea 81 = .ok (.if_icmp .ge 34, 3) := by decide +kernel
theorem dX7_sea_84 : decode cX7_sea 84 = .ok (.iconst 4, 1) := by decide +kernel
theorem dX7_sea_85 : decode cX7_sea 85 = .ok (.newarray .int, 2) := by decide +kernel
theorem dX7_sea_87 : decode cX7_sea 87 = .ok (.dup, 1) := by decide +kernel
theorem dX7_sea_88 : decode cX7_sea 88 = .ok (.iconst 0, 1) := by decide +kernel
theorem dX7_sea_89 : decode cX7_sea 89 = .ok (.aload 5, 2) := by decide +kernel
theorem dX7_sea_91 : decode cX7_sea 91 = .ok (.iconst 4, 1) := by decide +kernel
theorem dX7_sea_92 : decode cX7_sea 92 = .ok (.iaload, 1) := by decide +kernel
theorem dX7_sea_93 : decode cX7_sea 93 = .ok (.iastore, 1) := by decide +kernel
theorem dX7_sea_94 : decode cX7_sea 94 = .ok (.dup, 1) := by decide +kernel
theorem dX7_sea_95 : decode cX7_sea 95 = .ok (.iconst 1, 1) := by decide +kernel
theorem dX7_sea_96 : decode cX7_sea 96 = .ok (.aload 5, 2) := by decide +kernel
theorem dX7_sea_98 : decode cX7_sea 98 = .ok (.iconst 5, 1) := by decide +kernel
theorem dX7_sea_99 : decode cX7_sea 99 = .ok (.iaload, 1) := by decide +kernel
theorem dX7_sea_100 : decode cX7_sea 100 = .ok (.iastore, 1) := by decide +kernel
theorem dX7_sea_101 : decode cX7_sea 101 = .ok (.dup, 1) := by decide +kernel
theorem dX7_sea_102 : decode cX7_sea 102 = .ok (.iconst 2, 1) := by decide +kernel
theorem dX7_sea_103 : decode cX7_sea 103 = .ok (.aload 5, 2) := by decide +kernel
theorem dX7_sea_105 : decode cX7_sea 105 = .ok (.bipush 6, 2) := by decide +kernel
theorem dX7_sea_107 : decode cX7_sea 107 = .ok (.iaload, 1) := by decide +kernel
theorem dX7_sea_108 : decode cX7_sea 108 = .ok (.iastore, 1) := by decide +kernel
theorem dX7_sea_109 : decode cX7_sea 109 = .ok (.dup, 1) := by decide +kernel
theorem dX7_sea_110 : decode cX7_sea 110 = .ok (.iconst 3, 1) := by decide +kernel
theorem dX7_sea_111 : decode cX7_sea 111 = .ok (.iload 4, 2) := by decide +kernel
theorem dX7_sea_113 : decode cX7_sea 113 = .ok (.iastore, 1) := by decide +kernel
theorem dX7_sea_114 : decode cX7_sea 114 = .ok (.astore_n 3, 1) := by decide +kernel
theorem dX7_sea_115 : decode cX7_sea 115 = .ok (.iinc 4 1, 3) := by decide +kernel
theorem dX7_sea_118 : decode cX7_sea 118 = .ok (.goto (-95), 3) := by decide +kernel
theorem dX7_sea_121 : decode cX7_sea 121 = .ok (.aload_n 3, 1) := by decide +kernel
theorem dX7_sea_122 : decode cX7_sea 122 = .ok (.areturn, 1) := by decide +kernel
theorem dX7_load_0 : decode cX7_load 0 = .ok (.aload_n 0, 1) := by decide +kernel
theorem dX7_load_1 : decode cX7_load 1 = .ok (.getfield 19, 3) := by decide +kernel
theorem dX7_load_4 : decode cX7_load 4 = .ok (.iload_n 1, 1) := by decide +kernel
theorem dX7_load_5 : decode cX7_load 5 = .ok (.aaload, 1) := by decide +kernel
theorem dX7_load_6 : decode cX7_load 6 = .ok (.iconst 5, 1) := by decide +kernel
theorem dX7_load_7 : decode cX7_load 7 = .ok (.iaload, 1) := by decide +kernel
theorem dX7_load_8 : decode cX7_load 8 = .ok (.istore_n 2, 1) := by decide +kernel
theorem dX7_load_9 : decode cX7_load 9 = .ok (.aload_n 0, 1) := by decide +kernel
theorem dX7_load_10 : decode cX7_load 10 = .ok (.getfield 25, 3) := by decide +kernel
theorem dX7_load_13 : decode cX7_load 13 = .ok (.astore_n 3, 1) := by decide +kernel
theorem dX7_load_14 : decode cX7_load 14 = .ok (.aload_n 3, 1) := by decide +kernel
theorem dX7_load_15 : decode cX7_load 15 = .ok (.arraylength, 1) := by decide +kernel
theorem dX7_load_16 : decode cX7_load 16 = .ok (.istore 4, 2) := by decide +kernel
theorem dX7_load_18 : decode cX7_load 18 = .ok (.iconst 0, 1) := by decide +kernel
theorem dX7_load_19 : decode cX7_load 19 = .ok (.istore 5, 2) := by decide +kernel
theorem dX7_load_21 : decode cX7_load 21 = .ok (.iload 5, 2) := by decide +kernel
theorem dX7_load_23 : decode cX7_load 23 = .ok (.iload 4, 2) := by decide +kernel
theorem dX7_load_25 : decode cX7_load 25 = .ok (.if_icmp .ge 32, 3) := by decide +kernel
theorem dX7_load_28 : decode cX7_load 28 = .ok (.aload_n 3, 1) := by decide +kernel
theorem dX7_load_29 : decode cX7_load 29 = .ok (.iload 5, 2) := by decide +kernel
theorem dX7_load_31 : decode cX7_load 31 = .ok (.aaload, 1) := by decide +kernel
theorem dX7_load_32 : decode cX7_load 32 = .ok (.astore 6, 2) := by decide +kernel
theorem dX7_load_34 : decode cX7_load 34 = .ok (.iload_n 2, 1) := by decide +kernel
theorem dX7_load_35 : decode cX7_load 35 = .ok (.aload 6, 2) := by decide +kernel
theorem dX7_load_37 : decode cX7_load 37 = .ok (.iconst 0, 1) := by decide +kernel
theorem dX7_load_38 : decode cX7_load 38 = .ok (.iaload, 1) := by decide +kernel
theorem dX7_load_39 : decode cX7_load 39 = .ok (.iload_n 1, 1) := by decide +kernel
theorem dX7_load_40 : decode cX7_load 40 = .ok (.if_icmp .ne 8, 3) := by decide +kernel
theorem dX7_load_43 : decode cX7_load 43 = .ok (.bipush 7, 2) := by decide +kernel
theorem dX7_load_45 : decode cX7_load 45 = .ok (.goto 4, 3) := by decide +kernel
theorem dX7_load_48 : decode cX7_load 48 = .ok (.iconst 0, 1) := by decide +kernel
theorem dX7_load_49 : decode cX7_load 49 = .ok (.iadd, 1) := by decide +kernel
theorem dX7_load_50 : decode cX7_load 50 = .ok (.istore_n 2, 1) := by decide +kernel
theorem dX7_load_51 : decode cX7_load 51 = .ok (.iinc 5 1, 3) := by decide +kernel
theorem dX7_load_54 : decode cX7_load 54 = .ok (.goto (-33), 3) := by decide +kernel
theorem dX7_load_57 : decode cX7_load 57 = .ok (.iload_n 2, 1) := by decide +kernel
theorem dX7_load_58 : decode cX7_load 58 = .ok (.ireturn, 1) := by decide +kernel
theorem dX7_lifts_0 : decode cX7_lifts 0 = .ok (.aload_n 0, 1) := by decide +kernel
theorem dX7_lifts_1 : decode cX7_lifts 1 = .ok (.getfield 19, 3) := by decide +kernel
theorem dX7_lifts_4 : decode cX7_lifts 4 = .ok (.iload_n 1, 1) := by decide +kernel
theorem dX7_lifts_5 : decode cX7_lifts 5 = .ok (.aaload, 1) := by decide +kernel
theorem dX7_lifts_6 : decode cX7_lifts 6 = .ok (.iconst 2, 1) := by decide +kernel
theorem dX7_lifts_7 : decode cX7_lifts 7 = .ok (.iaload, 1) := by decide +kernel
theorem dX7_lifts_8 : decode cX7_lifts 8 = .ok (.bipush 100, 2) := by decide +kernel
