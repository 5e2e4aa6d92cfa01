set_option maxRecDepth 20000 in
theorem ggX6_cut_X2_sweep : GoodIn wsX6_cut wsX2_sweep := goodIn_r _ [39, 28, 35, 40, 41, 42, 22, 43, 29, 30, 44, 91, 92, 93, 94, 95] (by decide +kernel) (by decide +kernel)
set_option maxRecDepth 20000 in
theorem gX6_cut_X2_sweep : GoodIn wsX6_cut (wsV RX6 166 RX2 yX2_sweep wsX2_sweep) := goodIn_app (goodIn_of _ (by decide +kernel)) ggX6_cut_X2_sweep
set_option maxRecDepth 20000 in
theorem ggX6_cut_X3_findPieces : GoodIn wsX6_cut wsX3_findPieces := goodIn_r _ [49, 50, 51, 52, 53, 54, 55, 56, 57, 16, 58, 18, 59, 60, 61, 62, 63, 64, 65, 10, 11, 12, 66, 26, 27, 72, 73, 74, 75, 76, 77, 78, 91, 92, 93, 94, 95, 79, 80, 81, 82, 83, 84, 85, 86, 87, 88, 89, 90] (by decide +kernel) (by decide +kernel)
set_option maxRecDepth 20000 in
theorem gX6_cut_X3_findPieces : GoodIn wsX6_cut (wsV RX6 154 RX3 yX3_findPieces wsX3_findPieces) := goodIn_app (goodIn_of _ (by decide +kernel)) ggX6_cut_X3_findPieces
theorem dX6_cut_0 : decode cX6_cut 0 = .ok (.aload_n 0, 1) := by decide +kernel
theorem dX6_cut_1 : decode cX6_cut 1 = .ok (.getfield 19, 3) := by decide +kernel
theorem dX6_cut_4 : decode cX6_cut 4 = .ok (.getfield 94, 3) := by decide +kernel
theorem dX6_cut_7 : decode cX6_cut 7 = .ok (.iload_n 1, 1) := by decide +kernel
theorem dX6_cut_8 : decode cX6_cut 8 = .ok (.invokevirtual 124, 3) := by decide +kernel
theorem dX6_cut_11 : decode cX6_cut 11 = .ok (.ifCond .eq 17, 3) := by decide +kernel
theorem dX6_cut_14 : decode cX6_cut 14 = .ok (.aload_n 0, 1) := by decide +kernel
theorem dX6_cut_15 : decode cX6_cut 15 = .ok (.getfield 19, 3) := by decide +kernel
theorem dX6_cut_18 : decode cX6_cut 18 = .ok (.getfield 94, 3) := by decide +kernel
theorem dX6_cut_21 : decode cX6_cut 21 = .ok (.iload_n 2, 1) := by decide +kernel
theorem dX6_cut_22 : decode cX6_cut 22 = .ok (.invokevirtual 124, 3) := by decide +kernel
theorem dX6_cut_25 : decode cX6_cut 25 = .ok (.ifCond .ne 13, 3) := by decide +kernel
theorem dX6_cut_28 : decode cX6_cut 28 = .ok (.new 75, 3) := by decide +kernel
theorem dX6_cut_31 : decode cX6_cut 31 = .ok (.dup, 1) := by decide +kernel
theorem dX6_cut_32 : decode cX6_cut 32 = .ok (.ldc 127, 2) := by decide +kernel
theorem dX6_cut_34 : decode cX6_cut 34 = .ok (.invokespecial 79, 3) := by decide +kernel
theorem dX6_cut_37 : decode cX6_cut 37 = .ok (.athrow, 1) := by decide +kernel
theorem dX6_cut_38 : decode cX6_cut 38 = .ok (.aload_n 0, 1) := by decide +kernel
theorem dX6_cut_39 : decode cX6_cut 39 = .ok (.getfield 19, 3) := by decide +kernel
theorem dX6_cut_42 : decode cX6_cut 42 = .ok (.getfield 136, 3) := by decide +kernel
theorem dX6_cut_45 : decode cX6_cut 45 = .ok (.iload_n 1, 1) := by decide +kernel
theorem dX6_cut_46 : decode cX6_cut 46 = .ok (.iload_n 2, 1) := by decide +kernel
theorem dX6_cut_47 : decode cX6_cut 47 = .ok (.invokevirtual 157, 3) := by decide +kernel
theorem dX6_cut_50 : decode cX6_cut 50 = .ok (.istore_n 3, 1) := by decide +kernel
theorem dX6_cut_51 : decode cX6_cut 51 = .ok (.iload_n 3, 1) := by decide +kernel
theorem dX6_cut_52 : decode cX6_cut 52 = .ok (.ifCond .ge 13, 3) := by decide +kernel
theorem dX6_cut_55 : decode cX6_cut 55 = .ok (.new 59, 3) := by decide +kernel
theorem dX6_cut_58 : decode cX6_cut 58 = .ok (.dup, 1) := by decide +kernel
theorem dX6_cut_59 : decode cX6_cut 59 = .ok (.ldc 160, 2) := by decide +kernel
theorem dX6_cut_61 : decode cX6_cut 61 = .ok (.invokespecial 63, 3) := by decide +kernel
theorem dX6_cut_64 : decode cX6_cut 64 = .ok (.athrow, 1) := by decide +kernel
theorem dX6_cut_65 : decode cX6_cut 65 = .ok (.aload_n 0, 1) := by decide +kernel
theorem dX6_cut_66 : decode cX6_cut 66 = .ok (.getfield 19, 3) := by decide +kernel
theorem dX6_cut_69 : decode cX6_cut 69 = .ok (.getfield 136, 3) := by decide +kernel
theorem dX6_cut_72 : decode cX6_cut 72 = .ok (.iload_n 3, 1) := by decide +kernel
theorem dX6_cut_73 : decode cX6_cut 73 = .ok (.invokevirtual 162, 3) := by decide +kernel
theorem dX6_cut_76 : decode cX6_cut 76 = .ok (.aload_n 0, 1) := by decide +kernel
theorem dX6_cut_77 : decode cX6_cut 77 = .ok (.getfield 19, 3) := by decide +kernel
theorem dX6_cut_80 : decode cX6_cut 80 = .ok (.getfield 136, 3) := by decide +kernel
theorem dX6_cut_83 : decode cX6_cut 83 = .ok (.invokevirtual 166, 3) := by decide +kernel
theorem dX6_cut_86 : decode cX6_cut 86 = .ok (.aload_n 0, 1) := by decide +kernel
theorem dX6_cut_87 : decode cX6_cut 87 = .ok (.getfield 19, 3) := by decide +kernel
theorem dX6_cut_90 : decode cX6_cut 90 = .ok (.invokevirtual 154, 3) := by decide +kernel
theorem dX6_cut_93 : decode cX6_cut 93 = .ok (.aload_n 0, 1) := by decide +kernel
theorem dX6_cut_94 : decode cX6_cut 94 = .ok (.bipush 40, 2) := by decide +kernel
theorem dX6_cut_96 : decode cX6_cut 96 = .ok (.aload_n 0, 1) := by decide +kernel
theorem dX6_cut_97 : decode cX6_cut 97 = .ok (.getfield 33, 3) := by decide +kernel
theorem dX6_cut_100 : decode cX6_cut 100 = .ok (.iconst 1, 1) := by decide +kernel
theorem dX6_cut_101 : decode cX6_cut 101 = .ok (.iadd, 1) := by decide +kernel
theorem dX6_cut_102 : decode cX6_cut 102 = .ok (.invokestatic 140, 3) := by decide +kernel
theorem dX6_cut_105 : decode cX6_cut 105 = .ok (.putfield 33, 3) := by decide +kernel
theorem dX6_cut_108 : decode cX6_cut 108 = .ok (.aload_n 0, 1) := by decide +kernel
theorem dX6_cut_109 : decode cX6_cut 109 = .ok (.getfield 33, 3) := by decide +kernel
theorem dX6_cut_112 : decode cX6_cut 112 = .ok (.ireturn, 1) := by decide +kernel
set_option maxRecDepth 20000 in
theorem ggX6_load_X0_has : GoodIn wsX6_load wsX0_has := goodIn_r _ [14, 15, 34, 35, 36, 37, 38, 39, 40, 41, 42, 43, 44, 45] (by decide +kernel) (by decide +kernel)
set_option maxRecDepth 20000 in
theorem gX6_load_X0_has : GoodIn wsX6_load (wsV RX6 124 RX0 yX0_has wsX0_has) := goodIn_app (goodIn_of _ (by decide +kernel)) ggX6_load_X0_has
set_option maxRecDepth 20000 in
theorem ggX6_load_X0_floats : GoodIn wsX6_load wsX0_floats := goodIn_r _ [19, 20, 21, 11, 12, 13, 14, 15, 34, 35, 36, 37, 38, 39, 40, 41, 42, 43, 44, 45] (by decide +kernel) (by decide +kernel)
set_option maxRecDepth 20000 in
theorem gX6_load_X0_floats : GoodIn wsX6_load (wsV RX6 171 RX0 yX0_floats wsX0_floats) := goodIn_app (goodIn_of _ (by decide +kernel)) ggX6_load_X0_floats
theorem dX6_load_0 : decode cX6_load 0 = .ok (.aload_n 0, 1) := by decide +kernel
theorem dX6_load_1 : decode cX6_load 1 = .ok (.getfield 19, 3) := by decide +kernel
theorem dX6_load_4 : decode cX6_load 4 = .ok (.getfield 94, 3) := by decide +kernel
theorem dX6_load_7 : decode cX6_load 7 = .ok (.iload_n 1, 1) := by decide +kernel
theorem dX6_load_8 : decode cX6_load 8 = .ok (.invokevirtual 124, 3) := by decide +kernel
theorem dX6_load_11 : decode cX6_load 11 = .ok (.ifCond .ne 13, 3) := by decide +kernel
theorem dX6_load_14 : decode cX6_load 14 = .ok (.new 75, 3) := by decide +kernel
theorem dX6_load_17 : decode cX6_load 17 = .ok (.dup, 1) := by decide +kernel
theorem dX6_load_18 : decode cX6_load 18 = .ok (.ldc 127, 2) := by decide +kernel
theorem dX6_load_20 : decode cX6_load 20 = .ok (.invokespecial 79, 3) := by decide +kernel
theorem dX6_load_23 : decode cX6_load 23 = .ok (.athrow, 1) := by decide +kernel
theorem dX6_load_24 : decode cX6_load 24 = .ok (.iload_n 2, 1) := by decide +kernel
theorem dX6_load_25 : decode cX6_load 25 = .ok (.ifCond .lt 9, 3) := by decide +kernel
theorem dX6_load_28 : decode cX6_load 28 = .ok (.iload_n 2, 1) := by decide +kernel
theorem dX6_load_29 : decode cX6_load 29 = .ok (.bipush 30, 2) := by decide +kernel
theorem dX6_load_31 : decode cX6_load 31 = .ok (.if_icmp .le 13, 3) := by decide +kernel
theorem dX6_load_34 : decode cX6_load 34 = .ok (.new 41, 3) := by decide +kernel
theorem dX6_load_37 : decode cX6_load 37 = .ok (.dup, 1) := by decide +kernel
theorem dX6_load_38 : decode cX6_load 38 = .ok (.ldc 169, 2) := by decide +kernel
theorem dX6_load_40 : decode cX6_load 40 = .ok (.invokespecial 45, 3) := by decide +kernel
theorem dX6_load_43 : decode cX6_load 43 = .ok (.athrow, 1) := by decide +kernel
theorem dX6_load_44 : decode cX6_load 44 = .ok (.aload_n 0, 1) := by decide +kernel
theorem dX6_load_45 : decode cX6_load 45 = .ok (.getfield 19, 3) := by decide +kernel
theorem dX6_load_48 : decode cX6_load 48 = .ok (.getfield 94, 3) := by decide +kernel
theorem dX6_load_51 : decode cX6_load 51 = .ok (.iload_n 1, 1) := by decide +kernel
theorem dX6_load_52 : decode cX6_load 52 = .ok (.invokevirtual 171, 3) := by decide +kernel
theorem dX6_load_55 : decode cX6_load 55 = .ok (.ifCond .ne 13, 3) := by decide +kernel
theorem dX6_load_58 : decode cX6_load 58 = .ok (.new 59, 3) := by decide +kernel
theorem dX6_load_61 : decode cX6_load 61 = .ok (.dup, 1) := by decide +kernel
theorem dX6_load_62 : decode cX6_load 62 = .ok (.ldc 174, 2) := by decide +kernel
theorem dX6_load_64 : decode cX6_load 64 = .ok (.invokespecial 63, 3) := by decide +kernel
theorem dX6_load_67 : decode cX6_load 67 = .ok (.athrow, 1) := by decide +kernel
theorem dX6_load_68 : decode cX6_load 68 = .ok (.aload_n 0, 1) := by decide +kernel
theorem dX6_load_69 : decode cX6_load 69 = .ok (.getfield 19, 3) := by decide +kernel
theorem dX6_load_72 : decode cX6_load 72 = .ok (.getfield 94, 3) := by decide +kernel
theorem dX6_load_75 : decode cX6_load 75 = .ok (.getfield 176, 3) := by decide +kernel
theorem dX6_load_78 : decode cX6_load 78 = .ok (.iload_n 1, 1) := by decide +kernel
theorem dX6_load_79 : decode cX6_load 79 = .ok (.iaload, 1) := by decide +kernel
theorem dX6_load_80 : decode cX6_load 80 = .ok (.istore_n 3, 1) := by decide +kernel
theorem dX6_load_81 : decode cX6_load 81 = .ok (.aload_n 0, 1) := by decide +kernel
theorem dX6_load_82 : decode cX6_load 82 = .ok (.getfield 19, 3) := by decide +kernel
theorem dX6_load_85 : decode cX6_load 85 = .ok (.getfield 94, 3) := by decide +kernel
theorem dX6_load_88 : decode cX6_load 88 = .ok (.getfield 176, 3) := by decide +kernel
theorem dX6_load_91 : decode cX6_load 91 = .ok (.iload_n 1, 1) := by decide +kernel
theorem dX6_load_92 : decode cX6_load 92 = .ok (.iload_n 2, 1) := by decide +kernel
theorem dX6_load_93 : decode cX6_load 93 = .ok (.iastore, 1) := by decide +kernel
theorem dX6_load_94 : decode cX6_load 94 = .ok (.iload_n 3, 1) := by decide +kernel
theorem dX6_load_95 : decode cX6_load 95 = .ok (.ireturn, 1) := by decide +kernel
set_option maxRecDepth 20000 in
theorem ggX6_barrel_X0_has : GoodIn wsX6_barrel wsX0_has := goodIn_r _ [9, 10, 62, 63, 64, 65, 66, 67, 68, 69, 70, 71, 72, 73] (by decide +kernel) (by decide +kernel)
set_option maxRecDepth 20000 in
theorem gX6_barrel_X0_has : GoodIn wsX6_barrel (wsV RX6 124 RX0 yX0_has wsX0_has) := goodIn_app (goodIn_of _ (by decide +kernel)) ggX6_barrel_X0_has
set_option maxRecDepth 20000 in
theorem ggX6_barrel_X6_isBelow : GoodIn wsX6_barrel wsX6_isBelow := goodIn_r _ [14] (by decide +kernel) (by decide +kernel)
set_option maxRecDepth 20000 in
theorem gX6_barrel_X6_isBelow : GoodIn wsX6_barrel (va_wsS RX6 72 yX6_isBelow wsX6_isBelow) := goodIn_app (goodIn_of _ (by decide +kernel)) ggX6_barrel_X6_isBelow
set_option maxRecDepth 20000 in
theorem ggX6_barrel_X6_barrelFact : GoodIn wsX6_barrel wsX6_barrelFact := goodIn_r _ [18, 3, 4, 19, 20, 21, 22, 23, 24, 25, 26, 27, 28, 29, 30, 31, 32, 33, 34, 35, 36, 37, 38, 39, 40, 8, 41, 42, 43, 44, 45, 46, 47, 48, 49, 50, 51, 52, 53, 54, 55, 56, 57, 58, 59, 60, 61, 62, 63, 64, 65, 66, 67, 68, 69, 70, 71, 72, 73, 74, 75, 76, 77, 78] (by decide +kernel) (by decide +kernel)
set_option maxRecDepth 20000 in
theorem gX6_barrel_X6_barrelFact : GoodIn wsX6_barrel (wsV RX6 182 RX6 yX6_barrelFact wsX6_barrelFact) := goodIn_app (goodIn_of _ (by decide +kernel)) ggX6_barrel_X6_barrelFact
theorem dX6_barrel_0 : decode cX6_barrel 0 = .ok (.aload_n 0, 1) := by decide +kernel
theorem dX6_barrel_1 : decode cX6_barrel 1 = .ok (.getfield 19, 3) := by decide +kernel
theorem dX6_barrel_4 : decode cX6_barrel 4 = .ok (.getfield 94, 3) := by decide +kernel
theorem dX6_barrel_7 : decode cX6_barrel 7 = .ok (.iload_n 1, 1) := by decide +kernel
theorem dX6_barrel_8 : decode cX6_barrel 8 = .ok (.invokevirtual 124, 3) := by decide +kernel
theorem dX6_barrel_11 : decode cX6_barrel 11 = .ok (.ifCond .eq 12, 3) := by decide +kernel
theorem dX6_barrel_14 : decode cX6_barrel 14 = .ok (.iload_n 2, 1) := by decide +kernel
theorem dX6_barrel_15 : decode cX6_barrel 15 = .ok (.bipush 13, 2) := by decide +kernel
theorem dX6_barrel_17 : decode cX6_barrel 17 = .ok (.invokestatic 72, 3) := by decide +kernel
theorem dX6_barrel_20 : decode cX6_barrel 20 = .ok (.ifCond .ne 13, 3) := by decide +kernel
theorem dX6_barrel_23 : decode cX6_barrel 23 = .ok (.new 75, 3) := by decide +kernel
theorem dX6_barrel_26 : decode cX6_barrel 26 = .ok (.dup, 1) := by decide +kernel
theorem dX6_barrel_27 : decode cX6_barrel 27 = .ok (.ldc 180, 2) := by decide +kernel
theorem dX6_barrel_29 : decode cX6_barrel 29 = .ok (.invokespecial 79, 3) := by decide +kernel
theorem dX6_barrel_32 : decode cX6_barrel 32 = .ok (.athrow, 1) := by decide +kernel
theorem dX6_barrel_33 : decode cX6_barrel 33 = .ok (.aload_n 0, 1) := by decide +kernel
theorem dX6_barrel_34 : decode cX6_barrel 34 = .ok (.iload_n 1, 1) := by decide +kernel
theorem dX6_barrel_35 : decode cX6_barrel 35 = .ok (.iload_n 2, 1) := by decide +kernel
theorem dX6_barrel_36 : decode cX6_barrel 36 = .ok (.invokevirtual 182, 3) := by decide +kernel
theorem dX6_barrel_39 : decode cX6_barrel 39 = .ok (.ireturn, 1) := by decide +kernel
set_option maxRecDepth 20000 in
theorem ggX6_lashing_X0_has : GoodIn wsX6_lashing wsX0_has := goodIn_r _ [13, 14, 89, 90, 91, 92, 93, 94, 95, 96, 97, 98, 99, 100] (by decide +kernel) (by decide +kernel)
set_option maxRecDepth 20000 in
theorem gX6_lashing_X0_has : GoodIn wsX6_lashing (wsV RX6 124 RX0 yX0_has wsX0_has) := goodIn_app (goodIn_of _ (by decide +kernel)) ggX6_lashing_X0_has
set_option maxRecDepth 20000 in
theorem ggX6_lashing_X6_isBelow : GoodIn wsX6_lashing wsX6_isBelow := goodIn_r _ [18] (by decide +kernel) (by decide +kernel)
set_option maxRecDepth 20000 in
theorem gX6_lashing_X6_isBelow : GoodIn wsX6_lashing (va_wsS RX6 72 yX6_isBelow wsX6_isBelow) := goodIn_app (goodIn_of _ (by decide +kernel)) ggX6_lashing_X6_isBelow
set_option maxRecDepth 20000 in
theorem ggX6_lashing_X2_find : GoodIn wsX6_lashing wsX2_find := goodIn_r _ [23, 24, 25, 26, 27, 28, 29, 30, 31, 32, 33, 84, 85, 86, 87, 88] (by decide +kernel) (by decide +kernel)
set_option maxRecDepth 20000 in
theorem gX6_lashing_X2_find : GoodIn wsX6_lashing (wsV RX6 157 RX2 yX2_find wsX2_find) := goodIn_app (goodIn_of _ (by decide +kernel)) ggX6_lashing_X2_find
set_option maxRecDepth 20000 in
theorem ggX6_lashing_X3_stress : GoodIn wsX6_lashing wsX3_stress := goodIn_r _ [38, 39, 40, 41, 42, 43, 44, 45, 46, 26, 47, 48, 49, 50, 51, 52, 53, 54, 17, 55, 56, 57, 58, 59, 60, 61, 62, 63, 64, 65, 66, 67, 68, 12, 69, 70, 71, 77, 78, 79, 80, 81, 82, 83, 84, 85, 86, 87, 88, 89, 90, 91, 92, 93, 94, 95, 96, 97, 98, 99, 100, 101, 102, 103, 104, 105, 106, 107] (by decide +kernel) (by decide +kernel)
set_option maxRecDepth 20000 in
theorem gX6_lashing_X3_stress : GoodIn wsX6_lashing (wsV RX6 191 RX3 yX3_stress wsX3_stress) := goodIn_app (goodIn_of _ (by decide +kernel)) ggX6_lashing_X3_stress
theorem dX6_lashing_0 : decode cX6_lashing 0 = .ok (.aload_n 0, 1) := by decide +kernel
theorem dX6_lashing_1 : decode cX6_lashing 1 = .ok (.getfield 19, 3) := by decide +kernel
theorem dX6_lashing_4 : decode cX6_lashing 4 = .ok (.getfield 94, 3) := by decide +kernel
theorem dX6_lashing_7 : decode cX6_lashing 7 = .ok (.iload_n 1, 1) := by decide +kernel
theorem dX6_lashing_8 : decode cX6_lashing 8 = .ok (.invokevirtual 124, 3) := by decide +kernel
theorem dX6_lashing_11 : decode cX6_lashing 11 = .ok (.ifCond .eq 25, 3) := by decide +kernel
theorem dX6_lashing_14 : decode cX6_lashing 14 = .ok (.aload_n 0, 1) := by decide +kernel
theorem dX6_lashing_15 : decode cX6_lashing 15 = .ok (.getfield 19, 3) := by decide +kernel
theorem dX6_lashing_18 : decode cX6_lashing 18 = .ok (.getfield 94, 3) := by decide +kernel
theorem dX6_lashing_21 : decode cX6_lashing 21 = .ok (.iload_n 2, 1) := by decide +kernel
theorem dX6_lashing_22 : decode cX6_lashing 22 = .ok (.invokevirtual 124, 3) := by decide +kernel
theorem dX6_lashing_25 : decode cX6_lashing 25 = .ok (.ifCond .eq 11, 3) := by decide +kernel
theorem dX6_lashing_28 : decode cX6_lashing 28 = .ok (.iload_n 3, 1) := by decide +kernel
theorem dX6_lashing_29 : decode cX6_lashing 29 = .ok (.iconst 3, 1) := by decide +kernel
theorem dX6_lashing_30 : decode cX6_lashing 30 = .ok (.invokestatic 72, 3) := by decide +kernel
theorem dX6_lashing_33 : decode cX6_lashing 33 = .ok (.ifCond .ne 13, 3) := by decide +kernel
theorem dX6_lashing_36 : decode cX6_lashing 36 = .ok (.new 75, 3) := by decide +kernel
theorem dX6_lashing_39 : decode cX6_lashing 39 = .ok (.dup, 1) := by decide +kernel
theorem dX6_lashing_40 : decode cX6_lashing 40 = .ok (.ldc 180, 2) := by decide +kernel
theorem dX6_lashing_42 : decode cX6_lashing 42 = .ok (.invokespecial 79, 3) := by decide +kernel
theorem dX6_lashing_45 : decode cX6_lashing 45 = .ok (.athrow, 1) := by decide +kernel
theorem dX6_lashing_46 : decode cX6_lashing 46 = .ok (.aload_n 0, 1) := by decide +kernel
theorem dX6_lashing_47 : decode cX6_lashing 47 = .ok (.getfield 19, 3) := by decide +kernel
theorem dX6_lashing_50 : decode cX6_lashing 50 = .ok (.getfield 136, 3) := by decide +kernel
theorem dX6_lashing_53 : decode cX6_lashing 53 = .ok (.iload_n 1, 1) := by decide +kernel
theorem dX6_lashing_54 : decode cX6_lashing 54 = .ok (.iload_n 2, 1) := by decide +kernel
theorem dX6_lashing_55 : decode cX6_lashing 55 = .ok (.invokevirtual 157, 3) := by decide +kernel
theorem dX6_lashing_58 : decode cX6_lashing 58 = .ok (.istore 4, 2) := by decide +kernel
theorem dX6_lashing_60 : decode cX6_lashing 60 = .ok (.iload 4, 2) := by decide +kernel
theorem dX6_lashing_62 : decode cX6_lashing 62 = .ok (.ifCond .ge 5, 3) := by decide +kernel
theorem dX6_lashing_65 : decode cX6_lashing 65 = .ok (.iconst 0, 1) := by decide +kernel
theorem dX6_lashing_66 : decode cX6_lashing 66 = .ok (.ireturn, 1) := by decide +kernel
theorem dX6_lashing_67 : decode cX6_lashing 67 = .ok (.iload_n 3, 1) := by decide +kernel
theorem dX6_lashing_68 : decode cX6_lashing 68 = .ok (.lookupswitch 56 #[(0, 28), (1, 42)], 28) := by decide +kernel
theorem dX6_lashing_96 : decode cX6_lashing 96 = .ok (.aload_n 0, 1) := by decide +kernel
theorem dX6_lashing_97 : decode cX6_lashing 97 = .ok (.getfield 19, 3) := by decide +kernel
theorem dX6_lashing_100 : decode cX6_lashing 100 = .ok (.getfield 136, 3) := by decide +kernel
theorem dX6_lashing_103 : decode cX6_lashing 103 = .ok (.getfield 185, 3) := by decide +kernel
theorem dX6_lashing_106 : decode cX6_lashing 106 = .ok (.iload 4, 2) := by decide +kernel
theorem dX6_lashing_108 : decode cX6_lashing 108 = .ok (.iaload, 1) := by decide +kernel
theorem dX6_lashing_109 : decode cX6_lashing 109 = .ok (.ireturn, 1) := by decide +kernel
theorem dX6_lashing_110 : decode cX6_lashing 110 = .ok (.aload_n 0, 1) := by decide +kernel
theorem dX6_lashing_111 : decode cX6_lashing 111 = .ok (.getfield 19, 3) := by decide +kernel
theorem dX6_lashing_114 : decode cX6_lashing 114 = .ok (.getfield 136, 3) := by decide +kernel
theorem dX6_lashing_117 : decode cX6_lashing 117 = .ok (.getfield 188, 3) := by decide +kernel
theorem dX6_lashing_120 : decode cX6_lashing 120 = .ok (.iload 4, 2) := by decide +kernel
theorem dX6_lashing_122 : decode cX6_lashing 122 = .ok (.iaload, 1) := by decide +kernel
theorem dX6_lashing_123 : decode cX6_lashing 123 = .ok (.ireturn, 1) := by decide +kernel
theorem dX6_lashing_124 : decode cX6_lashing 124 = .ok (.aload_n 0, 1) := by decide +kernel
theorem dX6_lashing_125 : decode cX6_lashing 125 = .ok (.getfield 19, 3) := by decide +kernel
theorem dX6_lashing_128 : decode cX6_lashing 128 = .ok (.iload 4, 2) := by decide +kernel
theorem dX6_lashing_130 : decode cX6_lashing 130 = .ok (.aload_n 0, 1) := by decide +kernel
theorem dX6_lashing_131 : decode cX6_lashing 131 = .ok (.getfield 12, 3) := by decide +kernel
theorem dX6_lashing_134 : decode cX6_lashing 134 = .ok (.invokevirtual 191, 3) := by decide +kernel
theorem dX6_lashing_137 : decode cX6_lashing 137 = .ok (.ireturn, 1) := by decide +kernel
set_option maxRecDepth 20000 in
theorem ggX6_addCastaway_X0_has : GoodIn wsX6_addCastaway wsX0_has := goodIn_r _ [14, 15, 45, 46, 47, 48, 49, 50, 51, 52, 53, 54, 55, 56] (by decide +kernel) (by decide +kernel)
set_option maxRecDepth 20000 in
theorem gX6_addCastaway_X0_has : GoodIn wsX6_addCastaway (wsV RX6 124 RX0 yX0_has wsX0_has) := goodIn_app (goodIn_of _ (by decide +kernel)) ggX6_addCastaway_X0_has
set_option maxRecDepth 20000 in
theorem ggX6_addCastaway_X0_floats : GoodIn wsX6_addCastaway wsX0_floats := goodIn_r _ [19, 20, 21, 11, 12, 13, 14, 15, 45, 46, 47, 48, 49, 50, 51, 52, 53, 54, 55, 56] (by decide +kernel) (by decide +kernel)
set_option maxRecDepth 20000 in
theorem gX6_addCastaway_X0_floats : GoodIn wsX6_addCastaway (wsV RX6 171 RX0 yX0_floats wsX0_floats) := goodIn_app (goodIn_of _ (by decide +kernel)) ggX6_addCastaway_X0_floats
set_option maxRecDepth 20000 in
theorem ggX6_addCastaway_X1_append : GoodIn wsX6_addCastaway wsX1_append := goodIn_r _ [26, 27, 28, 29, 42, 43, 44] (by decide +kernel) (by decide +kernel)
set_option maxRecDepth 20000 in
theorem gX6_addCastaway_X1_append : GoodIn wsX6_addCastaway (wsV RX6 207 RX1 yX1_append wsX1_append) := goodIn_app (goodIn_of _ (by decide +kernel)) ggX6_addCastaway_X1_append
theorem dX6_addCastaway_0 : decode cX6_addCastaway 0 = .ok (.aload_n 0, 1) := by decide +kernel
theorem dX6_addCastaway_1 : decode cX6_addCastaway 1 = .ok (.getfield 19, 3) := by decide +kernel
theorem dX6_addCastaway_4 : decode cX6_addCastaway 4 = .ok (.getfield 94, 3) := by decide +kernel
theorem dX6_addCastaway_7 : decode cX6_addCastaway 7 = .ok (.iload_n 1, 1) := by decide +kernel
theorem dX6_addCastaway_8 : decode cX6_addCastaway 8 = .ok (.invokevirtual 124, 3) := by decide +kernel
theorem dX6_addCastaway_11 : decode cX6_addCastaway 11 = .ok (.ifCond .ne 13, 3) := by decide +kernel
theorem dX6_addCastaway_14 : decode cX6_addCastaway 14 = .ok (.new 75, 3) := by decide +kernel
theorem dX6_addCastaway_17 : decode cX6_addCastaway 17 = .ok (.dup, 1) := by decide +kernel
theorem dX6_addCastaway_18 : decode cX6_addCastaway 18 = .ok (.ldc 127, 2) := by decide +kernel
theorem dX6_addCastaway_20 : decode cX6_addCastaway 20 = .ok (.invokespecial 79, 3) := by decide +kernel
theorem dX6_addCastaway_23 : decode cX6_addCastaway 23 = .ok (.athrow, 1) := by decide +kernel
theorem dX6_addCastaway_24 : decode cX6_addCastaway 24 = .ok (.aload_n 0, 1) := by decide +kernel
theorem dX6_addCastaway_25 : decode cX6_addCastaway 25 = .ok (.getfield 19, 3) := by decide +kernel
theorem dX6_addCastaway_28 : decode cX6_addCastaway 28 = .ok (.getfield 94, 3) := by decide +kernel
theorem dX6_addCastaway_31 : decode cX6_addCastaway 31 = .ok (.iload_n 1, 1) := by decide +kernel
theorem dX6_addCastaway_32 : decode cX6_addCastaway 32 = .ok (.invokevirtual 171, 3) := by decide +kernel
theorem dX6_addCastaway_35 : decode cX6_addCastaway 35 = .ok (.ifCond .eq 18, 3) := by decide +kernel
theorem dX6_addCastaway_38 : decode cX6_addCastaway 38 = .ok (.aload_n 0, 1) := by decide +kernel
theorem dX6_addCastaway_39 : decode cX6_addCastaway 39 = .ok (.getfield 19, 3) := by decide +kernel
theorem dX6_addCastaway_42 : decode cX6_addCastaway 42 = .ok (.getfield 195, 3) := by decide +kernel
theorem dX6_addCastaway_45 : decode cX6_addCastaway 45 = .ok (.getfield 199, 3) := by decide +kernel
theorem dX6_addCastaway_48 : decode cX6_addCastaway 48 = .ok (.bipush 8, 2) := by decide +kernel
theorem dX6_addCastaway_50 : decode cX6_addCastaway 50 = .ok (.if_icmp .lt 13, 3) := by decide +kernel
theorem dX6_addCastaway_53 : decode cX6_addCastaway 53 = .ok (.new 59, 3) := by decide +kernel
theorem dX6_addCastaway_56 : decode cX6_addCastaway 56 = .ok (.dup, 1) := by decide +kernel
theorem dX6_addCastaway_57 : decode cX6_addCastaway 57 = .ok (.ldc 202, 2) := by decide +kernel
theorem dX6_addCastaway_59 : decode cX6_addCastaway 59 = .ok (.invokespecial 63, 3) := by decide +kernel
theorem dX6_addCastaway_62 : decode cX6_addCastaway 62 = .ok (.athrow, 1) := by decide +kernel
theorem dX6_addCastaway_63 : decode cX6_addCastaway 63 = .ok (.aload_n 0, 1) := by decide +kernel
theorem dX6_addCastaway_64 : decode cX6_addCastaway 64 = .ok (.getfield 19, 3) := by decide +kernel
theorem dX6_addCastaway_67 : decode cX6_addCastaway 67 = .ok (.getfield 94, 3) := by decide +kernel
theorem dX6_addCastaway_70 : decode cX6_addCastaway 70 = .ok (.getfield 204, 3) := by decide +kernel
theorem dX6_addCastaway_73 : decode cX6_addCastaway 73 = .ok (.iload_n 1, 1) := by decide +kernel
theorem dX6_addCastaway_74 : decode cX6_addCastaway 74 = .ok (.dup2, 1) := by decide +kernel
theorem dX6_addCastaway_75 : decode cX6_addCastaway 75 = .ok (.iaload, 1) := by decide +kernel
theorem dX6_addCastaway_76 : decode cX6_addCastaway 76 = .ok (.iconst 1, 1) := by decide +kernel
theorem dX6_addCastaway_77 : decode cX6_addCastaway 77 = .ok (.iadd, 1) := by decide +kernel
theorem dX6_addCastaway_78 : decode cX6_addCastaway 78 = .ok (.iastore, 1) := by decide +kernel
theorem dX6_addCastaway_79 : decode cX6_addCastaway 79 = .ok (.aload_n 0, 1) := by decide +kernel
theorem dX6_addCastaway_80 : decode cX6_addCastaway 80 = .ok (.getfield 19, 3) := by decide +kernel
theorem dX6_addCastaway_83 : decode cX6_addCastaway 83 = .ok (.getfield 195, 3) := by decide +kernel
theorem dX6_addCastaway_86 : decode cX6_addCastaway 86 = .ok (.iload_n 1, 1) := by decide +kernel
theorem dX6_addCastaway_87 : decode cX6_addCastaway 87 = .ok (.invokevirtual 207, 3) := by decide +kernel
theorem dX6_addCastaway_90 : decode cX6_addCastaway 90 = .ok (.ireturn, 1) := by decide +kernel
set_option maxRecDepth 20000 in
theorem ggX6_go_X1_has : GoodIn wsX6_go wsX1_has := goodIn_r _ [15, 16, 50, 51, 52] (by decide +kernel) (by decide +kernel)
set_option maxRecDepth 20000 in
theorem gX6_go_X1_has : GoodIn wsX6_go (wsV RX6 209 RX1 yX1_has wsX1_has) := goodIn_app (goodIn_of _ (by decide +kernel)) ggX6_go_X1_has
set_option maxRecDepth 20000 in
theorem ggX6_go_X0_has : GoodIn wsX6_go wsX0_has := goodIn_r _ [21, 22, 53, 54, 55, 56, 57, 58, 59, 60, 61, 62, 63, 64] (by decide +kernel) (by decide +kernel)
set_option maxRecDepth 20000 in
theorem gX6_go_X0_has : GoodIn wsX6_go (wsV RX6 124 RX0 yX0_has wsX0_has) := goodIn_app (goodIn_of _ (by decide +kernel)) ggX6_go_X0_has
set_option maxRecDepth 20000 in
theorem ggX6_go_X2_find : GoodIn wsX6_go wsX2_find := goodIn_r _ [27, 28, 29, 30, 31, 32, 33, 34, 35, 36, 37, 65, 66, 67, 68, 69] (by decide +kernel) (by decide +kernel)
set_option maxRecDepth 20000 in
theorem gX6_go_X2_find : GoodIn wsX6_go (wsV RX6 157 RX2 yX2_find wsX2_find) := goodIn_app (goodIn_of _ (by decide +kernel)) ggX6_go_X2_find
theorem dX6_go_0 : decode cX6_go 0 = .ok (.aload_n 0, 1) := by decide +kernel
theorem dX6_go_1 : decode cX6_go 1 = .ok (.getfield 19, 3) := by decide +kernel
theorem dX6_go_4 : decode cX6_go 4 = .ok (.getfield 195, 3) := by decide +kernel
theorem dX6_go_7 : decode cX6_go 7 = .ok (.iload_n 1, 1) := by decide +kernel
theorem dX6_go_8 : decode cX6_go 8 = .ok (.invokevirtual 209, 3) := by decide +kernel
theorem dX6_go_11 : decode cX6_go 11 = .ok (.ifCond .eq 17, 3) := by decide +kernel
theorem dX6_go_14 : decode cX6_go 14 = .ok (.aload_n 0, 1) := by decide +kernel
theorem dX6_go_15 : decode cX6_go 15 = .ok (.getfield 19, 3) := by decide +kernel
theorem dX6_go_18 : decode cX6_go 18 = .ok (.getfield 94, 3) := by decide +kernel
theorem dX6_go_21 : decode cX6_go 21 = .ok (.iload_n 2, 1) := by decide +kernel
theorem dX6_go_22 : decode cX6_go 22 = .ok (.invokevirtual 124, 3) := by decide +kernel
theorem dX6_go_25 : decode cX6_go 25 = .ok (.ifCond .ne 13, 3) := by decide +kernel
theorem dX6_go_28 : decode cX6_go 28 = .ok (.new 75, 3) := by decide +kernel
theorem dX6_go_31 : decode cX6_go 31 = .ok (.dup, 1) := by decide +kernel
theorem dX6_go_32 : decode cX6_go 32 = .ok (.ldc 210, 2) := by decide +kernel
theorem dX6_go_34 : decode cX6_go 34 = .ok (.invokespecial 79, 3) := by decide +kernel
theorem dX6_go_37 : decode cX6_go 37 = .ok (.athrow, 1) := by decide +kernel
theorem dX6_go_38 : decode cX6_go 38 = .ok (.aload_n 0, 1) := by decide +kernel
theorem dX6_go_39 : decode cX6_go 39 = .ok (.getfield 19, 3) := by decide +kernel
theorem dX6_go_42 : decode cX6_go 42 = .ok (.getfield 195, 3) := by decide +kernel
theorem dX6_go_45 : decode cX6_go 45 = .ok (.getfield 212, 3) := by decide +kernel
theorem dX6_go_48 : decode cX6_go 48 = .ok (.iload_n 1, 1) := by decide +kernel
theorem dX6_go_49 : decode cX6_go 49 = .ok (.iaload, 1) := by decide +kernel
theorem dX6_go_50 : decode cX6_go 50 = .ok (.istore_n 3, 1) := by decide +kernel
theorem dX6_go_51 : decode cX6_go 51 = .ok (.aload_n 0, 1) := by decide +kernel
theorem dX6_go_52 : decode cX6_go 52 = .ok (.getfield 19, 3) := by decide +kernel
theorem dX6_go_55 : decode cX6_go 55 = .ok (.getfield 94, 3) := by decide +kernel
theorem dX6_go_58 : decode cX6_go 58 = .ok (.iload_n 3, 1) := by decide +kernel
theorem dX6_go_59 : decode cX6_go 59 = .ok (.invokevirtual 124, 3) := by decide +kernel
theorem dX6_go_62 : decode cX6_go 62 = .ok (.ifCond .eq 18, 3) := by decide +kernel
theorem dX6_go_65 : decode cX6_go 65 = .ok (.aload_n 0, 1) := by decide +kernel
theorem dX6_go_66 : decode cX6_go 66 = .ok (.getfield 19, 3) := by decide +kernel
theorem dX6_go_69 : decode cX6_go 69 = .ok (.getfield 136, 3) := by decide +kernel
theorem dX6_go_72 : decode cX6_go 72 = .ok (.iload_n 3, 1) := by decide +kernel
theorem dX6_go_73 : decode cX6_go 73 = .ok (.iload_n 2, 1) := by decide +kernel
theorem dX6_go_74 : decode cX6_go 74 = .ok (.invokevirtual 157, 3) := by decide +kernel
theorem dX6_go_77 : decode cX6_go 77 = .ok (.ifCond .ge 13, 3) := by decide +kernel
theorem dX6_go_80 : decode cX6_go 80 = .ok (.new 59, 3) := by decide +kernel
theorem dX6_go_83 : decode cX6_go 83 = .ok (.dup, 1) := by decide +kernel
theorem dX6_go_84 : decode cX6_go 84 = .ok (.ldc 215, 2) := by decide +kernel
theorem dX6_go_86 : decode cX6_go 86 = .ok (.invokespecial 63, 3) := by decide +kernel
theorem dX6_go_89 : decode cX6_go 89 = .ok (.athrow, 1) := by decide +kernel
theorem dX6_go_90 : decode cX6_go 90 = .ok (.aload_n 0, 1) := by decide +kernel
theorem dX6_go_91 : decode cX6_go 91 = .ok (.getfield 19, 3) := by decide +kernel
theorem dX6_go_94 : decode cX6_go 94 = .ok (.getfield 94, 3) := by decide +kernel
theorem dX6_go_97 : decode cX6_go 97 = .ok (.getfield 204, 3) := by decide +kernel
theorem dX6_go_100 : decode cX6_go 100 = .ok (.iload_n 3, 1) := by decide +kernel
theorem dX6_go_101 : decode cX6_go 101 = .ok (.dup2, 1) := by decide +kernel
theorem dX6_go_102 : decode cX6_go 102 = .ok (.iaload, 1) := by decide +kernel
theorem dX6_go_103 : decode cX6_go 103 = .ok (.iconst 1, 1) := by decide +kernel
theorem dX6_go_104 : decode cX6_go 104 = .ok (.isub, 1) := by decide +kernel
theorem dX6_go_105 : decode cX6_go 105 = .ok (.iastore, 1) := by decide +kernel
theorem dX6_go_106 : decode cX6_go 106 = .ok (.aload_n 0, 1) := by decide +kernel
theorem dX6_go_107 : decode cX6_go 107 = .ok (.getfield 19, 3) := by decide +kernel
theorem dX6_go_110 : decode cX6_go 110 = .ok (.getfield 94, 3) := by decide +kernel
theorem dX6_go_113 : decode cX6_go 113 = .ok (.getfield 204, 3) := by decide +kernel
theorem dX6_go_116 : decode cX6_go 116 = .ok (.iload_n 2, 1) := by decide +kernel
theorem dX6_go_117 : decode cX6_go 117 = .ok (.dup2, 1) := by decide +kernel
theorem dX6_go_118 : decode cX6_go 118 = .ok (.iaload, 1) := by decide +kernel
theorem dX6_go_119 : decode cX6_go 119 = .ok (.iconst 1, 1) := by decide +kernel
theorem dX6_go_120 : decode cX6_go 120 = .ok (.iadd, 1) := by decide +kernel
theorem dX6_go_121 : decode cX6_go 121 = .ok (.iastore, 1) := by decide +kernel
theorem dX6_go_122 : decode cX6_go 122 = .ok (.aload_n 0, 1) := by decide +kernel
theorem dX6_go_123 : decode cX6_go 123 = .ok (.getfield 19, 3) := by decide +kernel
theorem dX6_go_126 : decode cX6_go 126 = .ok (.getfield 195, 3) := by decide +kernel
theorem dX6_go_129 : decode cX6_go 129 = .ok (.getfield 212, 3) := by decide +kernel
theorem dX6_go_132 : decode cX6_go 132 = .ok (.iload_n 1, 1) := by decide +kernel
theorem dX6_go_133 : decode cX6_go 133 = .ok (.iload_n 2, 1) := by decide +kernel
theorem dX6_go_134 : decode cX6_go 134 = .ok (.iastore, 1) := by decide +kernel
theorem dX6_go_135 : decode cX6_go 135 = .ok (.aload_n 0, 1) := by decide +kernel
theorem dX6_go_136 : decode cX6_go 136 = .ok (.getfield 19, 3) := by decide +kernel
theorem dX6_go_139 : decode cX6_go 139 = .ok (.getfield 94, 3) := by decide +kernel
theorem dX6_go_142 : decode cX6_go 142 = .ok (.getfield 204, 3) := by decide +kernel
theorem dX6_go_145 : decode cX6_go 145 = .ok (.iload_n 2, 1) := by decide +kernel
theorem dX6_go_146 : decode cX6_go 146 = .ok (.iaload, 1) := by decide +kernel
theorem dX6_go_147 : decode cX6_go 147 = .ok (.ireturn, 1) := by decide +kernel
set_option maxRecDepth 20000 in
theorem ggX6_bail_X1_has : GoodIn wsX6_bail wsX1_has := goodIn_r _ [18, 19, 38, 39, 40] (by decide +kernel) (by decide +kernel)
set_option maxRecDepth 20000 in
theorem gX6_bail_X1_has : GoodIn wsX6_bail (wsV RX6 209 RX1 yX1_has wsX1_has) := goodIn_app (goodIn_of _ (by decide +kernel)) ggX6_bail_X1_has
set_option maxRecDepth 20000 in
theorem ggX6_bail_X0_has : GoodIn wsX6_bail wsX0_has := goodIn_r _ [24, 25, 41, 42, 43, 44, 45, 46, 47, 48, 49, 50, 51, 52] (by decide +kernel) (by decide +kernel)
set_option maxRecDepth 20000 in
theorem gX6_bail_X0_has : GoodIn wsX6_bail (wsV RX6 124 RX0 yX0_has wsX0_has) := goodIn_app (goodIn_of _ (by decide +kernel)) ggX6_bail_X0_has
theorem dX6_bail_0 : decode cX6_bail 0 = .ok (.aload_n 0, 1) := by decide +kernel
theorem dX6_bail_1 : decode cX6_bail 1 = .ok (.getfield 19, 3) := by decide +kernel
theorem dX6_bail_4 : decode cX6_bail 4 = .ok (.getfield 195, 3) := by decide +kernel
theorem dX6_bail_7 : decode cX6_bail 7 = .ok (.iload_n 1, 1) := by decide +kernel
theorem dX6_bail_8 : decode cX6_bail 8 = .ok (.invokevirtual 209, 3) := by decide +kernel
theorem dX6_bail_11 : decode cX6_bail 11 = .ok (.ifCond .ne 13, 3) := by decide +kernel
theorem dX6_bail_14 : decode cX6_bail 14 = .ok (.new 75, 3) := by decide +kernel
theorem dX6_bail_17 : decode cX6_bail 17 = .ok (.dup, 1) := by decide +kernel
theorem dX6_bail_18 : decode cX6_bail 18 = .ok (.ldc 217, 2) := by decide +kernel
theorem dX6_bail_20 : decode cX6_bail 20 = .ok (.invokespecial 79, 3) := by decide +kernel
theorem dX6_bail_23 : decode cX6_bail 23 = .ok (.athrow, 1) := by decide +kernel
theorem dX6_bail_24 : decode cX6_bail 24 = .ok (.aload_n 0, 1) := by decide +kernel
theorem dX6_bail_25 : decode cX6_bail 25 = .ok (.getfield 19, 3) := by decide +kernel
theorem dX6_bail_28 : decode cX6_bail 28 = .ok (.getfield 195, 3) := by decide +kernel
theorem dX6_bail_31 : decode cX6_bail 31 = .ok (.getfield 212, 3) := by decide +kernel
theorem dX6_bail_34 : decode cX6_bail 34 = .ok (.iload_n 1, 1) := by decide +kernel
theorem dX6_bail_35 : decode cX6_bail 35 = .ok (.iaload, 1) := by decide +kernel
theorem dX6_bail_36 : decode cX6_bail 36 = .ok (.istore_n 2, 1) := by decide +kernel
theorem dX6_bail_37 : decode cX6_bail 37 = .ok (.aload_n 0, 1) := by decide +kernel
theorem dX6_bail_38 : decode cX6_bail 38 = .ok (.getfield 19, 3) := by decide +kernel
theorem dX6_bail_41 : decode cX6_bail 41 = .ok (.getfield 94, 3) := by decide +kernel
theorem dX6_bail_44 : decode cX6_bail 44 = .ok (.iload_n 2, 1) := by decide +kernel
theorem dX6_bail_45 : decode cX6_bail 45 = .ok (.invokevirtual 124, 3) := by decide +kernel
theorem dX6_bail_48 : decode cX6_bail 48 = .ok (.ifCond .ne 13, 3) := by decide +kernel
theorem dX6_bail_51 : decode cX6_bail 51 = .ok (.new 59, 3) := by decide +kernel
theorem dX6_bail_54 : decode cX6_bail 54 = .ok (.dup, 1) := by decide +kernel
theorem dX6_bail_55 : decode cX6_bail 55 = .ok (.ldc 219, 2) := by decide +kernel
theorem dX6_bail_57 : decode cX6_bail 57 = .ok (.invokespecial 63, 3) := by decide +kernel
theorem dX6_bail_60 : decode cX6_bail 60 = .ok (.athrow, 1) := by decide +kernel
theorem dX6_bail_61 : decode cX6_bail 61 = .ok (.aload_n 0, 1) := by decide +kernel
theorem dX6_bail_62 : decode cX6_bail 62 = .ok (.getfield 19, 3) := by decide +kernel
theorem dX6_bail_65 : decode cX6_bail 65 = .ok (.getfield 94, 3) := by decide +kernel
theorem dX6_bail_68 : decode cX6_bail 68 = .ok (.getfield 221, 3) := by decide +kernel
theorem dX6_bail_71 : decode cX6_bail 71 = .ok (.iload_n 2, 1) := by decide +kernel
theorem dX6_bail_72 : decode cX6_bail 72 = .ok (.iconst 0, 1) := by decide +kernel
theorem dX6_bail_73 : decode cX6_bail 73 = .ok (.aload_n 0, 1) := by decide +kernel
theorem dX6_bail_74 : decode cX6_bail 74 = .ok (.getfield 19, 3) := by decide +kernel
theorem dX6_bail_77 : decode cX6_bail 77 = .ok (.getfield 94, 3) := by decide +kernel
theorem dX6_bail_80 : decode cX6_bail 80 = .ok (.getfield 221, 3) := by decide +kernel
theorem dX6_bail_83 : decode cX6_bail 83 = .ok (.iload_n 2, 1) := by decide +kernel
theorem dX6_bail_84 : decode cX6_bail 84 = .ok (.iaload, 1) := by decide +kernel
theorem dX6_bail_85 : decode cX6_bail 85 = .ok (.bipush 25, 2) := by decide +kernel
theorem dX6_bail_87 : decode cX6_bail 87 = .ok (.isub, 1) := by decide +kernel
theorem dX6_bail_88 : decode cX6_bail 88 = .ok (.invokestatic 145, 3) := by decide +kernel
theorem dX6_bail_91 : decode cX6_bail 91 = .ok (.iastore, 1) := by decide +kernel
theorem dX6_bail_92 : decode cX6_bail 92 = .ok (.aload_n 0, 1) := by decide +kernel
theorem dX6_bail_93 : decode cX6_bail 93 = .ok (.getfield 19, 3) := by decide +kernel
theorem dX6_bail_96 : decode cX6_bail 96 = .ok (.getfield 94, 3) := by decide +kernel
theorem dX6_bail_99 : decode cX6_bail 99 = .ok (.getfield 221, 3) := by decide +kernel
theorem dX6_bail_102 : decode cX6_bail 102 = .ok (.iload_n 2, 1) := by decide +kernel
theorem dX6_bail_103 : decode cX6_bail 103 = .ok (.iaload, 1) := by decide +kernel
theorem dX6_bail_104 : decode cX6_bail 104 = .ok (.ireturn, 1) := by decide +kernel
set_option maxRecDepth 20000 in
theorem ggX6_castaway_X1_has : GoodIn wsX6_castaway wsX1_has := goodIn_r _ [9, 10, 33, 34, 35] (by decide +kernel) (by decide +kernel)
set_option maxRecDepth 20000 in
theorem gX6_castaway_X1_has : GoodIn wsX6_castaway (wsV RX6 209 RX1 yX1_has wsX1_has) := goodIn_app (goodIn_of _ (by decide +kernel)) ggX6_castaway_X1_has
set_option maxRecDepth 20000 in
theorem ggX6_castaway_X6_isBelow : GoodIn wsX6_castaway wsX6_isBelow := goodIn_r _ [14] (by decide +kernel) (by decide +kernel)
set_option maxRecDepth 20000 in
theorem gX6_castaway_X6_isBelow : GoodIn wsX6_castaway (va_wsS RX6 72 yX6_isBelow wsX6_isBelow) := goodIn_app (goodIn_of _ (by decide +kernel)) ggX6_castaway_X6_isBelow
set_option maxRecDepth 20000 in
theorem ggX6_castaway_X6_castawayFact : GoodIn wsX6_castaway wsX6_castawayFact := goodIn_r _ [18, 3, 4, 19, 20, 21, 22, 23, 24, 25, 26, 27, 28, 29, 30, 31, 32, 33, 34, 35] (by decide +kernel) (by decide +kernel)
set_option maxRecDepth 20000 in
theorem gX6_castaway_X6_castawayFact : GoodIn wsX6_castaway (wsV RX6 226 RX6 yX6_castawayFact wsX6_castawayFact) := goodIn_app (goodIn_of _ (by decide +kernel)) ggX6_castaway_X6_castawayFact
theorem dX6_castaway_0 : decode cX6_castaway 0 = .ok (.aload_n 0, 1) := by decide +kernel
theorem dX6_castaway_1 : decode cX6_castaway 1 = .ok (.getfield 19, 3) := by decide +kernel
theorem dX6_castaway_4 : decode cX6_castaway 4 = .ok (.getfield 195, 3) := by decide +kernel
theorem dX6_castaway_7 : decode cX6_castaway 7 = .ok (.iload_n 1, 1) := by decide +kernel
theorem dX6_castaway_8 : decode cX6_castaway 8 = .ok (.invokevirtual 209, 3) := by decide +kernel
theorem dX6_castaway_11 : decode cX6_castaway 11 = .ok (.ifCond .eq 11, 3) := by decide +kernel
theorem dX6_castaway_14 : decode cX6_castaway 14 = .ok (.iload_n 2, 1) := by decide +kernel
theorem dX6_castaway_15 : decode cX6_castaway 15 = .ok (.iconst 2, 1) := by decide +kernel
theorem dX6_castaway_16 : decode cX6_castaway 16 = .ok (.invokestatic 72, 3) := by decide +kernel
theorem dX6_castaway_19 : decode cX6_castaway 19 = .ok (.ifCond .ne 13, 3) := by decide +kernel
theorem dX6_castaway_22 : decode cX6_castaway 22 = .ok (.new 75, 3) := by decide +kernel
theorem dX6_castaway_25 : decode cX6_castaway 25 = .ok (.dup, 1) := by decide +kernel
theorem dX6_castaway_26 : decode cX6_castaway 26 = .ok (.ldc 224, 2) := by decide +kernel
theorem dX6_castaway_28 : decode cX6_castaway 28 = .ok (.invokespecial 79, 3) := by decide +kernel
theorem dX6_castaway_31 : decode cX6_castaway 31 = .ok (.athrow, 1) := by decide +kernel
theorem dX6_castaway_32 : decode cX6_castaway 32 = .ok (.aload_n 0, 1) := by decide +kernel
theorem dX6_castaway_33 : decode cX6_castaway 33 = .ok (.iload_n 1, 1) := by decide +kernel
theorem dX6_castaway_34 : decode cX6_castaway 34 = .ok (.iload_n 2, 1) := by decide +kernel
theorem dX6_castaway_35 : decode cX6_castaway 35 = .ok (.invokevirtual 226, 3) := by decide +kernel
theorem dX6_castaway_38 : decode cX6_castaway 38 = .ok (.ireturn, 1) := by decide +kernel
set_option maxRecDepth 20000 in
theorem ggX6_pass_X3_passHours : GoodIn wsX6_pass wsX3_passHours := goodIn_r _ [10, 11, 12, 13, 14, 15, 16, 17, 18, 19, 20, 21, 22, 23, 24, 25, 26, 27, 28, 29, 30, 31, 32, 9, 33, 34, 35, 36, 37, 38, 39, 40, 41, 42, 43, 44, 45, 46, 47, 48, 49, 50, 51, 52, 53, 54, 55, 56, 57, 58, 59, 60, 61, 62, 63, 64, 65, 66, 67, 68, 69, 70, 71, 72, 73, 74, 75, 76, 77, 78, 79, 80, 81, 82, 83, 84, 85, 86, 87, 88, 89, 90, 91, 92, 93, 94, 95, 96, 97, 98, 99, 100, 101, 102, 103, 104, 105, 106, 107, 108, 109, 110, 111, 112, 113, 114, 115, 116, 117, 118, 119, 120, 121, 122, 123, 124, 125, 126, 127, 128, 129, 130, 131, 132, 133, 134, 135, 136, 137, 138, 139, 140, 141, 142, 143, 144, 145, 146, 147, 148, 149, 150, 151, 152, 153, 154, 155, 156, 157, 158, 159, 160, 161, 162, 163, 164, 165, 166, 167, 168, 169, 170, 171, 172, 173, 174, 175, 176, 177, 178, 179, 180, 181, 187, 188, 189, 190, 191, 192, 193, 194, 195, 196, 197, 198, 199, 200, 201, 202, 203, 204, 205, 206, 207, 208, 209, 210, 211, 212, 213, 214, 215, 216, 217, 218, 219, 220] (by decide +kernel) (by decide +kernel)
set_option maxRecDepth 20000 in
theorem gX6_pass_X3_passHours : GoodIn wsX6_pass (wsV RX6 234 RX3 yX3_passHours wsX3_passHours) := goodIn_app (goodIn_of _ (by decide +kernel)) ggX6_pass_X3_passHours
theorem dX6_pass_0 : decode cX6_pass 0 = .ok (.iload_n 1, 1) := by decide +kernel
theorem dX6_pass_1 : decode cX6_pass 1 = .ok (.iconst 1, 1) := by decide +kernel
theorem dX6_pass_2 : decode cX6_pass 2 = .ok (.if_icmp .lt 9, 3) := by decide +kernel
theorem dX6_pass_5 : decode cX6_pass 5 = .ok (.iload_n 1, 1) := by decide +kernel
theorem dX6_pass_6 : decode cX6_pass 6 = .ok (.bipush 100, 2) := by decide +kernel
theorem dX6_pass_8 : decode cX6_pass 8 = .ok (.if_icmp .le 13, 3) := by decide +kernel
theorem dX6_pass_11 : decode cX6_pass 11 = .ok (.new 41, 3) := by decide +kernel
theorem dX6_pass_14 : decode cX6_pass 14 = .ok (.dup, 1) := by decide +kernel
theorem dX6_pass_15 : decode cX6_pass 15 = .ok (.ldc 229, 2) := by decide +kernel
theorem dX6_pass_17 : decode cX6_pass 17 = .ok (.invokespecial 45, 3) := by decide +kernel
theorem dX6_pass_20 : decode cX6_pass 20 = .ok (.athrow, 1) := by decide +kernel
theorem dX6_pass_21 : decode cX6_pass 21 = .ok (.aload_n 0, 1) := by decide +kernel
theorem dX6_pass_22 : decode cX6_pass 22 = .ok (.getfield 19, 3) := by decide +kernel
theorem dX6_pass_25 : decode cX6_pass 25 = .ok (.getfield 231, 3) := by decide +kernel
theorem dX6_pass_28 : decode cX6_pass 28 = .ok (.istore_n 2, 1) := by decide +kernel
theorem dX6_pass_29 : decode cX6_pass 29 = .ok (.aload_n 0, 1) := by decide +kernel
theorem dX6_pass_30 : decode cX6_pass 30 = .ok (.getfield 19, 3) := by decide +kernel
theorem dX6_pass_33 : decode cX6_pass 33 = .ok (.iload_n 1, 1) := by decide +kernel
theorem dX6_pass_34 : decode cX6_pass 34 = .ok (.aload_n 0, 1) := by decide +kernel
theorem dX6_pass_35 : decode cX6_pass 35 = .ok (.getfield 12, 3) := by decide +kernel
theorem dX6_pass_38 : decode cX6_pass 38 = .ok (.invokevirtual 234, 3) := by decide +kernel
theorem dX6_pass_41 : decode cX6_pass 41 = .ok (.aload_n 0, 1) := by decide +kernel
theorem dX6_pass_42 : decode cX6_pass 42 = .ok (.getfield 19, 3) := by decide +kernel
theorem dX6_pass_45 : decode cX6_pass 45 = .ok (.getfield 231, 3) := by decide +kernel
theorem dX6_pass_48 : decode cX6_pass 48 = .ok (.iload_n 2, 1) := by decide +kernel
theorem dX6_pass_49 : decode cX6_pass 49 = .ok (.isub, 1) := by decide +kernel
theorem dX6_pass_50 : decode cX6_pass 50 = .ok (.ireturn, 1) := by decide +kernel
set_option maxRecDepth 20000 in
theorem ggX6_count_X6_isBelow : GoodIn wsX6_count wsX6_isBelow := goodIn_r _ [6] (by decide +kernel) (by decide +kernel)
set_option maxRecDepth 20000 in
theorem gX6_count_X6_isBelow : GoodIn wsX6_count (va_wsS RX6 72 yX6_isBelow wsX6_isBelow) := goodIn_app (goodIn_of _ (by decide +kernel)) ggX6_count_X6_isBelow
set_option maxRecDepth 20000 in
theorem ggX6_count_X6_countFact : GoodIn wsX6_count wsX6_countFact := goodIn_r _ [10, 11, 12, 13, 14, 15, 16, 17, 18, 19, 20, 21, 22, 23, 24, 25, 26, 27, 28, 29, 30, 31, 32, 33, 34, 35, 36, 37, 38, 39, 40, 41, 42, 43, 44, 45, 46, 47, 48, 49, 50, 51, 52, 53, 54, 55, 56, 57, 58, 59, 60, 61, 62, 63, 64, 65, 66, 67, 68, 69, 70, 71, 72, 73, 74, 75, 76] (by decide +kernel) (by decide +kernel)
set_option maxRecDepth 20000 in
theorem gX6_count_X6_countFact : GoodIn wsX6_count (wsV RX6 240 RX6 yX6_countFact wsX6_countFact) := goodIn_app (goodIn_of _ (by decide +kernel)) ggX6_count_X6_countFact
theorem dX6_count_0 : decode cX6_count 0 = .ok (.iload_n 1, 1) := by decide +kernel
theorem dX6_count_1 : decode cX6_count 1 = .ok (.bipush 12, 2) := by decide +kernel
theorem dX6_count_3 : decode cX6_count 3 = .ok (.invokestatic 72, 3) := by decide +kernel
theorem dX6_count_6 : decode cX6_count 6 = .ok (.ifCond .ne 13, 3) := by decide +kernel
theorem dX6_count_9 : decode cX6_count 9 = .ok (.new 75, 3) := by decide +kernel
theorem dX6_count_12 : decode cX6_count 12 = .ok (.dup, 1) := by decide +kernel
theorem dX6_count_13 : decode cX6_count 13 = .ok (.ldc 238, 2) := by decide +kernel
theorem dX6_count_15 : decode cX6_count 15 = .ok (.invokespecial 79, 3) := by decide +kernel
theorem dX6_count_18 : decode cX6_count 18 = .ok (.athrow, 1) := by decide +kernel
theorem dX6_count_19 : decode cX6_count 19 = .ok (.aload_n 0, 1) := by decide +kernel
theorem dX6_count_20 : decode cX6_count 20 = .ok (.iload_n 1, 1) := by decide +kernel
theorem dX6_count_21 : decode cX6_count 21 = .ok (.invokevirtual 240, 3) := by decide +kernel
theorem dX6_count_24 : decode cX6_count 24 = .ok (.ireturn, 1) := by decide +kernel
set_option maxRecDepth 20000 in
theorem ggX6_firm_X0_has : GoodIn wsX6_firm wsX0_has := goodIn_r _ [11, 12, 62, 63, 64, 65, 66, 67, 68, 69, 70, 71, 72, 73] (by decide +kernel) (by decide +kernel)
set_option maxRecDepth 20000 in
theorem gX6_firm_X0_has : GoodIn wsX6_firm (wsV RX6 124 RX0 yX0_has wsX0_has) := goodIn_app (goodIn_of _ (by decide +kernel)) ggX6_firm_X0_has
set_option maxRecDepth 20000 in
theorem ggX6_firm_X5_countApart : GoodIn wsX6_firm wsX5_countApart := goodIn_r _ [17, 18, 19, 20, 21, 22, 23, 24, 25, 26, 16, 27, 28, 29, 30, 31, 32, 33, 34, 35, 36, 37, 38, 39, 40, 41, 42, 43, 44, 45, 46, 47, 48, 49, 74, 75, 76, 77, 78, 79, 80, 81, 82] (by decide +kernel) (by decide +kernel)
set_option maxRecDepth 20000 in
theorem gX6_firm_X5_countApart : GoodIn wsX6_firm (wsV RX6 243 RX5 yX5_countApart wsX5_countApart) := goodIn_app (goodIn_of _ (by decide +kernel)) ggX6_firm_X5_countApart
theorem dX6_firm_0 : decode cX6_firm 0 = .ok (.aload_n 0, 1) := by decide +kernel
theorem dX6_firm_1 : decode cX6_firm 1 = .ok (.getfield 19, 3) := by decide +kernel
theorem dX6_firm_4 : decode cX6_firm 4 = .ok (.getfield 94, 3) := by decide +kernel
theorem dX6_firm_7 : decode cX6_firm 7 = .ok (.iload_n 1, 1) := by decide +kernel
theorem dX6_firm_8 : decode cX6_firm 8 = .ok (.invokevirtual 124, 3) := by decide +kernel
theorem dX6_firm_11 : decode cX6_firm 11 = .ok (.ifCond .eq 17, 3) := by decide +kernel
theorem dX6_firm_14 : decode cX6_firm 14 = .ok (.aload_n 0, 1) := by decide +kernel
theorem dX6_firm_15 : decode cX6_firm 15 = .ok (.getfield 19, 3) := by decide +kernel
theorem dX6_firm_18 : decode cX6_firm 18 = .ok (.getfield 94, 3) := by decide +kernel
theorem dX6_firm_21 : decode cX6_firm 21 = .ok (.iload_n 2, 1) := by decide +kernel
theorem dX6_firm_22 : decode cX6_firm 22 = .ok (.invokevirtual 124, 3) := by decide +kernel
theorem dX6_firm_25 : decode cX6_firm 25 = .ok (.ifCond .ne 13, 3) := by decide +kernel
theorem dX6_firm_28 : decode cX6_firm 28 = .ok (.new 75, 3) := by decide +kernel
theorem dX6_firm_31 : decode cX6_firm 31 = .ok (.dup, 1) := by decide +kernel
theorem dX6_firm_32 : decode cX6_firm 32 = .ok (.ldc 127, 2) := by decide +kernel
theorem dX6_firm_34 : decode cX6_firm 34 = .ok (.invokespecial 79, 3) := by decide +kernel
theorem dX6_firm_37 : decode cX6_firm 37 = .ok (.athrow, 1) := by decide +kernel
theorem dX6_firm_38 : decode cX6_firm 38 = .ok (.iload_n 1, 1) := by decide +kernel
theorem dX6_firm_39 : decode cX6_firm 39 = .ok (.iload_n 2, 1) := by decide +kernel
theorem dX6_firm_40 : decode cX6_firm 40 = .ok (.if_icmp .ne 7, 3) := by decide +kernel
theorem dX6_firm_43 : decode cX6_firm 43 = .ok (.iconst (-1), 1) := by decide +kernel
theorem dX6_firm_44 : decode cX6_firm 44 = .ok (.goto 19, 3) := by decide +kernel
theorem dX6_firm_47 : decode cX6_firm 47 = .ok (.aload_n 0, 1) := by decide +kernel
theorem dX6_firm_48 : decode cX6_firm 48 = .ok (.getfield 29, 3) := by decide +kernel
theorem dX6_firm_51 : decode cX6_firm 51 = .ok (.aload_n 0, 1) := by decide +kernel
theorem dX6_firm_52 : decode cX6_firm 52 = .ok (.getfield 19, 3) := by decide +kernel
theorem dX6_firm_55 : decode cX6_firm 55 = .ok (.getfield 136, 3) := by decide +kernel
theorem dX6_firm_58 : decode cX6_firm 58 = .ok (.iload_n 1, 1) := by decide +kernel
theorem dX6_firm_59 : decode cX6_firm 59 = .ok (.iload_n 2, 1) := by decide +kernel
theorem dX6_firm_60 : decode cX6_firm 60 = .ok (.invokevirtual 243, 3) := by decide +kernel
theorem dX6_firm_63 : decode cX6_firm 63 = .ok (.ireturn, 1) := by decide +kernel
set_option maxRecDepth 20000 in
theorem ggX6_hold_X0_has : GoodIn wsX6_hold wsX0_has := goodIn_r _ [11, 12, 56, 57, 58, 59, 60, 61, 62, 63, 64, 65, 66, 67] (by decide +kernel) (by decide +kernel)
set_option maxRecDepth 20000 in
theorem gX6_hold_X0_has : GoodIn wsX6_hold (wsV RX6 124 RX0 yX0_has wsX0_has) := goodIn_app (goodIn_of _ (by decide +kernel)) ggX6_hold_X0_has
set_option maxRecDepth 20000 in
theorem ggX6_hold_X5_strongest : GoodIn wsX6_hold wsX5_strongest := goodIn_r _ [17, 18, 19, 20, 21, 22, 23, 24, 25, 16, 26, 27, 28, 29, 30, 31, 32, 33, 34, 35, 36, 37, 38, 39, 40, 41, 42, 43, 68, 69, 70, 71, 72, 73, 74, 75, 76] (by decide +kernel) (by decide +kernel)
set_option maxRecDepth 20000 in
theorem gX6_hold_X5_strongest : GoodIn wsX6_hold (wsV RX6 247 RX5 yX5_strongest wsX5_strongest) := goodIn_app (goodIn_of _ (by decide +kernel)) ggX6_hold_X5_strongest
theorem dX6_hold_0 : decode cX6_hold 0 = .ok (.aload_n 0, 1) := by decide +kernel
theorem dX6_hold_1 : decode cX6_hold 1 = .ok (.getfield 19, 3) := by decide +kernel
theorem dX6_hold_4 : decode cX6_hold 4 = .ok (.getfield 94, 3) := by decide +kernel
theorem dX6_hold_7 : decode cX6_hold 7 = .ok (.iload_n 1, 1) := by decide +kernel
theorem dX6_hold_8 : decode cX6_hold 8 = .ok (.invokevirtual 124, 3) := by decide +kernel
theorem dX6_hold_11 : decode cX6_hold 11 = .ok (.ifCond .eq 17, 3) := by decide +kernel
theorem dX6_hold_14 : decode cX6_hold 14 = .ok (.aload_n 0, 1) := by decide +kernel
theorem dX6_hold_15 : decode cX6_hold 15 = .ok (.getfield 19, 3) := by decide +kernel
theorem dX6_hold_18 : decode cX6_hold 18 = .ok (.getfield 94, 3) := by decide +kernel
theorem dX6_hold_21 : decode cX6_hold 21 = .ok (.iload_n 2, 1) := by decide +kernel
theorem dX6_hold_22 : decode cX6_hold 22 = .ok (.invokevirtual 124, 3) := by decide +kernel
theorem dX6_hold_25 : decode cX6_hold 25 = .ok (.ifCond .ne 13, 3) := by decide +kernel
theorem dX6_hold_28 : decode cX6_hold 28 = .ok (.new 75, 3) := by decide +kernel
theorem dX6_hold_31 : decode cX6_hold 31 = .ok (.dup, 1) := by decide +kernel
theorem dX6_hold_32 : decode cX6_hold 32 = .ok (.ldc 127, 2) := by decide +kernel
theorem dX6_hold_34 : decode cX6_hold 34 = .ok (.invokespecial 79, 3) := by decide +kernel
theorem dX6_hold_37 : decode cX6_hold 37 = .ok (.athrow, 1) := by decide +kernel
theorem dX6_hold_38 : decode cX6_hold 38 = .ok (.iload_n 1, 1) := by decide +kernel
theorem dX6_hold_39 : decode cX6_hold 39 = .ok (.iload_n 2, 1) := by decide +kernel
theorem dX6_hold_40 : decode cX6_hold 40 = .ok (.if_icmp .ne 7, 3) := by decide +kernel
theorem dX6_hold_43 : decode cX6_hold 43 = .ok (.iconst 0, 1) := by decide +kernel
theorem dX6_hold_44 : decode cX6_hold 44 = .ok (.goto 19, 3) := by decide +kernel
theorem dX6_hold_47 : decode cX6_hold 47 = .ok (.aload_n 0, 1) := by decide +kernel
theorem dX6_hold_48 : decode cX6_hold 48 = .ok (.getfield 29, 3) := by decide +kernel
theorem dX6_hold_51 : decode cX6_hold 51 = .ok (.aload_n 0, 1) := by decide +kernel
theorem dX6_hold_52 : decode cX6_hold 52 = .ok (.getfield 19, 3) := by decide +kernel
theorem dX6_hold_55 : decode cX6_hold 55 = .ok (.getfield 136, 3) := by decide +kernel
theorem dX6_hold_58 : decode cX6_hold 58 = .ok (.iload_n 1, 1) := by decide +kernel
theorem dX6_hold_59 : decode cX6_hold 59 = .ok (.iload_n 2, 1) := by decide +kernel
theorem dX6_hold_60 : decode cX6_hold 60 = .ok (.invokevirtual 247, 3) := by decide +kernel
theorem dX6_hold_63 : decode cX6_hold 63 = .ok (.ireturn, 1) := by decide +kernel
set_option maxRecDepth 20000 in
theorem ggX6_piece_X0_has : GoodIn wsX6_piece wsX0_has := goodIn_r _ [10, 11, 92, 93, 94, 95, 96, 97, 98, 99, 100, 101, 102, 103] (by decide +kernel) (by decide +kernel)
set_option maxRecDepth 20000 in
theorem gX6_piece_X0_has : GoodIn wsX6_piece (wsV RX6 124 RX0 yX0_has wsX0_has) := goodIn_app (goodIn_of _ (by decide +kernel)) ggX6_piece_X0_has
set_option maxRecDepth 20000 in
theorem ggX6_piece_X6_isBelow : GoodIn wsX6_piece wsX6_isBelow := goodIn_r _ [15] (by decide +kernel) (by decide +kernel)
set_option maxRecDepth 20000 in
theorem gX6_piece_X6_isBelow : GoodIn wsX6_piece (va_wsS RX6 72 yX6_isBelow wsX6_isBelow) := goodIn_app (goodIn_of _ (by decide +kernel)) ggX6_piece_X6_isBelow
set_option maxRecDepth 20000 in
theorem ggX6_piece_X6_singleLashings : GoodIn wsX6_piece wsX6_singleLashings := goodIn_r _ [19, 3, 20, 21, 22, 4, 5, 23, 24, 25, 26, 27, 28, 29, 30, 31, 32, 33, 34, 35, 36, 37, 38, 39, 40, 41, 42, 43, 44, 45, 46, 47, 48, 49, 50, 51, 52, 53, 54, 55, 56, 57, 58, 59, 60, 61, 80, 81, 82, 83, 84, 85, 86, 87, 88, 89, 90, 91, 104, 105, 106, 107, 108, 92, 93, 94, 95, 96, 97, 98, 99, 100, 101, 102, 103, 109, 110, 111, 112] (by decide +kernel) (by decide +kernel)
set_option maxRecDepth 20000 in
theorem gX6_piece_X6_singleLashings : GoodIn wsX6_piece (wsV RX6 253 RX6 yX6_singleLashings wsX6_singleLashings) := goodIn_app (goodIn_of _ (by decide +kernel)) ggX6_piece_X6_singleLashings
set_option maxRecDepth 20000 in
theorem ggX6_piece_X6_pieceSum : GoodIn wsX6_piece wsX6_pieceSum := goodIn_r _ [65, 3, 4, 66, 5, 67, 68, 69, 70, 9, 71, 72, 73, 74, 75, 76, 77, 78, 79, 80, 81, 82, 83, 84, 85, 86, 87, 88, 89, 90, 91, 92, 93, 94, 95, 96, 97, 98, 99, 100, 101, 102, 103] (by decide +kernel) (by decide +kernel)
set_option maxRecDepth 20000 in
theorem gX6_piece_X6_pieceSum : GoodIn wsX6_piece (wsV RX6 256 RX6 yX6_pieceSum wsX6_pieceSum) := goodIn_app (goodIn_of _ (by decide +kernel)) ggX6_piece_X6_pieceSum
theorem dX6_piece_0 : decode cX6_piece 0 = .ok (.aload_n 0, 1) := by decide +kernel
theorem dX6_piece_1 : decode cX6_piece 1 = .ok (.getfield 19, 3) := by decide +kernel
theorem dX6_piece_4 : decode cX6_piece 4 = .ok (.getfield 94, 3) := by decide +kernel
theorem dX6_piece_7 : decode cX6_piece 7 = .ok (.iload_n 1, 1) := by decide +kernel
theorem dX6_piece_8 : decode cX6_piece 8 = .ok (.invokevirtual 124, 3) := by decide +kernel
theorem dX6_piece_11 : decode cX6_piece 11 = .ok (.ifCond .eq 11, 3) := by decide +kernel
theorem dX6_piece_14 : decode cX6_piece 14 = .ok (.iload_n 2, 1) := by decide +kernel
theorem dX6_piece_15 : decode cX6_piece 15 = .ok (.iconst 5, 1) := by decide +kernel
theorem dX6_piece_16 : decode cX6_piece 16 = .ok (.invokestatic 72, 3) := by decide +kernel
theorem dX6_piece_19 : decode cX6_piece 19 = .ok (.ifCond .ne 13, 3) := by decide +kernel
theorem dX6_piece_22 : decode cX6_piece 22 = .ok (.new 75, 3) := by decide +kernel
theorem dX6_piece_25 : decode cX6_piece 25 = .ok (.dup, 1) := by decide +kernel
theorem dX6_piece_26 : decode cX6_piece 26 = .ok (.ldc 180, 2) := by decide +kernel
theorem dX6_piece_28 : decode cX6_piece 28 = .ok (.invokespecial 79, 3) := by decide +kernel
theorem dX6_piece_31 : decode cX6_piece 31 = .ok (.athrow, 1) := by decide +kernel
theorem dX6_piece_32 : decode cX6_piece 32 = .ok (.aload_n 0, 1) := by decide +kernel
theorem dX6_piece_33 : decode cX6_piece 33 = .ok (.getfield 19, 3) := by decide +kernel
theorem dX6_piece_36 : decode cX6_piece 36 = .ok (.getfield 94, 3) := by decide +kernel
theorem dX6_piece_39 : decode cX6_piece 39 = .ok (.getfield 250, 3) := by decide +kernel
theorem dX6_piece_42 : decode cX6_piece 42 = .ok (.iload_n 1, 1) := by decide +kernel
theorem dX6_piece_43 : decode cX6_piece 43 = .ok (.iaload, 1) := by decide +kernel
theorem dX6_piece_44 : decode cX6_piece 44 = .ok (.istore_n 3, 1) := by decide +kernel
theorem dX6_piece_45 : decode cX6_piece 45 = .ok (.iload_n 3, 1) := by decide +kernel
theorem dX6_piece_46 : decode cX6_piece 46 = .ok (.ifCond .ge 5, 3) := by decide +kernel
theorem dX6_piece_49 : decode cX6_piece 49 = .ok (.iconst 0, 1) := by decide +kernel
theorem dX6_piece_50 : decode cX6_piece 50 = .ok (.ireturn, 1) := by decide +kernel
theorem dX6_piece_51 : decode cX6_piece 51 = .ok (.iload_n 2, 1) := by decide +kernel
theorem dX6_piece_52 : decode cX6_piece 52 = .ok (.iconst 4, 1) := by decide +kernel
theorem dX6_piece_53 : decode cX6_piece 53 = .ok (.if_icmp .ne 11, 3) := by decide +kernel
theorem dX6_piece_56 : decode cX6_piece 56 = .ok (.aload_n 0, 1) := by decide +kernel
theorem dX6_piece_57 : decode cX6_piece 57 = .ok (.iload_n 3, 1) := by decide +kernel
theorem dX6_piece_58 : decode cX6_piece 58 = .ok (.invokevirtual 253, 3) := by decide +kernel
theorem dX6_piece_61 : decode cX6_piece 61 = .ok (.goto 9, 3) := by decide +kernel
theorem dX6_piece_64 : decode cX6_piece 64 = .ok (.aload_n 0, 1) := by decide +kernel
theorem dX6_piece_65 : decode cX6_piece 65 = .ok (.iload_n 3, 1) := by decide +kernel
theorem dX6_piece_66 : decode cX6_piece 66 = .ok (.iload_n 2, 1) := by decide +kernel
theorem dX6_piece_67 : decode cX6_piece 67 = .ok (.invokevirtual 256, 3) := by decide +kernel
theorem dX6_piece_70 : decode cX6_piece 70 = .ok (.ireturn, 1) := by decide +kernel
set_option maxRecDepth 20000 in
theorem ggX6_foresee_X6_isBelow : GoodIn wsX6_foresee wsX6_isBelow := goodIn_r _ [15] (by decide +kernel) (by decide +kernel)
set_option maxRecDepth 20000 in
theorem gX6_foresee_X6_isBelow : GoodIn wsX6_foresee (va_wsS RX6 72 yX6_isBelow wsX6_isBelow) := goodIn_app (goodIn_of _ (by decide +kernel)) ggX6_foresee_X6_isBelow
set_option maxRecDepth 20000 in
theorem ggX6_foresee_X3_copyFrom : GoodIn wsX6_foresee wsX3_copyFrom := goodIn_r _ [20, 21, 22, 23, 24, 25, 26, 27, 28, 29, 30, 31, 32, 33, 34, 35, 36, 37, 38, 39, 40, 41, 42, 43, 44, 45, 46, 47, 48, 49, 50, 51, 52, 53, 54, 55, 56, 57, 58, 59, 60, 61, 62, 63, 64, 65, 66, 234, 235, 236, 237, 238, 239, 240, 246, 247, 248, 249, 250, 251, 252, 253, 254, 255, 256, 257, 258, 259, 260, 241, 242, 243, 244, 245] (by decide +kernel) (by decide +kernel)
set_option maxRecDepth 20000 in
theorem gX6_foresee_X3_copyFrom : GoodIn wsX6_foresee (wsV RX6 259 RX3 yX3_copyFrom wsX3_copyFrom) := goodIn_app (goodIn_of _ (by decide +kernel)) ggX6_foresee_X3_copyFrom
set_option maxRecDepth 20000 in
theorem ggX6_foresee_X3_passHours : GoodIn wsX6_foresee wsX3_passHours := goodIn_r _ [70, 21, 24, 71, 72, 73, 29, 74, 46, 42, 75, 76, 77, 78, 39, 38, 79, 80, 81, 82, 83, 84, 85, 19, 86, 87, 88, 89, 90, 91, 92, 93, 94, 95, 96, 97, 98, 37, 99, 100, 101, 102, 40, 41, 103, 104, 105, 106, 45, 107, 108, 109, 110, 22, 23, 111, 112, 113, 114, 115, 50, 116, 55, 52, 117, 54, 118, 119, 120, 121, 122, 123, 124, 125, 126, 127, 128, 129, 59, 130, 64, 131, 132, 133, 134, 66, 135, 136, 137, 138, 61, 63, 65, 139, 140, 141, 142, 143, 25, 144, 145, 146, 147, 148, 149, 150, 151, 152, 153, 154, 155, 156, 157, 158, 159, 160, 14, 161, 162, 163, 164, 165, 166, 167, 168, 169, 170, 171, 172, 173, 174, 175, 176, 177, 178, 179, 180, 181, 182, 183, 184, 185, 186, 187, 188, 189, 190, 191, 192, 193, 194, 195, 196, 197, 198, 199, 200, 201, 202, 203, 204, 205, 206, 207, 208, 209, 210, 211, 212, 213, 214, 215, 216, 234, 235, 236, 237, 238, 239, 240, 246, 247, 248, 249, 250, 251, 252, 253, 254, 255, 256, 257, 241, 242, 243, 244, 245, 258, 259, 260, 261, 262, 263, 264, 265, 266, 267] (by decide +kernel) (by decide +kernel)
set_option maxRecDepth 20000 in
theorem gX6_foresee_X3_passHours : GoodIn wsX6_foresee (wsV RX6 234 RX3 yX3_passHours wsX3_passHours) := goodIn_app (goodIn_of _ (by decide +kernel)) ggX6_foresee_X3_passHours
set_option maxRecDepth 20000 in
theorem ggX6_foresee_X0_countOf : GoodIn wsX6_foresee wsX0_countOf := goodIn_r _ [220, 46, 42, 246, 247, 248, 249, 250, 251, 252, 253, 254, 255, 256, 257] (by decide +kernel) (by decide +kernel)
set_option maxRecDepth 20000 in
theorem gX6_foresee_X0_countOf : GoodIn wsX6_foresee (wsV RX6 263 RX0 yX0_countOf wsX0_countOf) := goodIn_app (goodIn_of _ (by decide +kernel)) ggX6_foresee_X0_countOf
set_option maxRecDepth 20000 in
theorem ggX6_foresee_X1_countOf : GoodIn wsX6_foresee wsX1_countOf := goodIn_r _ [224, 55, 54, 258, 259, 260] (by decide +kernel) (by decide +kernel)
set_option maxRecDepth 20000 in
theorem gX6_foresee_X1_countOf : GoodIn wsX6_foresee (wsV RX6 266 RX1 yX1_countOf wsX1_countOf) := goodIn_app (goodIn_of _ (by decide +kernel)) ggX6_foresee_X1_countOf
set_option maxRecDepth 20000 in
theorem ggX6_foresee_X0_pieces : GoodIn wsX6_foresee wsX0_pieces := goodIn_r _ [228, 46, 45, 246, 247, 248, 249, 250, 251, 252, 253, 254, 255, 256, 257] (by decide +kernel) (by decide +kernel)
set_option maxRecDepth 20000 in
theorem gX6_foresee_X0_pieces : GoodIn wsX6_foresee (wsV RX6 267 RX0 yX0_pieces wsX0_pieces) := goodIn_app (goodIn_of _ (by decide +kernel)) ggX6_foresee_X0_pieces
theorem dX6_foresee_0 : decode cX6_foresee 0 = .ok (.iload_n 1, 1) := by decide +kernel
theorem dX6_foresee_1 : decode cX6_foresee 1 = .ok (.iconst 1, 1) := by decide +kernel
theorem dX6_foresee_2 : decode cX6_foresee 2 = .ok (.if_icmp .lt 9, 3) := by decide +kernel
theorem dX6_foresee_5 : decode cX6_foresee 5 = .ok (.iload_n 1, 1) := by decide +kernel
theorem dX6_foresee_6 : decode cX6_foresee 6 = .ok (.bipush 100, 2) := by decide +kernel
theorem dX6_foresee_8 : decode cX6_foresee 8 = .ok (.if_icmp .le 13, 3) := by decide +kernel
theorem dX6_foresee_11 : decode cX6_foresee 11 = .ok (.new 41, 3) := by decide +kernel
theorem dX6_foresee_14 : decode cX6_foresee 14 = .ok (.dup, 1) := by decide +kernel
theorem dX6_foresee_15 : decode cX6_foresee 15 = .ok (.ldc 229, 2) := by decide +kernel
theorem dX6_foresee_17 : decode cX6_foresee 17 = .ok (.invokespecial 45, 3) := by decide +kernel
theorem dX6_foresee_20 : decode cX6_foresee 20 = .ok (.athrow, 1) := by decide +kernel
theorem dX6_foresee_21 : decode cX6_foresee 21 = .ok (.iload_n 2, 1) := by decide +kernel
theorem dX6_foresee_22 : decode cX6_foresee 22 = .ok (.iconst 4, 1) := by decide +kernel
theorem dX6_foresee_23 : decode cX6_foresee 23 = .ok (.invokestatic 72, 3) := by decide +kernel
theorem dX6_foresee_26 : decode cX6_foresee 26 = .ok (.ifCond .ne 13, 3) := by decide +kernel
theorem dX6_foresee_29 : decode cX6_foresee 29 = .ok (.new 75, 3) := by decide +kernel
theorem dX6_foresee_32 : decode cX6_foresee 32 = .ok (.dup, 1) := by decide +kernel
theorem dX6_foresee_33 : decode cX6_foresee 33 = .ok (.ldc 238, 2) := by decide +kernel
theorem dX6_foresee_35 : decode cX6_foresee 35 = .ok (.invokespecial 79, 3) := by decide +kernel
theorem dX6_foresee_38 : decode cX6_foresee 38 = .ok (.athrow, 1) := by decide +kernel
theorem dX6_foresee_39 : decode cX6_foresee 39 = .ok (.aload_n 0, 1) := by decide +kernel
theorem dX6_foresee_40 : decode cX6_foresee 40 = .ok (.getfield 23, 3) := by decide +kernel
theorem dX6_foresee_43 : decode cX6_foresee 43 = .ok (.aload_n 0, 1) := by decide +kernel
theorem dX6_foresee_44 : decode cX6_foresee 44 = .ok (.getfield 19, 3) := by decide +kernel
theorem dX6_foresee_47 : decode cX6_foresee 47 = .ok (.invokevirtual 259, 3) := by decide +kernel
theorem dX6_foresee_50 : decode cX6_foresee 50 = .ok (.aload_n 0, 1) := by decide +kernel
theorem dX6_foresee_51 : decode cX6_foresee 51 = .ok (.getfield 23, 3) := by decide +kernel
theorem dX6_foresee_54 : decode cX6_foresee 54 = .ok (.iload_n 1, 1) := by decide +kernel
theorem dX6_foresee_55 : decode cX6_foresee 55 = .ok (.aload_n 0, 1) := by decide +kernel
theorem dX6_foresee_56 : decode cX6_foresee 56 = .ok (.getfield 12, 3) := by decide +kernel
theorem dX6_foresee_59 : decode cX6_foresee 59 = .ok (.invokevirtual 234, 3) := by decide +kernel
theorem dX6_foresee_62 : decode cX6_foresee 62 = .ok (.iload_n 2, 1) := by decide +kernel
theorem dX6_foresee_63 : decode cX6_foresee 63 = .ok (.tableswitch 60 0 2 #[25, 37, 49], 25) := by decide +kernel
theorem dX6_foresee_88 : decode cX6_foresee 88 = .ok (.aload_n 0, 1) := by decide +kernel
theorem dX6_foresee_89 : decode cX6_foresee 89 = .ok (.getfield 23, 3) := by decide +kernel
theorem dX6_foresee_92 : decode cX6_foresee 92 = .ok (.getfield 94, 3) := by decide +kernel
theorem dX6_foresee_95 : decode cX6_foresee 95 = .ok (.iconst 0, 1) := by decide +kernel
theorem dX6_foresee_96 : decode cX6_foresee 96 = .ok (.invokevirtual 263, 3) := by decide +kernel
theorem dX6_foresee_99 : decode cX6_foresee 99 = .ok (.ireturn, 1) := by decide +kernel
theorem dX6_foresee_100 : decode cX6_foresee 100 = .ok (.aload_n 0, 1) := by decide +kernel
theorem dX6_foresee_101 : decode cX6_foresee 101 = .ok (.getfield 23, 3) := by decide +kernel
theorem dX6_foresee_104 : decode cX6_foresee 104 = .ok (.getfield 195, 3) := by decide +kernel
theorem dX6_foresee_107 : decode cX6_foresee 107 = .ok (.iconst 2, 1) := by decide +kernel
theorem dX6_foresee_108 : decode cX6_foresee 108 = .ok (.invokevirtual 266, 3) := by decide +kernel
theorem dX6_foresee_111 : decode cX6_foresee 111 = .ok (.ireturn, 1) := by decide +kernel
theorem dX6_foresee_112 : decode cX6_foresee 112 = .ok (.aload_n 0, 1) := by decide +kernel
theorem dX6_foresee_113 : decode cX6_foresee 113 = .ok (.getfield 23, 3) := by decide +kernel
theorem dX6_foresee_116 : decode cX6_foresee 116 = .ok (.getfield 94, 3) := by decide +kernel
theorem dX6_foresee_119 : decode cX6_foresee 119 = .ok (.invokevirtual 267, 3) := by decide +kernel
theorem dX6_foresee_122 : decode cX6_foresee 122 = .ok (.ireturn, 1) := by decide +kernel
theorem dX6_foresee_123 : decode cX6_foresee 123 = .ok (.aload_n 0, 1) := by decide +kernel
theorem dX6_foresee_124 : decode cX6_foresee 124 = .ok (.getfield 23, 3) := by decide +kernel
theorem dX6_foresee_127 : decode cX6_foresee 127 = .ok (.getfield 136, 3) := by decide +kernel
theorem dX6_foresee_130 : decode cX6_foresee 130 = .ok (.getfield 271, 3) := by decide +kernel
theorem dX6_foresee_133 : decode cX6_foresee 133 = .ok (.ireturn, 1) := by decide +kernel
set_option maxRecDepth 20000 in
theorem ggX6_advise_X6_savedWith : GoodIn wsX6_advise wsX6_savedWith := goodIn_r _ [14, 15, 3, 6, 7, 16, 4, 17, 18, 19, 20, 21, 22, 23, 24, 25, 26, 27, 28, 29, 30, 31, 32, 33, 34, 35, 36, 37, 38, 39, 40, 41, 42, 43, 44, 45, 46, 47, 48, 49, 50, 51, 52, 53, 54, 55, 56, 57, 58, 59, 60, 61, 62, 63, 64, 65, 66, 67, 68, 69, 70, 71, 72, 73, 74, 75, 76, 77, 78, 79, 80, 81, 82, 83, 84, 85, 86, 87, 88, 89, 90, 91, 92, 93, 94, 95, 96, 97, 98, 99, 100, 101, 102, 103, 104, 105, 106, 107, 108, 109, 110, 111, 112, 113, 114, 115, 116, 117, 118, 119, 120, 121, 122, 123, 124, 125, 126, 127, 128, 129, 130, 131, 132, 133, 134, 135, 136, 137, 138, 139, 140, 141, 142, 143, 144, 145, 146, 147, 148, 149, 150, 151, 152, 153, 154, 155, 156, 157, 158, 159, 160, 161, 162, 163, 164, 165, 13, 166, 167, 168, 169, 170, 171, 172, 173, 174, 175, 176, 177, 178, 179, 180, 181, 182, 183, 184, 185, 186, 187, 188, 189, 190, 191, 192, 193, 194, 195, 196, 197, 198, 199, 200, 201, 202, 203, 204, 205, 206, 207, 208, 209, 210, 211, 212, 213, 214, 215, 216, 217, 218, 219, 220, 221, 222, 223, 224, 225, 226, 227, 228, 229, 230, 231, 232, 233, 234, 235, 236, 237, 241, 242, 243, 244, 245, 246, 247, 248, 249, 250, 251, 252, 253, 254, 255, 256, 257, 238, 239, 240, 258, 259, 260, 261, 262, 263, 264] (by decide +kernel) (by decide +kernel)
set_option maxRecDepth 20000 in
theorem gX6_advise_X6_savedWith : GoodIn wsX6_advise (wsV RX6 272 RX6 yX6_savedWith wsX6_savedWith) := goodIn_app (goodIn_of _ (by decide +kernel)) ggX6_advise_X6_savedWith
set_option maxRecDepth 20000 in
theorem ggX6_advise_X1_countOf : GoodIn wsX6_advise wsX1_countOf := goodIn_r _ [225, 56, 55, 238, 239, 240] (by decide +kernel) (by decide +kernel)
set_option maxRecDepth 20000 in
theorem gX6_advise_X1_countOf : GoodIn wsX6_advise (wsV RX6 266 RX1 yX1_countOf wsX1_countOf) := goodIn_app (goodIn_of _ (by decide +kernel)) ggX6_advise_X1_countOf
theorem dX6_advise_0 : decode cX6_advise 0 = .ok (.iload_n 1, 1) := by decide +kernel
theorem dX6_advise_1 : decode cX6_advise 1 = .ok (.iconst 1, 1) := by decide +kernel
theorem dX6_advise_2 : decode cX6_advise 2 = .ok (.if_icmp .lt 9, 3) := by decide +kernel
theorem dX6_advise_5 : decode cX6_advise 5 = .ok (.iload_n 1, 1) := by decide +kernel
theorem dX6_advise_6 : decode cX6_advise 6 = .ok (.bipush 50, 2) := by decide +kernel
theorem dX6_advise_8 : decode cX6_advise 8 = .ok (.if_icmp .le 13, 3) := by decide +kernel
theorem dX6_advise_11 : decode cX6_advise 11 = .ok (.new 41, 3) := by decide +kernel
theorem dX6_advise_14 : decode cX6_advise 14 = .ok (.dup, 1) := by decide +kernel
theorem dX6_advise_15 : decode cX6_advise 15 = .ok (.ldc 229, 2) := by decide +kernel
theorem dX6_advise_17 : decode cX6_advise 17 = .ok (.invokespecial 45, 3) := by decide +kernel
theorem dX6_advise_20 : decode cX6_advise 20 = .ok (.athrow, 1) := by decide +kernel
theorem dX6_advise_21 : decode cX6_advise 21 = .ok (.aload_n 0, 1) := by decide +kernel
theorem dX6_advise_22 : decode cX6_advise 22 = .ok (.iconst (-1), 1) := by decide +kernel
theorem dX6_advise_23 : decode cX6_advise 23 = .ok (.iload_n 1, 1) := by decide +kernel
theorem dX6_advise_24 : decode cX6_advise 24 = .ok (.invokevirtual 272, 3) := by decide +kernel
theorem dX6_advise_27 : decode cX6_advise 27 = .ok (.istore_n 2, 1) := by decide +kernel
theorem dX6_advise_28 : decode cX6_advise 28 = .ok (.iconst (-1), 1) := by decide +kernel
theorem dX6_advise_29 : decode cX6_advise 29 = .ok (.istore_n 3, 1) := by decide +kernel
theorem dX6_advise_30 : decode cX6_advise 30 = .ok (.aload_n 0, 1) := by decide +kernel
theorem dX6_advise_31 : decode cX6_advise 31 = .ok (.getfield 19, 3) := by decide +kernel
theorem dX6_advise_34 : decode cX6_advise 34 = .ok (.getfield 195, 3) := by decide +kernel
theorem dX6_advise_37 : decode cX6_advise 37 = .ok (.getfield 199, 3) := by decide +kernel
theorem dX6_advise_40 : decode cX6_advise 40 = .ok (.aload_n 0, 1) := by decide +kernel
theorem dX6_advise_41 : decode cX6_advise 41 = .ok (.getfield 19, 3) := by decide +kernel
theorem dX6_advise_44 : decode cX6_advise 44 = .ok (.getfield 195, 3) := by decide +kernel
theorem dX6_advise_47 : decode cX6_advise 47 = .ok (.iconst 1, 1) := by decide +kernel
theorem dX6_advise_48 : decode cX6_advise 48 = .ok (.invokevirtual 266, 3) := by decide +kernel
theorem dX6_advise_51 : decode cX6_advise 51 = .ok (.isub, 1) := by decide +kernel
theorem dX6_advise_52 : decode cX6_advise 52 = .ok (.istore 4, 2) := by decide +kernel
theorem dX6_advise_54 : decode cX6_advise 54 = .ok (.iconst 0, 1) := by decide +kernel
theorem dX6_advise_55 : decode cX6_advise 55 = .ok (.istore 5, 2) := by decide +kernel
theorem dX6_advise_57 : decode cX6_advise 57 = .ok (.iload 5, 2) := by decide +kernel
theorem dX6_advise_59 : decode cX6_advise 59 = .ok (.aload_n 0, 1) := by decide +kernel
theorem dX6_advise_60 : decode cX6_advise 60 = .ok (.getfield 19, 3) := by decide +kernel
theorem dX6_advise_63 : decode cX6_advise 63 = .ok (.getfield 136, 3) := by decide +kernel
theorem dX6_advise_66 : decode cX6_advise 66 = .ok (.getfield 271, 3) := by decide +kernel
theorem dX6_advise_69 : decode cX6_advise 69 = .ok (.if_icmp .ge 64, 3) := by decide +kernel
theorem dX6_advise_72 : decode cX6_advise 72 = .ok (.iload_n 2, 1) := by decide +kernel
theorem dX6_advise_73 : decode cX6_advise 73 = .ok (.iload 4, 2) := by decide +kernel
theorem dX6_advise_75 : decode cX6_advise 75 = .ok (.if_icmp .ge 58, 3) := by decide +kernel
theorem dX6_advise_78 : decode cX6_advise 78 = .ok (.aload_n 0, 1) := by decide +kernel
theorem dX6_advise_79 : decode cX6_advise 79 = .ok (.iload 5, 2) := by decide +kernel
theorem dX6_advise_81 : decode cX6_advise 81 = .ok (.iload_n 1, 1) := by decide +kernel
theorem dX6_advise_82 : decode cX6_advise 82 = .ok (.invokevirtual 272, 3) := by decide +kernel
theorem dX6_advise_85 : decode cX6_advise 85 = .ok (.istore 6, 2) := by decide +kernel
theorem dX6_advise_87 : decode cX6_advise 87 = .ok (.iload 6, 2) := by decide +kernel
theorem dX6_advise_89 : decode cX6_advise 89 = .ok (.iload_n 2, 1) := by decide +kernel
theorem dX6_advise_90 : decode cX6_advise 90 = .ok (.if_icmp .le 37, 3) := by decide +kernel
theorem dX6_advise_93 : decode cX6_advise 93 = .ok (.iload 6, 2) := by decide +kernel
theorem dX6_advise_95 : decode cX6_advise 95 = .ok (.istore_n 2, 1) := by decide +kernel
theorem dX6_advise_96 : decode cX6_advise 96 = .ok (.bipush 24, 2) := by decide +kernel
theorem dX6_advise_98 : decode cX6_advise 98 = .ok (.aload_n 0, 1) := by decide +kernel
theorem dX6_advise_99 : decode cX6_advise 99 = .ok (.getfield 19, 3) := by decide +kernel
theorem dX6_advise_102 : decode cX6_advise 102 = .ok (.getfield 136, 3) := by decide +kernel
theorem dX6_advise_105 : decode cX6_advise 105 = .ok (.getfield 275, 3) := by decide +kernel
theorem dX6_advise_108 : decode cX6_advise 108 = .ok (.iload 5, 2) := by decide +kernel
theorem dX6_advise_110 : decode cX6_advise 110 = .ok (.iaload, 1) := by decide +kernel
theorem dX6_advise_111 : decode cX6_advise 111 = .ok (.imul, 1) := by decide +kernel
theorem dX6_advise_112 : decode cX6_advise 112 = .ok (.aload_n 0, 1) := by decide +kernel
theorem dX6_advise_113 : decode cX6_advise 113 = .ok (.getfield 19, 3) := by decide +kernel
theorem dX6_advise_116 : decode cX6_advise 116 = .ok (.getfield 136, 3) := by decide +kernel
theorem dX6_advise_119 : decode cX6_advise 119 = .ok (.getfield 278, 3) := by decide +kernel
theorem dX6_advise_122 : decode cX6_advise 122 = .ok (.iload 5, 2) := by decide +kernel
theorem dX6_advise_124 : decode cX6_advise 124 = .ok (.iaload, 1) := by decide +kernel
theorem dX6_advise_125 : decode cX6_advise 125 = .ok (.iadd, 1) := by decide +kernel
theorem dX6_advise_126 : decode cX6_advise 126 = .ok (.istore_n 3, 1) := by decide +kernel
theorem dX6_advise_127 : decode cX6_advise 127 = .ok (.iinc 5 1, 3) := by decide +kernel
theorem dX6_advise_130 : decode cX6_advise 130 = .ok (.goto (-73), 3) := by decide +kernel
theorem dX6_advise_133 : decode cX6_advise 133 = .ok (.iload_n 3, 1) := by decide +kernel
theorem dX6_advise_134 : decode cX6_advise 134 = .ok (.ireturn, 1) := by decide +kernel
set_option maxRecDepth 20000 in
theorem ggX6_spare_X0_countOf : GoodIn wsX6_spare wsX0_countOf := goodIn_r _ [8, 9, 10, 43, 44, 45, 46, 47, 48, 49, 50, 51, 52, 53, 54] (by decide +kernel) (by decide +kernel)
set_option maxRecDepth 20000 in
theorem gX6_spare_X0_countOf : GoodIn wsX6_spare (wsV RX6 263 RX0 yX0_countOf wsX0_countOf) := goodIn_app (goodIn_of _ (by decide +kernel)) ggX6_spare_X0_countOf
set_option maxRecDepth 20000 in
theorem ggX6_spare_X0_floats : GoodIn wsX6_spare wsX0_floats := goodIn_r _ [14, 10, 15, 16, 17, 7, 18, 9, 43, 44, 45, 46, 47, 48, 49, 50, 51, 52, 53, 54] (by decide +kernel) (by decide +kernel)
set_option maxRecDepth 20000 in
theorem gX6_spare_X0_floats : GoodIn wsX6_spare (wsV RX6 171 RX0 yX0_floats wsX0_floats) := goodIn_app (goodIn_of _ (by decide +kernel)) ggX6_spare_X0_floats
set_option maxRecDepth 20000 in
theorem ggX6_spare_X0_liftNow : GoodIn wsX6_spare wsX0_liftNow := goodIn_r _ [22, 23, 24, 43, 44, 45, 46, 47, 48, 49, 50, 51, 52, 53, 54] (by decide +kernel) (by decide +kernel)
set_option maxRecDepth 20000 in
theorem gX6_spare_X0_liftNow : GoodIn wsX6_spare (wsV RX6 281 RX0 yX0_liftNow wsX0_liftNow) := goodIn_app (goodIn_of _ (by decide +kernel)) ggX6_spare_X0_liftNow
set_option maxRecDepth 20000 in
theorem ggX6_spare_X0_loadOf : GoodIn wsX6_spare wsX0_loadOf := goodIn_r _ [28, 29, 30, 43, 44, 45, 46, 47, 48, 49, 50, 51, 52, 53, 54] (by decide +kernel) (by decide +kernel)
set_option maxRecDepth 20000 in
theorem gX6_spare_X0_loadOf : GoodIn wsX6_spare (wsV RX6 284 RX0 yX0_loadOf wsX0_loadOf) := goodIn_app (goodIn_of _ (by decide +kernel)) ggX6_spare_X0_loadOf
theorem dX6_spare_0 : decode cX6_spare 0 = .ok (.aload_n 0, 1) := by decide +kernel
theorem dX6_spare_1 : decode cX6_spare 1 = .ok (.getfield 19, 3) := by decide +kernel
theorem dX6_spare_4 : decode cX6_spare 4 = .ok (.getfield 94, 3) := by decide +kernel
theorem dX6_spare_7 : decode cX6_spare 7 = .ok (.iconst 0, 1) := by decide +kernel
theorem dX6_spare_8 : decode cX6_spare 8 = .ok (.invokevirtual 263, 3) := by decide +kernel
theorem dX6_spare_11 : decode cX6_spare 11 = .ok (.istore_n 1, 1) := by decide +kernel
theorem dX6_spare_12 : decode cX6_spare 12 = .ok (.iload_n 1, 1) := by decide +kernel
theorem dX6_spare_13 : decode cX6_spare 13 = .ok (.ifCond .ne 5, 3) := by decide +kernel
theorem dX6_spare_16 : decode cX6_spare 16 = .ok (.dconst 0, 1) := by decide +kernel
theorem dX6_spare_17 : decode cX6_spare 17 = .ok (.dreturn, 1) := by decide +kernel
theorem dX6_spare_18 : decode cX6_spare 18 = .ok (.iconst 0, 1) := by decide +kernel
theorem dX6_spare_19 : decode cX6_spare 19 = .ok (.istore_n 2, 1) := by decide +kernel
theorem dX6_spare_20 : decode cX6_spare 20 = .ok (.iconst 0, 1) := by decide +kernel
theorem dX6_spare_21 : decode cX6_spare 21 = .ok (.istore_n 3, 1) := by decide +kernel
theorem dX6_spare_22 : decode cX6_spare 22 = .ok (.iload_n 3, 1) := by decide +kernel
theorem dX6_spare_23 : decode cX6_spare 23 = .ok (.aload_n 0, 1) := by decide +kernel
theorem dX6_spare_24 : decode cX6_spare 24 = .ok (.getfield 19, 3) := by decide +kernel
theorem dX6_spare_27 : decode cX6_spare 27 = .ok (.getfield 94, 3) := by decide +kernel
theorem dX6_spare_30 : decode cX6_spare 30 = .ok (.getfield 118, 3) := by decide +kernel
theorem dX6_spare_33 : decode cX6_spare 33 = .ok (.if_icmp .ge 49, 3) := by decide +kernel
theorem dX6_spare_36 : decode cX6_spare 36 = .ok (.aload_n 0, 1) := by decide +kernel
theorem dX6_spare_37 : decode cX6_spare 37 = .ok (.getfield 19, 3) := by decide +kernel
theorem dX6_spare_40 : decode cX6_spare 40 = .ok (.getfield 94, 3) := by decide +kernel
theorem dX6_spare_43 : decode cX6_spare 43 = .ok (.iload_n 3, 1) := by decide +kernel
theorem dX6_spare_44 : decode cX6_spare 44 = .ok (.invokevirtual 171, 3) := by decide +kernel
theorem dX6_spare_47 : decode cX6_spare 47 = .ok (.ifCond .eq 29, 3) := by decide +kernel
theorem dX6_spare_50 : decode cX6_spare 50 = .ok (.iload_n 2, 1) := by decide +kernel
theorem dX6_spare_51 : decode cX6_spare 51 = .ok (.aload_n 0, 1) := by decide +kernel
theorem dX6_spare_52 : decode cX6_spare 52 = .ok (.getfield 19, 3) := by decide +kernel
theorem dX6_spare_55 : decode cX6_spare 55 = .ok (.getfield 94, 3) := by decide +kernel
theorem dX6_spare_58 : decode cX6_spare 58 = .ok (.iload_n 3, 1) := by decide +kernel
theorem dX6_spare_59 : decode cX6_spare 59 = .ok (.invokevirtual 281, 3) := by decide +kernel
theorem dX6_spare_62 : decode cX6_spare 62 = .ok (.aload_n 0, 1) := by decide +kernel
theorem dX6_spare_63 : decode cX6_spare 63 = .ok (.getfield 19, 3) := by decide +kernel
theorem dX6_spare_66 : decode cX6_spare 66 = .ok (.getfield 94, 3) := by decide +kernel
theorem dX6_spare_69 : decode cX6_spare 69 = .ok (.iload_n 3, 1) := by decide +kernel
theorem dX6_spare_70 : decode cX6_spare 70 = .ok (.invokevirtual 284, 3) := by decide +kernel
theorem dX6_spare_73 : decode cX6_spare 73 = .ok (.isub, 1) := by decide +kernel
theorem dX6_spare_74 : decode cX6_spare 74 = .ok (.iadd, 1) := by decide +kernel
theorem dX6_spare_75 : decode cX6_spare 75 = .ok (.istore_n 2, 1) := by decide +kernel
theorem dX6_spare_76 : decode cX6_spare 76 = .ok (.iinc 3 1, 3) := by decide +kernel
theorem dX6_spare_79 : decode cX6_spare 79 = .ok (.goto (-57), 3) := by decide +kernel
theorem dX6_spare_82 : decode cX6_spare 82 = .ok (.iload_n 2, 1) := by decide +kernel
theorem dX6_spare_83 : decode cX6_spare 83 = .ok (.i2d, 1) := by decide +kernel
theorem dX6_spare_84 : decode cX6_spare 84 = .ok (.iload_n 1, 1) := by decide +kernel
theorem dX6_spare_85 : decode cX6_spare 85 = .ok (.i2d, 1) := by decide +kernel
theorem dX6_spare_86 : decode cX6_spare 86 = .ok (.ddiv, 1) := by decide +kernel
theorem dX6_spare_87 : decode cX6_spare 87 = .ok (.dreturn, 1) := by decide +kernel
set_option maxRecDepth 20000 in
theorem ggX6_digest_X6_countFact : GoodIn wsX6_digest wsX6_countFact := goodIn_r _ [18, 3, 19, 4, 5, 12, 13, 6, 7, 20, 21, 22, 23, 24, 25, 26, 27, 28, 29, 30, 31, 32, 33, 34, 35, 36, 37, 38, 39, 40, 41, 42, 43, 44, 45, 85, 86, 87, 88, 89, 90, 91, 92, 93, 94, 95, 96, 97, 98, 99, 100, 101, 102, 103, 104, 105, 106, 107, 108, 114, 115, 116, 109, 110, 111, 112, 113] (by decide +kernel) (by decide +kernel)
set_option maxRecDepth 20000 in
theorem gX6_digest_X6_countFact : GoodIn wsX6_digest (wsV RX6 240 RX6 yX6_countFact wsX6_countFact) := goodIn_app (goodIn_of _ (by decide +kernel)) ggX6_digest_X6_countFact
set_option maxRecDepth 20000 in
theorem ggX6_digest_X6_barrelFact : GoodIn wsX6_digest wsX6_barrelFact := goodIn_r _ [49, 3, 4, 50, 51, 52, 53, 54, 55, 56, 57, 58, 59, 6, 60, 61, 62, 63, 64, 65, 66, 67, 68, 69, 70, 25, 71, 72, 73, 74, 75, 76, 77, 45, 78, 85, 86, 87, 88, 89, 90, 91, 92, 93, 94, 95, 96, 97, 98, 99, 100, 101, 102, 103, 104, 105, 106, 107, 108, 109, 110, 111, 112, 113] (by decide +kernel) (by decide +kernel)
set_option maxRecDepth 20000 in
theorem gX6_digest_X6_barrelFact : GoodIn wsX6_digest (wsV RX6 182 RX6 yX6_barrelFact wsX6_barrelFact) := goodIn_app (goodIn_of _ (by decide +kernel)) ggX6_digest_X6_barrelFact
set_option maxRecDepth 20000 in
theorem ggX6_digest_X6_castawayFact : GoodIn wsX6_digest wsX6_castawayFact := goodIn_r _ [82, 3, 12, 83, 84, 85, 86, 87, 88, 89, 90, 91, 92, 93, 94, 95, 96, 114, 115, 116] (by decide +kernel) (by decide +kernel)
set_option maxRecDepth 20000 in
theorem gX6_digest_X6_castawayFact : GoodIn wsX6_digest (wsV RX6 226 RX6 yX6_castawayFact wsX6_castawayFact) := goodIn_app (goodIn_of _ (by decide +kernel)) ggX6_digest_X6_castawayFact
theorem dX6_digest_0 : decode cX6_digest 0 = .ok (.ldc2_w 287, 3) := by decide +kernel
theorem dX6_digest_3 : decode cX6_digest 3 = .ok (.lstore_n 1, 1) := by decide +kernel
theorem dX6_digest_4 : decode cX6_digest 4 = .ok (.iconst 0, 1) := by decide +kernel
theorem dX6_digest_5 : decode cX6_digest 5 = .ok (.istore_n 3, 1) := by decide +kernel
theorem dX6_digest_6 : decode cX6_digest 6 = .ok (.iload_n 3, 1) := by decide +kernel
theorem dX6_digest_7 : decode cX6_digest 7 = .ok (.bipush 12, 2) := by decide +kernel
theorem dX6_digest_9 : decode cX6_digest 9 = .ok (.if_icmp .ge 22, 3) := by decide +kernel
theorem dX6_digest_12 : decode cX6_digest 12 = .ok (.lload_n 1, 1) := by decide +kernel
theorem dX6_digest_13 : decode cX6_digest 13 = .ok (.ldc2_w 289, 3) := by decide +kernel
theorem dX6_digest_16 : decode cX6_digest 16 = .ok (.lmul, 1) := by decide +kernel
theorem dX6_digest_17 : decode cX6_digest 17 = .ok (.aload_n 0, 1) := by decide +kernel
theorem dX6_digest_18 : decode cX6_digest 18 = .ok (.iload_n 3, 1) := by decide +kernel
theorem dX6_digest_19 : decode cX6_digest 19 = .ok (.invokevirtual 240, 3) := by decide +kernel
theorem dX6_digest_22 : decode cX6_digest 22 = .ok (.i2l, 1) := by decide +kernel
theorem dX6_digest_23 : decode cX6_digest 23 = .ok (.ladd, 1) := by decide +kernel
theorem dX6_digest_24 : decode cX6_digest 24 = .ok (.lstore_n 1, 1) := by decide +kernel
theorem dX6_digest_25 : decode cX6_digest 25 = .ok (.iinc 3 1, 3) := by decide +kernel
theorem dX6_digest_28 : decode cX6_digest 28 = .ok (.goto (-22), 3) := by decide +kernel
theorem dX6_digest_31 : decode cX6_digest 31 = .ok (.iconst 0, 1) := by decide +kernel
theorem dX6_digest_32 : decode cX6_digest 32 = .ok (.istore_n 3, 1) := by decide +kernel
theorem dX6_digest_33 : decode cX6_digest 33 = .ok (.iload_n 3, 1) := by decide +kernel
theorem dX6_digest_34 : decode cX6_digest 34 = .ok (.aload_n 0, 1) := by decide +kernel
theorem dX6_digest_35 : decode cX6_digest 35 = .ok (.getfield 19, 3) := by decide +kernel
theorem dX6_digest_38 : decode cX6_digest 38 = .ok (.getfield 94, 3) := by decide +kernel
theorem dX6_digest_41 : decode cX6_digest 41 = .ok (.getfield 118, 3) := by decide +kernel
theorem dX6_digest_44 : decode cX6_digest 44 = .ok (.if_icmp .ge 40, 3) := by decide +kernel
theorem dX6_digest_47 : decode cX6_digest 47 = .ok (.iconst 0, 1) := by decide +kernel
theorem dX6_digest_48 : decode cX6_digest 48 = .ok (.istore 4, 2) := by decide +kernel
theorem dX6_digest_50 : decode cX6_digest 50 = .ok (.iload 4, 2) := by decide +kernel
theorem dX6_digest_52 : decode cX6_digest 52 = .ok (.bipush 13, 2) := by decide +kernel
theorem dX6_digest_54 : decode cX6_digest 54 = .ok (.if_icmp .ge 24, 3) := by decide +kernel
theorem dX6_digest_57 : decode cX6_digest 57 = .ok (.lload_n 1, 1) := by decide +kernel
theorem dX6_digest_58 : decode cX6_digest 58 = .ok (.ldc2_w 289, 3) := by decide +kernel
theorem dX6_digest_61 : decode cX6_digest 61 = .ok (.lmul, 1) := by decide +kernel
theorem dX6_digest_62 : decode cX6_digest 62 = .ok (.aload_n 0, 1) := by decide +kernel
theorem dX6_digest_63 : decode cX6_digest 63 = .ok (.iload_n 3, 1) := by decide +kernel
theorem dX6_digest_64 : decode cX6_digest 64 = .ok (.iload 4, 2) := by decide +kernel
theorem dX6_digest_66 : decode cX6_digest 66 = .ok (.invokevirtual 182, 3) := by decide +kernel
theorem dX6_digest_69 : decode cX6_digest 69 = .ok (.i2l, 1) := by decide +kernel
theorem dX6_digest_70 : decode cX6_digest 70 = .ok (.ladd, 1) := by decide +kernel
theorem dX6_digest_71 : decode cX6_digest 71 = .ok (.lstore_n 1, 1) := by decide +kernel
theorem dX6_digest_72 : decode cX6_digest 72 = .ok (.iinc 4 1, 3) := by decide +kernel
theorem dX6_digest_75 : decode cX6_digest 75 = .ok (.goto (-25), 3) := by decide +kernel
theorem dX6_digest_78 : decode cX6_digest 78 = .ok (.iinc 3 1, 3) := by decide +kernel
theorem dX6_digest_81 : decode cX6_digest 81 = .ok (.goto (-48), 3) := by decide +kernel
theorem dX6_digest_84 : decode cX6_digest 84 = .ok (.iconst 0, 1) := by decide +kernel
theorem dX6_digest_85 : decode cX6_digest 85 = .ok (.istore_n 3, 1) := by decide +kernel
theorem dX6_digest_86 : decode cX6_digest 86 = .ok (.iload_n 3, 1) := by decide +kernel
theorem dX6_digest_87 : decode cX6_digest 87 = .ok (.aload_n 0, 1) := by decide +kernel
theorem dX6_digest_88 : decode cX6_digest 88 = .ok (.getfield 19, 3) := by decide +kernel
theorem dX6_digest_91 : decode cX6_digest 91 = .ok (.getfield 136, 3) := by decide +kernel
theorem dX6_digest_94 : decode cX6_digest 94 = .ok (.getfield 271, 3) := by decide +kernel
theorem dX6_digest_97 : decode cX6_digest 97 = .ok (.if_icmp .ge 89, 3) := by decide +kernel
theorem dX6_digest_100 : decode cX6_digest 100 = .ok (.lload_n 1, 1) := by decide +kernel
theorem dX6_digest_101 : decode cX6_digest 101 = .ok (.ldc2_w 289, 3) := by decide +kernel
theorem dX6_digest_104 : decode cX6_digest 104 = .ok (.lmul, 1) := by decide +kernel
theorem dX6_digest_105 : decode cX6_digest 105 = .ok (.aload_n 0, 1) := by decide +kernel
theorem dX6_digest_106 : decode cX6_digest 106 = .ok (.getfield 19, 3) := by decide +kernel
theorem dX6_digest_109 : decode cX6_digest 109 = .ok (.getfield 136, 3) := by decide +kernel
theorem dX6_digest_112 : decode cX6_digest 112 = .ok (.getfield 275, 3) := by decide +kernel
theorem dX6_digest_115 : decode cX6_digest 115 = .ok (.iload_n 3, 1) := by decide +kernel
theorem dX6_digest_116 : decode cX6_digest 116 = .ok (.iaload, 1) := by decide +kernel
theorem dX6_digest_117 : decode cX6_digest 117 = .ok (.i2l, 1) := by decide +kernel
theorem dX6_digest_118 : decode cX6_digest 118 = .ok (.ladd, 1) := by decide +kernel
theorem dX6_digest_119 : decode cX6_digest 119 = .ok (.lstore_n 1, 1) := by decide +kernel
theorem dX6_digest_120 : decode cX6_digest 120 = .ok (.lload_n 1, 1) := by decide +kernel
theorem dX6_digest_121 : decode cX6_digest 121 = .ok (.ldc2_w 289, 3) := by decide +kernel
theorem dX6_digest_124 : decode cX6_digest 124 = .ok (.lmul, 1) := by decide +kernel
theorem dX6_digest_125 : decode cX6_digest 125 = .ok (.aload_n 0, 1) := by decide +kernel
theorem dX6_digest_126 : decode cX6_digest 126 = .ok (.getfield 19, 3) := by decide +kernel
theorem dX6_digest_129 : decode cX6_digest 129 = .ok (.getfield 136, 3) := by decide +kernel
theorem dX6_digest_132 : decode cX6_digest 132 = .ok (.getfield 278, 3) := by decide +kernel
theorem dX6_digest_135 : decode cX6_digest 135 = .ok (.iload_n 3, 1) := by decide +kernel
theorem dX6_digest_136 : decode cX6_digest 136 = .ok (.iaload, 1) := by decide +kernel
theorem dX6_digest_137 : decode cX6_digest 137 = .ok (.i2l, 1) := by decide +kernel
theorem dX6_digest_138 : decode cX6_digest 138 = .ok (.ladd, 1) := by decide +kernel
theorem dX6_digest_139 : decode cX6_digest 139 = .ok (.lstore_n 1, 1) := by decide +kernel
theorem dX6_digest_140 : decode cX6_digest 140 = .ok (.lload_n 1, 1) := by decide +kernel
theorem dX6_digest_141 : decode cX6_digest 141 = .ok (.ldc2_w 289, 3) := by decide +kernel
theorem dX6_digest_144 : decode cX6_digest 144 = .ok (.lmul, 1) := by decide +kernel
theorem dX6_digest_145 : decode cX6_digest 145 = .ok (.aload_n 0, 1) := by decide +kernel
theorem dX6_digest_146 : decode cX6_digest 146 = .ok (.getfield 19, 3) := by decide +kernel
theorem dX6_digest_149 : decode cX6_digest 149 = .ok (.getfield 136, 3) := by decide +kernel
theorem dX6_digest_152 : decode cX6_digest 152 = .ok (.getfield 185, 3) := by decide +kernel
theorem dX6_digest_155 : decode cX6_digest 155 = .ok (.iload_n 3, 1) := by decide +kernel
theorem dX6_digest_156 : decode cX6_digest 156 = .ok (.iaload, 1) := by decide +kernel
theorem dX6_digest_157 : decode cX6_digest 157 = .ok (.i2l, 1) := by decide +kernel
theorem dX6_digest_158 : decode cX6_digest 158 = .ok (.ladd, 1) := by decide +kernel
theorem dX6_digest_159 : decode cX6_digest 159 = .ok (.lstore_n 1, 1) := by decide +kernel
theorem dX6_digest_160 : decode cX6_digest 160 = .ok (.lload_n 1, 1) := by decide +kernel
theorem dX6_digest_161 : decode cX6_digest 161 = .ok (.ldc2_w 289, 3) := by decide +kernel
theorem dX6_digest_164 : decode cX6_digest 164 = .ok (.lmul, 1) := by decide +kernel
theorem dX6_digest_165 : decode cX6_digest 165 = .ok (.aload_n 0, 1) := by decide +kernel
theorem dX6_digest_166 : decode cX6_digest 166 = .ok (.getfield 19, 3) := by decide +kernel
theorem dX6_digest_169 : decode cX6_digest 169 = .ok (.getfield 136, 3) := by decide +kernel
theorem dX6_digest_172 : decode cX6_digest 172 = .ok (.getfield 188, 3) := by decide +kernel
theorem dX6_digest_175 : decode cX6_digest 175 = .ok (.iload_n 3, 1) := by decide +kernel
theorem dX6_digest_176 : decode cX6_digest 176 = .ok (.iaload, 1) := by decide +kernel
theorem dX6_digest_177 : decode cX6_digest 177 = .ok (.i2l, 1) := by decide +kernel
theorem dX6_digest_178 : decode cX6_digest 178 = .ok (.ladd, 1) := by decide +kernel
theorem dX6_digest_179 : decode cX6_digest 179 = .ok (.lstore_n 1, 1) := by decide +kernel
theorem dX6_digest_180 : decode cX6_digest 180 = .ok (.iinc 3 1, 3) := by decide +kernel
theorem dX6_digest_183 : decode cX6_digest 183 = .ok (.goto (-97), 3) := by decide +kernel
theorem dX6_digest_186 : decode cX6_digest 186 = .ok (.iconst 0, 1) := by decide +kernel
theorem dX6_digest_187 : decode cX6_digest 187 = .ok (.istore_n 3, 1) := by decide +kernel
theorem dX6_digest_188 : decode cX6_digest 188 = .ok (.iload_n 3, 1) := by decide +kernel
theorem dX6_digest_189 : decode cX6_digest 189 = .ok (.aload_n 0, 1) := by decide +kernel
theorem dX6_digest_190 : decode cX6_digest 190 = .ok (.getfield 19, 3) := by decide +kernel
theorem dX6_digest_193 : decode cX6_digest 193 = .ok (.getfield 195, 3) := by decide +kernel
theorem dX6_digest_196 : decode cX6_digest 196 = .ok (.getfield 199, 3) := by decide +kernel
theorem dX6_digest_199 : decode cX6_digest 199 = .ok (.if_icmp .ge 39, 3) := by decide +kernel
theorem dX6_digest_202 : decode cX6_digest 202 = .ok (.iconst 0, 1) := by decide +kernel
theorem dX6_digest_203 : decode cX6_digest 203 = .ok (.istore 4, 2) := by decide +kernel
theorem dX6_digest_205 : decode cX6_digest 205 = .ok (.iload 4, 2) := by decide +kernel
theorem dX6_digest_207 : decode cX6_digest 207 = .ok (.iconst 2, 1) := by decide +kernel
theorem dX6_digest_208 : decode cX6_digest 208 = .ok (.if_icmp .ge 24, 3) := by decide +kernel
theorem dX6_digest_211 : decode cX6_digest 211 = .ok (.lload_n 1, 1) := by decide +kernel
theorem dX6_digest_212 : decode cX6_digest 212 = .ok (.ldc2_w 289, 3) := by decide +kernel
theorem dX6_digest_215 : decode cX6_digest 215 = .ok (.lmul, 1) := by decide +kernel
theorem dX6_digest_216 : decode cX6_digest 216 = .ok (.aload_n 0, 1) := by decide +kernel
theorem dX6_digest_217 : decode cX6_digest 217 = .ok (.iload_n 3, 1) := by decide +kernel
theorem dX6_digest_218 : decode cX6_digest 218 = .ok (.iload 4, 2) := by decide +kernel
theorem dX6_digest_220 : decode cX6_digest 220 = .ok (.invokevirtual 226, 3) := by decide +kernel
theorem dX6_digest_223 : decode cX6_digest 223 = .ok (.i2l, 1) := by decide +kernel
theorem dX6_digest_224 : decode cX6_digest 224 = .ok (.ladd, 1) := by decide +kernel
theorem dX6_digest_225 : decode cX6_digest 225 = .ok (.lstore_n 1, 1) := by decide +kernel
theorem dX6_digest_226 : decode cX6_digest 226 = .ok (.iinc 4 1, 3) := by decide +kernel
theorem dX6_digest_229 : decode cX6_digest 229 = .ok (.goto (-24), 3) := by decide +kernel
theorem dX6_digest_232 : decode cX6_digest 232 = .ok (.iinc 3 1, 3) := by decide +kernel
theorem dX6_digest_235 : decode cX6_digest 235 = .ok (.goto (-47), 3) := by decide +kernel
theorem dX6_digest_238 : decode cX6_digest 238 = .ok (.lload_n 1, 1) := by decide +kernel
theorem dX6_digest_239 : decode cX6_digest 239 = .ok (.lreturn, 1) := by decide +kernel
theorem dX6_isBelow_0 : decode cX6_isBelow 0 = .ok (.iload_n 0, 1) := by decide +kernel
theorem dX6_isBelow_1 : decode cX6_isBelow 1 = .ok (.ifCond .lt 12, 3) := by decide +kernel
theorem dX6_isBelow_4 : decode cX6_isBelow 4 = .ok (.iload_n 0, 1) := by decide +kernel
theorem dX6_isBelow_5 : decode cX6_isBelow 5 = .ok (.iload_n 1, 1) := by decide +kernel
theorem dX6_isBelow_6 : decode cX6_isBelow 6 = .ok (.if_icmp .ge 7, 3) := by decide +kernel
theorem dX6_isBelow_9 : decode cX6_isBelow 9 = .ok (.iconst 1, 1) := by decide +kernel
theorem dX6_isBelow_10 : decode cX6_isBelow 10 = .ok (.goto 4, 3) := by decide +kernel
theorem dX6_isBelow_13 : decode cX6_isBelow 13 = .ok (.iconst 0, 1) := by decide +kernel
theorem dX6_isBelow_14 : decode cX6_isBelow 14 = .ok (.ireturn, 1) := by decide +kernel
theorem dX6_isSea_0 : decode cX6_isSea 0 = .ok (.iload_n 0, 1) := by decide +kernel
theorem dX6_isSea_1 : decode cX6_isSea 1 = .ok (.ifCond .lt 23, 3) := by decide +kernel
theorem dX6_isSea_4 : decode cX6_isSea 4 = .ok (.iload_n 0, 1) := by decide +kernel
theorem dX6_isSea_5 : decode cX6_isSea 5 = .ok (.bipush 30, 2) := by decide +kernel
theorem dX6_isSea_7 : decode cX6_isSea 7 = .ok (.if_icmp .ge 17, 3) := by decide +kernel
theorem dX6_isSea_10 : decode cX6_isSea 10 = .ok (.iload_n 1, 1) := by decide +kernel
theorem dX6_isSea_11 : decode cX6_isSea 11 = .ok (.ifCond .lt 13, 3) := by decide +kernel
theorem dX6_isSea_14 : decode cX6_isSea 14 = .ok (.iload_n 1, 1) := by decide +kernel
theorem dX6_isSea_15 : decode cX6_isSea 15 = .ok (.bipush 20, 2) := by decide +kernel
theorem dX6_isSea_17 : decode cX6_isSea 17 = .ok (.if_icmp .ge 7, 3) := by decide +kernel
theorem dX6_isSea_20 : decode cX6_isSea 20 = .ok (.iconst 1, 1) := by decide +kernel
theorem dX6_isSea_21 : decode cX6_isSea 21 = .ok (.goto 4, 3) := by decide +kernel
theorem dX6_isSea_24 : decode cX6_isSea 24 = .ok (.iconst 0, 1) := by decide +kernel
theorem dX6_isSea_25 : decode cX6_isSea 25 = .ok (.ireturn, 1) := by decide +kernel
theorem dX6_isFlow_0 : decode cX6_isFlow 0 = .ok (.iload_n 0, 1) := by decide +kernel
theorem dX6_isFlow_1 : decode cX6_isFlow 1 = .ok (.bipush (-2), 2) := by decide +kernel
theorem dX6_isFlow_3 : decode cX6_isFlow 3 = .ok (.if_icmp .lt 12, 3) := by decide +kernel
theorem dX6_isFlow_6 : decode cX6_isFlow 6 = .ok (.iload_n 0, 1) := by decide +kernel
theorem dX6_isFlow_7 : decode cX6_isFlow 7 = .ok (.iconst 2, 1) := by decide +kernel
theorem dX6_isFlow_8 : decode cX6_isFlow 8 = .ok (.if_icmp .gt 7, 3) := by decide +kernel
theorem dX6_isFlow_11 : decode cX6_isFlow 11 = .ok (.iconst 1, 1) := by decide +kernel
theorem dX6_isFlow_12 : decode cX6_isFlow 12 = .ok (.goto 4, 3) := by decide +kernel
theorem dX6_isFlow_15 : decode cX6_isFlow 15 = .ok (.iconst 0, 1) := by decide +kernel
theorem dX6_isFlow_16 : decode cX6_isFlow 16 = .ok (.ireturn, 1) := by decide +kernel
set_option maxRecDepth 20000 in
theorem ggX6_barrelFact_X2_countAt : GoodIn wsX6_barrelFact wsX2_countAt := goodIn_r _ [18, 19, 20, 21, 59, 60, 61, 62, 63] (by decide +kernel) (by decide +kernel)
set_option maxRecDepth 20000 in
theorem gX6_barrelFact_X2_countAt : GoodIn wsX6_barrelFact (wsV RX6 312 RX2 yX2_countAt wsX2_countAt) := goodIn_app (goodIn_of _ (by decide +kernel)) ggX6_barrelFact_X2_countAt
set_option maxRecDepth 20000 in
theorem ggX6_barrelFact_X0_liftNow : GoodIn wsX6_barrelFact wsX0_liftNow := goodIn_r _ [26, 27, 28, 47, 48, 49, 50, 51, 52, 53, 54, 55, 56, 57, 58] (by decide +kernel) (by decide +kernel)
set_option maxRecDepth 20000 in
theorem gX6_barrelFact_X0_liftNow : GoodIn wsX6_barrelFact (wsV RX6 281 RX0 yX0_liftNow wsX0_liftNow) := goodIn_app (goodIn_of _ (by decide +kernel)) ggX6_barrelFact_X0_liftNow
set_option maxRecDepth 20000 in
theorem ggX6_barrelFact_X0_loadOf : GoodIn wsX6_barrelFact wsX0_loadOf := goodIn_r _ [32, 33, 34, 47, 48, 49, 50, 51, 52, 53, 54, 55, 56, 57, 58] (by decide +kernel) (by decide +kernel)
set_option maxRecDepth 20000 in
theorem gX6_barrelFact_X0_loadOf : GoodIn wsX6_barrelFact (wsV RX6 284 RX0 yX0_loadOf wsX0_loadOf) := goodIn_app (goodIn_of _ (by decide +kernel)) ggX6_barrelFact_X0_loadOf
theorem dX6_barrelFact_0 : decode cX6_barrelFact 0 = .ok (.aload_n 0, 1) := by decide +kernel
theorem dX6_barrelFact_1 : decode cX6_barrelFact 1 = .ok (.getfield 19, 3) := by decide +kernel
theorem dX6_barrelFact_4 : decode cX6_barrelFact 4 = .ok (.getfield 94, 3) := by decide +kernel
theorem dX6_barrelFact_7 : decode cX6_barrelFact 7 = .ok (.astore_n 3, 1) := by decide +kernel
theorem dX6_barrelFact_8 : decode cX6_barrelFact 8 = .ok (.iload_n 2, 1) := by decide +kernel
theorem dX6_barrelFact_9 : decode cX6_barrelFact 9 = .ok (.tableswitch 151 0 11 #[63, 70, 77, 84, 91, 98, 105, 112, 119, 126, 133, 145], 63) := by decide +kernel
theorem dX6_barrelFact_72 : decode cX6_barrelFact 72 = .ok (.aload_n 3, 1) := by decide +kernel
theorem dX6_barrelFact_73 : decode cX6_barrelFact 73 = .ok (.getfield 291, 3) := by decide +kernel
theorem dX6_barrelFact_76 : decode cX6_barrelFact 76 = .ok (.iload_n 1, 1) := by decide +kernel
theorem dX6_barrelFact_77 : decode cX6_barrelFact 77 = .ok (.iaload, 1) := by decide +kernel
theorem dX6_barrelFact_78 : decode cX6_barrelFact 78 = .ok (.ireturn, 1) := by decide +kernel
theorem dX6_barrelFact_79 : decode cX6_barrelFact 79 = .ok (.aload_n 3, 1) := by decide +kernel
theorem dX6_barrelFact_80 : decode cX6_barrelFact 80 = .ok (.getfield 294, 3) := by decide +kernel
theorem dX6_barrelFact_83 : decode cX6_barrelFact 83 = .ok (.iload_n 1, 1) := by decide +kernel
theorem dX6_barrelFact_84 : decode cX6_barrelFact 84 = .ok (.iaload, 1) := by decide +kernel
theorem dX6_barrelFact_85 : decode cX6_barrelFact 85 = .ok (.ireturn, 1) := by decide +kernel
theorem dX6_barrelFact_86 : decode cX6_barrelFact 86 = .ok (.aload_n 3, 1) := by decide +kernel
theorem dX6_barrelFact_87 : decode cX6_barrelFact 87 = .ok (.getfield 297, 3) := by decide +kernel
theorem dX6_barrelFact_90 : decode cX6_barrelFact 90 = .ok (.iload_n 1, 1) := by decide +kernel
theorem dX6_barrelFact_91 : decode cX6_barrelFact 91 = .ok (.iaload, 1) := by decide +kernel
theorem dX6_barrelFact_92 : decode cX6_barrelFact 92 = .ok (.ireturn, 1) := by decide +kernel
theorem dX6_barrelFact_93 : decode cX6_barrelFact 93 = .ok (.aload_n 3, 1) := by decide +kernel
theorem dX6_barrelFact_94 : decode cX6_barrelFact 94 = .ok (.getfield 300, 3) := by decide +kernel
theorem dX6_barrelFact_97 : decode cX6_barrelFact 97 = .ok (.iload_n 1, 1) := by decide +kernel
theorem dX6_barrelFact_98 : decode cX6_barrelFact 98 = .ok (.iaload, 1) := by decide +kernel
theorem dX6_barrelFact_99 : decode cX6_barrelFact 99 = .ok (.ireturn, 1) := by decide +kernel
theorem dX6_barrelFact_100 : decode cX6_barrelFact 100 = .ok (.aload_n 3, 1) := by decide +kernel
theorem dX6_barrelFact_101 : decode cX6_barrelFact 101 = .ok (.getfield 221, 3) := by decide +kernel
theorem dX6_barrelFact_104 : decode cX6_barrelFact 104 = .ok (.iload_n 1, 1) := by decide +kernel
theorem dX6_barrelFact_105 : decode cX6_barrelFact 105 = .ok (.iaload, 1) := by decide +kernel
theorem dX6_barrelFact_106 : decode cX6_barrelFact 106 = .ok (.ireturn, 1) := by decide +kernel
theorem dX6_barrelFact_107 : decode cX6_barrelFact 107 = .ok (.aload_n 3, 1) := by decide +kernel
theorem dX6_barrelFact_108 : decode cX6_barrelFact 108 = .ok (.getfield 176, 3) := by decide +kernel
theorem dX6_barrelFact_111 : decode cX6_barrelFact 111 = .ok (.iload_n 1, 1) := by decide +kernel
theorem dX6_barrelFact_112 : decode cX6_barrelFact 112 = .ok (.iaload, 1) := by decide +kernel
theorem dX6_barrelFact_113 : decode cX6_barrelFact 113 = .ok (.ireturn, 1) := by decide +kernel
theorem dX6_barrelFact_114 : decode cX6_barrelFact 114 = .ok (.aload_n 3, 1) := by decide +kernel
theorem dX6_barrelFact_115 : decode cX6_barrelFact 115 = .ok (.getfield 303, 3) := by decide +kernel
theorem dX6_barrelFact_118 : decode cX6_barrelFact 118 = .ok (.iload_n 1, 1) := by decide +kernel
theorem dX6_barrelFact_119 : decode cX6_barrelFact 119 = .ok (.iaload, 1) := by decide +kernel
theorem dX6_barrelFact_120 : decode cX6_barrelFact 120 = .ok (.ireturn, 1) := by decide +kernel
theorem dX6_barrelFact_121 : decode cX6_barrelFact 121 = .ok (.aload_n 3, 1) := by decide +kernel
theorem dX6_barrelFact_122 : decode cX6_barrelFact 122 = .ok (.getfield 250, 3) := by decide +kernel
theorem dX6_barrelFact_125 : decode cX6_barrelFact 125 = .ok (.iload_n 1, 1) := by decide +kernel
theorem dX6_barrelFact_126 : decode cX6_barrelFact 126 = .ok (.iaload, 1) := by decide +kernel
theorem dX6_barrelFact_127 : decode cX6_barrelFact 127 = .ok (.ireturn, 1) := by decide +kernel
theorem dX6_barrelFact_128 : decode cX6_barrelFact 128 = .ok (.aload_n 3, 1) := by decide +kernel
theorem dX6_barrelFact_129 : decode cX6_barrelFact 129 = .ok (.getfield 306, 3) := by decide +kernel
theorem dX6_barrelFact_132 : decode cX6_barrelFact 132 = .ok (.iload_n 1, 1) := by decide +kernel
theorem dX6_barrelFact_133 : decode cX6_barrelFact 133 = .ok (.iaload, 1) := by decide +kernel
theorem dX6_barrelFact_134 : decode cX6_barrelFact 134 = .ok (.ireturn, 1) := by decide +kernel
theorem dX6_barrelFact_135 : decode cX6_barrelFact 135 = .ok (.aload_n 3, 1) := by decide +kernel
theorem dX6_barrelFact_136 : decode cX6_barrelFact 136 = .ok (.getfield 309, 3) := by decide +kernel
theorem dX6_barrelFact_139 : decode cX6_barrelFact 139 = .ok (.iload_n 1, 1) := by decide +kernel
theorem dX6_barrelFact_140 : decode cX6_barrelFact 140 = .ok (.iaload, 1) := by decide +kernel
theorem dX6_barrelFact_141 : decode cX6_barrelFact 141 = .ok (.ireturn, 1) := by decide +kernel
theorem dX6_barrelFact_142 : decode cX6_barrelFact 142 = .ok (.aload_n 0, 1) := by decide +kernel
theorem dX6_barrelFact_143 : decode cX6_barrelFact 143 = .ok (.getfield 19, 3) := by decide +kernel
theorem dX6_barrelFact_146 : decode cX6_barrelFact 146 = .ok (.getfield 136, 3) := by decide +kernel
theorem dX6_barrelFact_149 : decode cX6_barrelFact 149 = .ok (.iload_n 1, 1) := by decide +kernel
theorem dX6_barrelFact_150 : decode cX6_barrelFact 150 = .ok (.invokevirtual 312, 3) := by decide +kernel
theorem dX6_barrelFact_153 : decode cX6_barrelFact 153 = .ok (.ireturn, 1) := by decide +kernel
theorem dX6_barrelFact_154 : decode cX6_barrelFact 154 = .ok (.aload_n 3, 1) := by decide +kernel
theorem dX6_barrelFact_155 : decode cX6_barrelFact 155 = .ok (.iload_n 1, 1) := by decide +kernel
theorem dX6_barrelFact_156 : decode cX6_barrelFact 156 = .ok (.invokevirtual 281, 3) := by decide +kernel
theorem dX6_barrelFact_159 : decode cX6_barrelFact 159 = .ok (.ireturn, 1) := by decide +kernel
theorem dX6_barrelFact_160 : decode cX6_barrelFact 160 = .ok (.aload_n 3, 1) := by decide +kernel
theorem dX6_barrelFact_161 : decode cX6_barrelFact 161 = .ok (.iload_n 1, 1) := by decide +kernel
theorem dX6_barrelFact_162 : decode cX6_barrelFact 162 = .ok (.invokevirtual 284, 3) := by decide +kernel
theorem dX6_barrelFact_165 : decode cX6_barrelFact 165 = .ok (.ireturn, 1) := by decide +kernel
theorem dX6_castawayFact_0 : decode cX6_castawayFact 0 = .ok (.iload_n 2, 1) := by decide +kernel
theorem dX6_castawayFact_1 : decode cX6_castawayFact 1 = .ok (.ifCond .ne 18, 3) := by decide +kernel
theorem dX6_castawayFact_4 : decode cX6_castawayFact 4 = .ok (.aload_n 0, 1) := by decide +kernel
theorem dX6_castawayFact_5 : decode cX6_castawayFact 5 = .ok (.getfield 19, 3) := by decide +kernel
theorem dX6_castawayFact_8 : decode cX6_castawayFact 8 = .ok (.getfield 195, 3) := by decide +kernel
theorem dX6_castawayFact_11 : decode cX6_castawayFact 11 = .ok (.getfield 212, 3) := by decide +kernel
theorem dX6_castawayFact_14 : decode cX6_castawayFact 14 = .ok (.iload_n 1, 1) := by decide +kernel
theorem dX6_castawayFact_15 : decode cX6_castawayFact 15 = .ok (.iaload, 1) := by decide +kernel
theorem dX6_castawayFact_16 : decode cX6_castawayFact 16 = .ok (.goto 15, 3) := by decide +kernel
theorem dX6_castawayFact_19 : decode cX6_castawayFact 19 = .ok (.aload_n 0, 1) := by decide +kernel
theorem dX6_castawayFact_20 : decode cX6_castawayFact 20 = .ok (.getfield 19, 3) := by decide +kernel
theorem dX6_castawayFact_23 : decode cX6_castawayFact 23 = .ok (.getfield 195, 3) := by decide +kernel
theorem dX6_castawayFact_26 : decode cX6_castawayFact 26 = .ok (.getfield 315, 3) := by decide +kernel
theorem dX6_castawayFact_29 : decode cX6_castawayFact 29 = .ok (.iload_n 1, 1) := by decide +kernel
theorem dX6_castawayFact_30 : decode cX6_castawayFact 30 = .ok (.iaload, 1) := by decide +kernel
theorem dX6_castawayFact_31 : decode cX6_castawayFact 31 = .ok (.ireturn, 1) := by decide +kernel
set_option maxRecDepth 20000 in
theorem ggX6_countFact_X0_countOf : GoodIn wsX6_countFact wsX0_countOf := goodIn_r _ [15, 16, 17, 47, 48, 49, 50, 51, 52, 53, 54, 55, 56, 57, 58] (by decide +kernel) (by decide +kernel)
set_option maxRecDepth 20000 in
theorem gX6_countFact_X0_countOf : GoodIn wsX6_countFact (wsV RX6 263 RX0 yX0_countOf wsX0_countOf) := goodIn_app (goodIn_of _ (by decide +kernel)) ggX6_countFact_X0_countOf
set_option maxRecDepth 20000 in
theorem ggX6_countFact_X1_countOf : GoodIn wsX6_countFact wsX1_countOf := goodIn_r _ [22, 23, 24, 59, 60, 61] (by decide +kernel) (by decide +kernel)
set_option maxRecDepth 20000 in
theorem gX6_countFact_X1_countOf : GoodIn wsX6_countFact (wsV RX6 266 RX1 yX1_countOf wsX1_countOf) := goodIn_app (goodIn_of _ (by decide +kernel)) ggX6_countFact_X1_countOf
set_option maxRecDepth 20000 in
theorem ggX6_countFact_X0_pieces : GoodIn wsX6_countFact wsX0_pieces := goodIn_r _ [28, 16, 29, 47, 48, 49, 50, 51, 52, 53, 54, 55, 56, 57, 58] (by decide +kernel) (by decide +kernel)
set_option maxRecDepth 20000 in
theorem gX6_countFact_X0_pieces : GoodIn wsX6_countFact (wsV RX6 267 RX0 yX0_pieces wsX0_pieces) := goodIn_app (goodIn_of _ (by decide +kernel)) ggX6_countFact_X0_pieces
set_option maxRecDepth 20000 in
theorem ggX6_countFact_X0_goodsSaved : GoodIn wsX6_countFact wsX0_goodsSaved := goodIn_r _ [33, 16, 17, 34, 47, 48, 49, 50, 51, 52, 53, 54, 55, 56, 57, 58] (by decide +kernel) (by decide +kernel)
set_option maxRecDepth 20000 in
theorem gX6_countFact_X0_goodsSaved : GoodIn wsX6_countFact (wsV RX6 319 RX0 yX0_goodsSaved wsX0_goodsSaved) := goodIn_app (goodIn_of _ (by decide +kernel)) ggX6_countFact_X0_goodsSaved
theorem dX6_countFact_0 : decode cX6_countFact 0 = .ok (.iload_n 1, 1) := by decide +kernel
theorem dX6_countFact_1 : decode cX6_countFact 1 = .ok (.tableswitch 172 0 10 #[59, 67, 78, 90, 102, 113, 125, 137, 148, 159, 164], 59) := by decide +kernel
theorem dX6_countFact_60 : decode cX6_countFact 60 = .ok (.aload_n 0, 1) := by decide +kernel
theorem dX6_countFact_61 : decode cX6_countFact 61 = .ok (.getfield 19, 3) := by decide +kernel
theorem dX6_countFact_64 : decode cX6_countFact 64 = .ok (.getfield 316, 3) := by decide +kernel
theorem dX6_countFact_67 : decode cX6_countFact 67 = .ok (.ireturn, 1) := by decide +kernel
theorem dX6_countFact_68 : decode cX6_countFact 68 = .ok (.aload_n 0, 1) := by decide +kernel
theorem dX6_countFact_69 : decode cX6_countFact 69 = .ok (.getfield 19, 3) := by decide +kernel
theorem dX6_countFact_72 : decode cX6_countFact 72 = .ok (.getfield 94, 3) := by decide +kernel
theorem dX6_countFact_75 : decode cX6_countFact 75 = .ok (.getfield 118, 3) := by decide +kernel
theorem dX6_countFact_78 : decode cX6_countFact 78 = .ok (.ireturn, 1) := by decide +kernel
theorem dX6_countFact_79 : decode cX6_countFact 79 = .ok (.aload_n 0, 1) := by decide +kernel
theorem dX6_countFact_80 : decode cX6_countFact 80 = .ok (.getfield 19, 3) := by decide +kernel
theorem dX6_countFact_83 : decode cX6_countFact 83 = .ok (.getfield 94, 3) := by decide +kernel
theorem dX6_countFact_86 : decode cX6_countFact 86 = .ok (.iconst 0, 1) := by decide +kernel
theorem dX6_countFact_87 : decode cX6_countFact 87 = .ok (.invokevirtual 263, 3) := by decide +kernel
theorem dX6_countFact_90 : decode cX6_countFact 90 = .ok (.ireturn, 1) := by decide +kernel
theorem dX6_countFact_91 : decode cX6_countFact 91 = .ok (.aload_n 0, 1) := by decide +kernel
theorem dX6_countFact_92 : decode cX6_countFact 92 = .ok (.getfield 19, 3) := by decide +kernel
theorem dX6_countFact_95 : decode cX6_countFact 95 = .ok (.getfield 94, 3) := by decide +kernel
theorem dX6_countFact_98 : decode cX6_countFact 98 = .ok (.iconst 2, 1) := by decide +kernel
theorem dX6_countFact_99 : decode cX6_countFact 99 = .ok (.invokevirtual 263, 3) := by decide +kernel
theorem dX6_countFact_102 : decode cX6_countFact 102 = .ok (.ireturn, 1) := by decide +kernel
theorem dX6_countFact_103 : decode cX6_countFact 103 = .ok (.aload_n 0, 1) := by decide +kernel
theorem dX6_countFact_104 : decode cX6_countFact 104 = .ok (.getfield 19, 3) := by decide +kernel
theorem dX6_countFact_107 : decode cX6_countFact 107 = .ok (.getfield 195, 3) := by decide +kernel
theorem dX6_countFact_110 : decode cX6_countFact 110 = .ok (.getfield 199, 3) := by decide +kernel
theorem dX6_countFact_113 : decode cX6_countFact 113 = .ok (.ireturn, 1) := by decide +kernel
theorem dX6_countFact_114 : decode cX6_countFact 114 = .ok (.aload_n 0, 1) := by decide +kernel
theorem dX6_countFact_115 : decode cX6_countFact 115 = .ok (.getfield 19, 3) := by decide +kernel
theorem dX6_countFact_118 : decode cX6_countFact 118 = .ok (.getfield 195, 3) := by decide +kernel
theorem dX6_countFact_121 : decode cX6_countFact 121 = .ok (.iconst 0, 1) := by decide +kernel
theorem dX6_countFact_122 : decode cX6_countFact 122 = .ok (.invokevirtual 266, 3) := by decide +kernel
theorem dX6_countFact_125 : decode cX6_countFact 125 = .ok (.ireturn, 1) := by decide +kernel
theorem dX6_countFact_126 : decode cX6_countFact 126 = .ok (.aload_n 0, 1) := by decide +kernel
theorem dX6_countFact_127 : decode cX6_countFact 127 = .ok (.getfield 19, 3) := by decide +kernel
theorem dX6_countFact_130 : decode cX6_countFact 130 = .ok (.getfield 195, 3) := by decide +kernel
theorem dX6_countFact_133 : decode cX6_countFact 133 = .ok (.iconst 2, 1) := by decide +kernel
theorem dX6_countFact_134 : decode cX6_countFact 134 = .ok (.invokevirtual 266, 3) := by decide +kernel
theorem dX6_countFact_137 : decode cX6_countFact 137 = .ok (.ireturn, 1) := by decide +kernel
theorem dX6_countFact_138 : decode cX6_countFact 138 = .ok (.aload_n 0, 1) := by decide +kernel
theorem dX6_countFact_139 : decode cX6_countFact 139 = .ok (.getfield 19, 3) := by decide +kernel
theorem dX6_countFact_142 : decode cX6_countFact 142 = .ok (.getfield 136, 3) := by decide +kernel
theorem dX6_countFact_145 : decode cX6_countFact 145 = .ok (.getfield 271, 3) := by decide +kernel
theorem dX6_countFact_148 : decode cX6_countFact 148 = .ok (.ireturn, 1) := by decide +kernel
theorem dX6_countFact_149 : decode cX6_countFact 149 = .ok (.aload_n 0, 1) := by decide +kernel
theorem dX6_countFact_150 : decode cX6_countFact 150 = .ok (.getfield 19, 3) := by decide +kernel
theorem dX6_countFact_153 : decode cX6_countFact 153 = .ok (.getfield 94, 3) := by decide +kernel
theorem dX6_countFact_156 : decode cX6_countFact 156 = .ok (.invokevirtual 267, 3) := by decide +kernel
theorem dX6_countFact_159 : decode cX6_countFact 159 = .ok (.ireturn, 1) := by decide +kernel
theorem dX6_countFact_160 : decode cX6_countFact 160 = .ok (.aload_n 0, 1) := by decide +kernel
theorem dX6_countFact_161 : decode cX6_countFact 161 = .ok (.getfield 33, 3) := by decide +kernel
theorem dX6_countFact_164 : decode cX6_countFact 164 = .ok (.ireturn, 1) := by decide +kernel
theorem dX6_countFact_165 : decode cX6_countFact 165 = .ok (.aload_n 0, 1) := by decide +kernel
theorem dX6_countFact_166 : decode cX6_countFact 166 = .ok (.getfield 19, 3) := by decide +kernel
theorem dX6_countFact_169 : decode cX6_countFact 169 = .ok (.getfield 231, 3) := by decide +kernel
theorem dX6_countFact_172 : decode cX6_countFact 172 = .ok (.ireturn, 1) := by decide +kernel
theorem dX6_countFact_173 : decode cX6_countFact 173 = .ok (.aload_n 0, 1) := by decide +kernel
theorem dX6_countFact_174 : decode cX6_countFact 174 = .ok (.getfield 19, 3) := by decide +kernel
theorem dX6_countFact_177 : decode cX6_countFact 177 = .ok (.getfield 94, 3) := by decide +kernel
theorem dX6_countFact_180 : decode cX6_countFact 180 = .ok (.invokevirtual 319, 3) := by decide +kernel
theorem dX6_countFact_183 : decode cX6_countFact 183 = .ok (.ireturn, 1) := by decide +kernel
set_option maxRecDepth 20000 in
theorem ggX6_pieceSum_X0_liftNow : GoodIn wsX6_pieceSum wsX0_liftNow := goodIn_r _ [10, 11, 12, 31, 32, 33, 34, 35, 36, 37, 38, 39, 40, 41, 42] (by decide +kernel) (by decide +kernel)
set_option maxRecDepth 20000 in
theorem gX6_pieceSum_X0_liftNow : GoodIn wsX6_pieceSum (wsV RX6 281 RX0 yX0_liftNow wsX0_liftNow) := goodIn_app (goodIn_of _ (by decide +kernel)) ggX6_pieceSum_X0_liftNow
set_option maxRecDepth 20000 in
theorem ggX6_pieceSum_X0_loadOf : GoodIn wsX6_pieceSum wsX0_loadOf := goodIn_r _ [16, 17, 18, 31, 32, 33, 34, 35, 36, 37, 38, 39, 40, 41, 42] (by decide +kernel) (by decide +kernel)
set_option maxRecDepth 20000 in
theorem gX6_pieceSum_X0_loadOf : GoodIn wsX6_pieceSum (wsV RX6 284 RX0 yX0_loadOf wsX0_loadOf) := goodIn_app (goodIn_of _ (by decide +kernel)) ggX6_pieceSum_X0_loadOf
theorem dX6_pieceSum_0 : decode cX6_pieceSum 0 = .ok (.aload_n 0, 1) := by decide +kernel
theorem dX6_pieceSum_1 : decode cX6_pieceSum 1 = .ok (.getfield 19, 3) := by decide +kernel
theorem dX6_pieceSum_4 : decode cX6_pieceSum 4 = .ok (.getfield 94, 3) := by decide +kernel
theorem dX6_pieceSum_7 : decode cX6_pieceSum 7 = .ok (.astore_n 3, 1) := by decide +kernel
theorem dX6_pieceSum_8 : decode cX6_pieceSum 8 = .ok (.iconst 0, 1) := by decide +kernel
theorem dX6_pieceSum_9 : decode cX6_pieceSum 9 = .ok (.istore 4, 2) := by decide +kernel
theorem dX6_pieceSum_11 : decode cX6_pieceSum 11 = .ok (.iconst 0, 1) := by decide +kernel
theorem dX6_pieceSum_12 : decode cX6_pieceSum 12 = .ok (.istore 5, 2) := by decide +kernel
theorem dX6_pieceSum_14 : decode cX6_pieceSum 14 = .ok (.iload 5, 2) := by decide +kernel
theorem dX6_pieceSum_16 : decode cX6_pieceSum 16 = .ok (.aload_n 3, 1) := by decide +kernel
theorem dX6_pieceSum_17 : decode cX6_pieceSum 17 = .ok (.getfield 118, 3) := by decide +kernel
theorem dX6_pieceSum_20 : decode cX6_pieceSum 20 = .ok (.if_icmp .ge 92, 3) := by decide +kernel
theorem dX6_pieceSum_23 : decode cX6_pieceSum 23 = .ok (.aload_n 3, 1) := by decide +kernel
theorem dX6_pieceSum_24 : decode cX6_pieceSum 24 = .ok (.getfield 250, 3) := by decide +kernel
theorem dX6_pieceSum_27 : decode cX6_pieceSum 27 = .ok (.iload 5, 2) := by decide +kernel
theorem dX6_pieceSum_29 : decode cX6_pieceSum 29 = .ok (.iaload, 1) := by decide +kernel
theorem dX6_pieceSum_30 : decode cX6_pieceSum 30 = .ok (.iload_n 1, 1) := by decide +kernel
theorem dX6_pieceSum_31 : decode cX6_pieceSum 31 = .ok (.if_icmp .ne 75, 3) := by decide +kernel
theorem dX6_pieceSum_34 : decode cX6_pieceSum 34 = .ok (.iload_n 2, 1) := by decide +kernel
theorem dX6_pieceSum_35 : decode cX6_pieceSum 35 = .ok (.tableswitch 59 0 2 #[25, 31, 45], 25) := by decide +kernel
theorem dX6_pieceSum_60 : decode cX6_pieceSum 60 = .ok (.iinc 4 1, 3) := by decide +kernel
theorem dX6_pieceSum_63 : decode cX6_pieceSum 63 = .ok (.goto 43, 3) := by decide +kernel
theorem dX6_pieceSum_66 : decode cX6_pieceSum 66 = .ok (.iload 4, 2) := by decide +kernel
theorem dX6_pieceSum_68 : decode cX6_pieceSum 68 = .ok (.aload_n 3, 1) := by decide +kernel
theorem dX6_pieceSum_69 : decode cX6_pieceSum 69 = .ok (.iload 5, 2) := by decide +kernel
theorem dX6_pieceSum_71 : decode cX6_pieceSum 71 = .ok (.invokevirtual 281, 3) := by decide +kernel
theorem dX6_pieceSum_74 : decode cX6_pieceSum 74 = .ok (.iadd, 1) := by decide +kernel
theorem dX6_pieceSum_75 : decode cX6_pieceSum 75 = .ok (.istore 4, 2) := by decide +kernel
theorem dX6_pieceSum_77 : decode cX6_pieceSum 77 = .ok (.goto 29, 3) := by decide +kernel
theorem dX6_pieceSum_80 : decode cX6_pieceSum 80 = .ok (.iload 4, 2) := by decide +kernel
theorem dX6_pieceSum_82 : decode cX6_pieceSum 82 = .ok (.aload_n 3, 1) := by decide +kernel
theorem dX6_pieceSum_83 : decode cX6_pieceSum 83 = .ok (.iload 5, 2) := by decide +kernel
theorem dX6_pieceSum_85 : decode cX6_pieceSum 85 = .ok (.invokevirtual 284, 3) := by decide +kernel
theorem dX6_pieceSum_88 : decode cX6_pieceSum 88 = .ok (.iadd, 1) := by decide +kernel
theorem dX6_pieceSum_89 : decode cX6_pieceSum 89 = .ok (.istore 4, 2) := by decide +kernel
theorem dX6_pieceSum_91 : decode cX6_pieceSum 91 = .ok (.goto 15, 3) := by decide +kernel
theorem dX6_pieceSum_94 : decode cX6_pieceSum 94 = .ok (.iload 4, 2) := by decide +kernel
theorem dX6_pieceSum_96 : decode cX6_pieceSum 96 = .ok (.aload_n 3, 1) := by decide +kernel
theorem dX6_pieceSum_97 : decode cX6_pieceSum 97 = .ok (.getfield 204, 3) := by decide +kernel
theorem dX6_pieceSum_100 : decode cX6_pieceSum 100 = .ok (.iload 5, 2) := by decide +kernel
theorem dX6_pieceSum_102 : decode cX6_pieceSum 102 = .ok (.iaload, 1) := by decide +kernel
theorem dX6_pieceSum_103 : decode cX6_pieceSum 103 = .ok (.iadd, 1) := by decide +kernel
theorem dX6_pieceSum_104 : decode cX6_pieceSum 104 = .ok (.istore 4, 2) := by decide +kernel
theorem dX6_pieceSum_106 : decode cX6_pieceSum 106 = .ok (.iinc 5 1, 3) := by decide +kernel
theorem dX6_pieceSum_109 : decode cX6_pieceSum 109 = .ok (.goto (-95), 3) := by decide +kernel
theorem dX6_pieceSum_112 : decode cX6_pieceSum 112 = .ok (.iload 4, 2) := by decide +kernel
theorem dX6_pieceSum_114 : decode cX6_pieceSum 114 = .ok (.ireturn, 1) := by decide +kernel
set_option maxRecDepth 20000 in
theorem ggX6_singleLashings_X5_countApart : GoodIn wsX6_singleLashings wsX5_countApart := goodIn_r _ [13, 14, 15, 16, 17, 18, 19, 20, 21, 22, 12, 23, 24, 25, 26, 27, 28, 29, 30, 31, 32, 33, 34, 35, 36, 37, 38, 39, 40, 41, 42, 43, 44, 45, 75, 76, 77, 78, 58, 59, 60, 61, 62] (by decide +kernel) (by decide +kernel)
set_option maxRecDepth 20000 in
theorem gX6_singleLashings_X5_countApart : GoodIn wsX6_singleLashings (wsV RX6 243 RX5 yX5_countApart wsX5_countApart) := goodIn_app (goodIn_of _ (by decide +kernel)) ggX6_singleLashings_X5_countApart
theorem dX6_singleLashings_0 : decode cX6_singleLashings 0 = .ok (.aload_n 0, 1) := by decide +kernel
theorem dX6_singleLashings_1 : decode cX6_singleLashings 1 = .ok (.getfield 19, 3) := by decide +kernel
theorem dX6_singleLashings_4 : decode cX6_singleLashings 4 = .ok (.getfield 136, 3) := by decide +kernel
theorem dX6_singleLashings_7 : decode cX6_singleLashings 7 = .ok (.astore_n 2, 1) := by decide +kernel
theorem dX6_singleLashings_8 : decode cX6_singleLashings 8 = .ok (.iconst 0, 1) := by decide +kernel
theorem dX6_singleLashings_9 : decode cX6_singleLashings 9 = .ok (.istore_n 3, 1) := by decide +kernel
theorem dX6_singleLashings_10 : decode cX6_singleLashings 10 = .ok (.iconst 0, 1) := by decide +kernel
theorem dX6_singleLashings_11 : decode cX6_singleLashings 11 = .ok (.istore 4, 2) := by decide +kernel
theorem dX6_singleLashings_13 : decode cX6_singleLashings 13 = .ok (.iload 4, 2) := by decide +kernel
theorem dX6_singleLashings_15 : decode cX6_singleLashings 15 = .ok (.aload_n 2, 1) := by decide +kernel
theorem dX6_singleLashings_16 : decode cX6_singleLashings 16 = .ok (.getfield 271, 3) := by decide +kernel
theorem dX6_singleLashings_19 : decode cX6_singleLashings 19 = .ok (.if_icmp .ge 59, 3) := by decide +kernel
theorem dX6_singleLashings_22 : decode cX6_singleLashings 22 = .ok (.aload_n 2, 1) := by decide +kernel
theorem dX6_singleLashings_23 : decode cX6_singleLashings 23 = .ok (.getfield 275, 3) := by decide +kernel
theorem dX6_singleLashings_26 : decode cX6_singleLashings 26 = .ok (.iload 4, 2) := by decide +kernel
theorem dX6_singleLashings_28 : decode cX6_singleLashings 28 = .ok (.iaload, 1) := by decide +kernel
theorem dX6_singleLashings_29 : decode cX6_singleLashings 29 = .ok (.istore 5, 2) := by decide +kernel
theorem dX6_singleLashings_31 : decode cX6_singleLashings 31 = .ok (.aload_n 0, 1) := by decide +kernel
theorem dX6_singleLashings_32 : decode cX6_singleLashings 32 = .ok (.getfield 19, 3) := by decide +kernel
theorem dX6_singleLashings_35 : decode cX6_singleLashings 35 = .ok (.getfield 94, 3) := by decide +kernel
theorem dX6_singleLashings_38 : decode cX6_singleLashings 38 = .ok (.getfield 250, 3) := by decide +kernel
theorem dX6_singleLashings_41 : decode cX6_singleLashings 41 = .ok (.iload 5, 2) := by decide +kernel
theorem dX6_singleLashings_43 : decode cX6_singleLashings 43 = .ok (.iaload, 1) := by decide +kernel
theorem dX6_singleLashings_44 : decode cX6_singleLashings 44 = .ok (.iload_n 1, 1) := by decide +kernel
theorem dX6_singleLashings_45 : decode cX6_singleLashings 45 = .ok (.if_icmp .ne 27, 3) := by decide +kernel
theorem dX6_singleLashings_48 : decode cX6_singleLashings 48 = .ok (.aload_n 0, 1) := by decide +kernel
