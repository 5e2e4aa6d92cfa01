set_option maxRecDepth 20000 in
theorem ggX3_wearLashings_X3_findPieces : GoodIn wsX3_wearLashings wsX3_findPieces := goodIn_r _ [70, 12, 1, 2, 10, 11, 71, 72, 73, 41, 74, 75, 76, 77, 78, 79, 80, 81, 82, 83, 17, 84, 85, 86, 87, 88, 89, 90, 91, 92, 93, 94, 95, 96, 97, 98, 99, 100, 101, 102, 103, 104, 105, 106, 107, 108, 109, 110, 111] (by decide +kernel) (by decide +kernel)
set_option maxRecDepth 20000 in
theorem gX3_wearLashings_X3_findPieces : GoodIn wsX3_wearLashings (wsV RX3 146 RX3 yX3_findPieces wsX3_findPieces) := goodIn_app (goodIn_of _ (by decide +kernel)) ggX3_wearLashings_X3_findPieces
theorem dX3_wearLashings_0 : decode cX3_wearLashings 0 = .ok (.aload_n 0, 1) := by decide +kernel
theorem dX3_wearLashings_1 : decode cX3_wearLashings 1 = .ok (.getfield 28, 3) := by decide +kernel
theorem dX3_wearLashings_4 : decode cX3_wearLashings 4 = .ok (.getfield 59, 3) := by decide +kernel
theorem dX3_wearLashings_7 : decode cX3_wearLashings 7 = .ok (.istore_n 2, 1) := by decide +kernel
theorem dX3_wearLashings_8 : decode cX3_wearLashings 8 = .ok (.iconst 0, 1) := by decide +kernel
theorem dX3_wearLashings_9 : decode cX3_wearLashings 9 = .ok (.istore_n 3, 1) := by decide +kernel
theorem dX3_wearLashings_10 : decode cX3_wearLashings 10 = .ok (.iload_n 3, 1) := by decide +kernel
theorem dX3_wearLashings_11 : decode cX3_wearLashings 11 = .ok (.iload_n 2, 1) := by decide +kernel
theorem dX3_wearLashings_12 : decode cX3_wearLashings 12 = .ok (.if_icmp .ge 57, 3) := by decide +kernel
theorem dX3_wearLashings_15 : decode cX3_wearLashings 15 = .ok (.aload_n 0, 1) := by decide +kernel
theorem dX3_wearLashings_16 : decode cX3_wearLashings 16 = .ok (.iload_n 3, 1) := by decide +kernel
theorem dX3_wearLashings_17 : decode cX3_wearLashings 17 = .ok (.aload_n 1, 1) := by decide +kernel
theorem dX3_wearLashings_18 : decode cX3_wearLashings 18 = .ok (.invokevirtual 129, 3) := by decide +kernel
theorem dX3_wearLashings_21 : decode cX3_wearLashings 21 = .ok (.istore 4, 2) := by decide +kernel
theorem dX3_wearLashings_23 : decode cX3_wearLashings 23 = .ok (.iload 4, 2) := by decide +kernel
theorem dX3_wearLashings_25 : decode cX3_wearLashings 25 = .ok (.aload_n 0, 1) := by decide +kernel
theorem dX3_wearLashings_26 : decode cX3_wearLashings 26 = .ok (.getfield 28, 3) := by decide +kernel
theorem dX3_wearLashings_29 : decode cX3_wearLashings 29 = .ok (.iload_n 3, 1) := by decide +kernel
theorem dX3_wearLashings_30 : decode cX3_wearLashings 30 = .ok (.invokevirtual 133, 3) := by decide +kernel
theorem dX3_wearLashings_33 : decode cX3_wearLashings 33 = .ok (.if_icmp .le 14, 3) := by decide +kernel
theorem dX3_wearLashings_36 : decode cX3_wearLashings 36 = .ok (.aload_n 0, 1) := by decide +kernel
theorem dX3_wearLashings_37 : decode cX3_wearLashings 37 = .ok (.getfield 28, 3) := by decide +kernel
theorem dX3_wearLashings_40 : decode cX3_wearLashings 40 = .ok (.iload_n 3, 1) := by decide +kernel
theorem dX3_wearLashings_41 : decode cX3_wearLashings 41 = .ok (.invokevirtual 136, 3) := by decide +kernel
theorem dX3_wearLashings_44 : decode cX3_wearLashings 44 = .ok (.goto 19, 3) := by decide +kernel
theorem dX3_wearLashings_47 : decode cX3_wearLashings 47 = .ok (.aload_n 0, 1) := by decide +kernel
theorem dX3_wearLashings_48 : decode cX3_wearLashings 48 = .ok (.getfield 28, 3) := by decide +kernel
theorem dX3_wearLashings_51 : decode cX3_wearLashings 51 = .ok (.getfield 140, 3) := by decide +kernel
theorem dX3_wearLashings_54 : decode cX3_wearLashings 54 = .ok (.iload_n 3, 1) := by decide +kernel
theorem dX3_wearLashings_55 : decode cX3_wearLashings 55 = .ok (.dup2, 1) := by decide +kernel
theorem dX3_wearLashings_56 : decode cX3_wearLashings 56 = .ok (.iaload, 1) := by decide +kernel
theorem dX3_wearLashings_57 : decode cX3_wearLashings 57 = .ok (.iload 4, 2) := by decide +kernel
theorem dX3_wearLashings_59 : decode cX3_wearLashings 59 = .ok (.iconst 4, 1) := by decide +kernel
theorem dX3_wearLashings_60 : decode cX3_wearLashings 60 = .ok (.idiv, 1) := by decide +kernel
theorem dX3_wearLashings_61 : decode cX3_wearLashings 61 = .ok (.iadd, 1) := by decide +kernel
theorem dX3_wearLashings_62 : decode cX3_wearLashings 62 = .ok (.iastore, 1) := by decide +kernel
theorem dX3_wearLashings_63 : decode cX3_wearLashings 63 = .ok (.iinc 3 1, 3) := by decide +kernel
theorem dX3_wearLashings_66 : decode cX3_wearLashings 66 = .ok (.goto (-56), 3) := by decide +kernel
theorem dX3_wearLashings_69 : decode cX3_wearLashings 69 = .ok (.aload_n 0, 1) := by decide +kernel
theorem dX3_wearLashings_70 : decode cX3_wearLashings 70 = .ok (.getfield 28, 3) := by decide +kernel
theorem dX3_wearLashings_73 : decode cX3_wearLashings 73 = .ok (.invokevirtual 143, 3) := by decide +kernel
theorem dX3_wearLashings_76 : decode cX3_wearLashings 76 = .ok (.aload_n 0, 1) := by decide +kernel
theorem dX3_wearLashings_77 : decode cX3_wearLashings 77 = .ok (.getfield 28, 3) := by decide +kernel
theorem dX3_wearLashings_80 : decode cX3_wearLashings 80 = .ok (.getfield 59, 3) := by decide +kernel
theorem dX3_wearLashings_83 : decode cX3_wearLashings 83 = .ok (.iload_n 2, 1) := by decide +kernel
theorem dX3_wearLashings_84 : decode cX3_wearLashings 84 = .ok (.if_icmp .ge 25, 3) := by decide +kernel
theorem dX3_wearLashings_87 : decode cX3_wearLashings 87 = .ok (.aload_n 0, 1) := by decide +kernel
theorem dX3_wearLashings_88 : decode cX3_wearLashings 88 = .ok (.dup, 1) := by decide +kernel
theorem dX3_wearLashings_89 : decode cX3_wearLashings 89 = .ok (.getfield 53, 3) := by decide +kernel
theorem dX3_wearLashings_92 : decode cX3_wearLashings 92 = .ok (.iload_n 2, 1) := by decide +kernel
theorem dX3_wearLashings_93 : decode cX3_wearLashings 93 = .ok (.aload_n 0, 1) := by decide +kernel
theorem dX3_wearLashings_94 : decode cX3_wearLashings 94 = .ok (.getfield 28, 3) := by decide +kernel
theorem dX3_wearLashings_97 : decode cX3_wearLashings 97 = .ok (.getfield 59, 3) := by decide +kernel
theorem dX3_wearLashings_100 : decode cX3_wearLashings 100 = .ok (.isub, 1) := by decide +kernel
theorem dX3_wearLashings_101 : decode cX3_wearLashings 101 = .ok (.iadd, 1) := by decide +kernel
theorem dX3_wearLashings_102 : decode cX3_wearLashings 102 = .ok (.putfield 53, 3) := by decide +kernel
theorem dX3_wearLashings_105 : decode cX3_wearLashings 105 = .ok (.aload_n 0, 1) := by decide +kernel
theorem dX3_wearLashings_106 : decode cX3_wearLashings 106 = .ok (.invokevirtual 146, 3) := by decide +kernel
theorem dX3_wearLashings_109 : decode cX3_wearLashings 109 = .ok (.return_, 1) := by decide +kernel
set_option maxRecDepth 20000 in
theorem ggX3_drift_X3_weighPieces : GoodIn wsX3_drift wsX3_weighPieces := goodIn_r _ [10, 1, 2, 11, 12, 3, 13, 14, 15, 16, 17, 18, 19, 20, 21, 22, 23, 24, 25, 63, 64, 65, 66, 67, 68, 69, 70, 71, 72, 73, 74, 75, 76, 77, 78, 79, 80, 81] (by decide +kernel) (by decide +kernel)
set_option maxRecDepth 20000 in
theorem gX3_drift_X3_weighPieces : GoodIn wsX3_drift (wsV RX3 116 RX3 yX3_weighPieces wsX3_weighPieces) := goodIn_app (goodIn_of _ (by decide +kernel)) ggX3_drift_X3_weighPieces
set_option maxRecDepth 20000 in
theorem ggX3_drift_X3_driftPiece : GoodIn wsX3_drift wsX3_driftPiece := goodIn_r _ [29, 1, 4, 5, 12, 11, 30, 31, 32, 33, 34, 35, 36, 37, 38, 39, 40, 41, 42, 43, 44, 45, 46, 47, 48, 49, 50, 51, 52, 53, 54, 55, 56, 57, 58, 59, 60, 61, 62, 63, 64, 65, 66, 67, 68, 69, 70, 71, 72, 73, 74, 75, 76, 77, 78, 79, 80, 81, 82, 83, 84, 85, 86, 87, 88] (by decide +kernel) (by decide +kernel)
set_option maxRecDepth 20000 in
theorem gX3_drift_X3_driftPiece : GoodIn wsX3_drift (wsV RX3 149 RX3 yX3_driftPiece wsX3_driftPiece) := goodIn_app (goodIn_of _ (by decide +kernel)) ggX3_drift_X3_driftPiece
theorem dX3_drift_0 : decode cX3_drift 0 = .ok (.aload_n 0, 1) := by decide +kernel
theorem dX3_drift_1 : decode cX3_drift 1 = .ok (.invokevirtual 116, 3) := by decide +kernel
theorem dX3_drift_4 : decode cX3_drift 4 = .ok (.iconst 0, 1) := by decide +kernel
theorem dX3_drift_5 : decode cX3_drift 5 = .ok (.istore_n 2, 1) := by decide +kernel
theorem dX3_drift_6 : decode cX3_drift 6 = .ok (.iload_n 2, 1) := by decide +kernel
theorem dX3_drift_7 : decode cX3_drift 7 = .ok (.aload_n 0, 1) := by decide +kernel
theorem dX3_drift_8 : decode cX3_drift 8 = .ok (.getfield 12, 3) := by decide +kernel
theorem dX3_drift_11 : decode cX3_drift 11 = .ok (.getfield 119, 3) := by decide +kernel
theorem dX3_drift_14 : decode cX3_drift 14 = .ok (.if_icmp .ge 73, 3) := by decide +kernel
theorem dX3_drift_17 : decode cX3_drift 17 = .ok (.aload_n 0, 1) := by decide +kernel
theorem dX3_drift_18 : decode cX3_drift 18 = .ok (.getfield 12, 3) := by decide +kernel
theorem dX3_drift_21 : decode cX3_drift 21 = .ok (.getfield 120, 3) := by decide +kernel
theorem dX3_drift_24 : decode cX3_drift 24 = .ok (.iload_n 2, 1) := by decide +kernel
theorem dX3_drift_25 : decode cX3_drift 25 = .ok (.iaload, 1) := by decide +kernel
theorem dX3_drift_26 : decode cX3_drift 26 = .ok (.istore_n 3, 1) := by decide +kernel
theorem dX3_drift_27 : decode cX3_drift 27 = .ok (.iload_n 3, 1) := by decide +kernel
theorem dX3_drift_28 : decode cX3_drift 28 = .ok (.iload_n 2, 1) := by decide +kernel
theorem dX3_drift_29 : decode cX3_drift 29 = .ok (.if_icmp .ne 12, 3) := by decide +kernel
theorem dX3_drift_32 : decode cX3_drift 32 = .ok (.aload_n 0, 1) := by decide +kernel
theorem dX3_drift_33 : decode cX3_drift 33 = .ok (.iload_n 2, 1) := by decide +kernel
theorem dX3_drift_34 : decode cX3_drift 34 = .ok (.aload_n 1, 1) := by decide +kernel
theorem dX3_drift_35 : decode cX3_drift 35 = .ok (.invokevirtual 149, 3) := by decide +kernel
theorem dX3_drift_38 : decode cX3_drift 38 = .ok (.goto 43, 3) := by decide +kernel
theorem dX3_drift_41 : decode cX3_drift 41 = .ok (.iload_n 3, 1) := by decide +kernel
theorem dX3_drift_42 : decode cX3_drift 42 = .ok (.ifCond .lt 39, 3) := by decide +kernel
theorem dX3_drift_45 : decode cX3_drift 45 = .ok (.aload_n 0, 1) := by decide +kernel
theorem dX3_drift_46 : decode cX3_drift 46 = .ok (.getfield 12, 3) := by decide +kernel
theorem dX3_drift_49 : decode cX3_drift 49 = .ok (.getfield 72, 3) := by decide +kernel
theorem dX3_drift_52 : decode cX3_drift 52 = .ok (.iload_n 2, 1) := by decide +kernel
theorem dX3_drift_53 : decode cX3_drift 53 = .ok (.aload_n 0, 1) := by decide +kernel
theorem dX3_drift_54 : decode cX3_drift 54 = .ok (.getfield 12, 3) := by decide +kernel
theorem dX3_drift_57 : decode cX3_drift 57 = .ok (.getfield 72, 3) := by decide +kernel
theorem dX3_drift_60 : decode cX3_drift 60 = .ok (.iload_n 3, 1) := by decide +kernel
theorem dX3_drift_61 : decode cX3_drift 61 = .ok (.iaload, 1) := by decide +kernel
theorem dX3_drift_62 : decode cX3_drift 62 = .ok (.iastore, 1) := by decide +kernel
theorem dX3_drift_63 : decode cX3_drift 63 = .ok (.aload_n 0, 1) := by decide +kernel
theorem dX3_drift_64 : decode cX3_drift 64 = .ok (.getfield 12, 3) := by decide +kernel
theorem dX3_drift_67 : decode cX3_drift 67 = .ok (.getfield 75, 3) := by decide +kernel
theorem dX3_drift_70 : decode cX3_drift 70 = .ok (.iload_n 2, 1) := by decide +kernel
theorem dX3_drift_71 : decode cX3_drift 71 = .ok (.aload_n 0, 1) := by decide +kernel
theorem dX3_drift_72 : decode cX3_drift 72 = .ok (.getfield 12, 3) := by decide +kernel
theorem dX3_drift_75 : decode cX3_drift 75 = .ok (.getfield 75, 3) := by decide +kernel
theorem dX3_drift_78 : decode cX3_drift 78 = .ok (.iload_n 3, 1) := by decide +kernel
theorem dX3_drift_79 : decode cX3_drift 79 = .ok (.iaload, 1) := by decide +kernel
theorem dX3_drift_80 : decode cX3_drift 80 = .ok (.iastore, 1) := by decide +kernel
theorem dX3_drift_81 : decode cX3_drift 81 = .ok (.iinc 2 1, 3) := by decide +kernel
theorem dX3_drift_84 : decode cX3_drift 84 = .ok (.goto (-78), 3) := by decide +kernel
theorem dX3_drift_87 : decode cX3_drift 87 = .ok (.return_, 1) := by decide +kernel
set_option maxRecDepth 20000 in
theorem ggX3_driftPiece_X4_at : GoodIn wsX3_driftPiece wsX4_at := goodIn_r _ [19, 20, 21, 22, 23, 58, 59, 60, 61, 62, 63, 64] (by decide +kernel) (by decide +kernel)
set_option maxRecDepth 20000 in
theorem gX3_driftPiece_X4_at : GoodIn wsX3_driftPiece (wsV RX3 78 RX4 yX4_at wsX4_at) := goodIn_app (goodIn_of _ (by decide +kernel)) ggX3_driftPiece_X4_at
set_option maxRecDepth 20000 in
theorem ggX3_driftPiece_X4_dxOf : GoodIn wsX3_driftPiece wsX4_dxOf := goodIn_r _ [27, 28, 29, 30, 31, 18, 32, 33, 58, 59, 60, 61, 62, 63, 64] (by decide +kernel) (by decide +kernel)
set_option maxRecDepth 20000 in
theorem gX3_driftPiece_X4_dxOf : GoodIn wsX3_driftPiece (wsV RX3 153 RX4 yX4_dxOf wsX4_dxOf) := goodIn_app (goodIn_of _ (by decide +kernel)) ggX3_driftPiece_X4_dxOf
set_option maxRecDepth 20000 in
theorem ggX3_driftPiece_X4_dyOf : GoodIn wsX3_driftPiece wsX4_dyOf := goodIn_r _ [37, 38, 29, 30, 31, 18, 32, 33, 58, 59, 60, 61, 62, 63, 64] (by decide +kernel) (by decide +kernel)
set_option maxRecDepth 20000 in
theorem gX3_driftPiece_X4_dyOf : GoodIn wsX3_driftPiece (wsV RX3 156 RX4 yX4_dyOf wsX4_dyOf) := goodIn_app (goodIn_of _ (by decide +kernel)) ggX3_driftPiece_X4_dyOf
theorem dX3_driftPiece_0 : decode cX3_driftPiece 0 = .ok (.aload_n 2, 1) := by decide +kernel
theorem dX3_driftPiece_1 : decode cX3_driftPiece 1 = .ok (.aload_n 0, 1) := by decide +kernel
theorem dX3_driftPiece_2 : decode cX3_driftPiece 2 = .ok (.getfield 12, 3) := by decide +kernel
theorem dX3_driftPiece_5 : decode cX3_driftPiece 5 = .ok (.getfield 72, 3) := by decide +kernel
theorem dX3_driftPiece_8 : decode cX3_driftPiece 8 = .ok (.iload_n 1, 1) := by decide +kernel
theorem dX3_driftPiece_9 : decode cX3_driftPiece 9 = .ok (.iaload, 1) := by decide +kernel
theorem dX3_driftPiece_10 : decode cX3_driftPiece 10 = .ok (.aload_n 0, 1) := by decide +kernel
theorem dX3_driftPiece_11 : decode cX3_driftPiece 11 = .ok (.getfield 12, 3) := by decide +kernel
theorem dX3_driftPiece_14 : decode cX3_driftPiece 14 = .ok (.getfield 75, 3) := by decide +kernel
theorem dX3_driftPiece_17 : decode cX3_driftPiece 17 = .ok (.iload_n 1, 1) := by decide +kernel
theorem dX3_driftPiece_18 : decode cX3_driftPiece 18 = .ok (.iaload, 1) := by decide +kernel
theorem dX3_driftPiece_19 : decode cX3_driftPiece 19 = .ok (.invokevirtual 78, 3) := by decide +kernel
theorem dX3_driftPiece_22 : decode cX3_driftPiece 22 = .ok (.istore_n 3, 1) := by decide +kernel
theorem dX3_driftPiece_23 : decode cX3_driftPiece 23 = .ok (.aload_n 2, 1) := by decide +kernel
theorem dX3_driftPiece_24 : decode cX3_driftPiece 24 = .ok (.iload_n 3, 1) := by decide +kernel
theorem dX3_driftPiece_25 : decode cX3_driftPiece 25 = .ok (.invokevirtual 153, 3) := by decide +kernel
theorem dX3_driftPiece_28 : decode cX3_driftPiece 28 = .ok (.istore 4, 2) := by decide +kernel
theorem dX3_driftPiece_30 : decode cX3_driftPiece 30 = .ok (.aload_n 2, 1) := by decide +kernel
theorem dX3_driftPiece_31 : decode cX3_driftPiece 31 = .ok (.iload_n 3, 1) := by decide +kernel
theorem dX3_driftPiece_32 : decode cX3_driftPiece 32 = .ok (.invokevirtual 156, 3) := by decide +kernel
theorem dX3_driftPiece_35 : decode cX3_driftPiece 35 = .ok (.istore 5, 2) := by decide +kernel
theorem dX3_driftPiece_37 : decode cX3_driftPiece 37 = .ok (.iconst 2, 1) := by decide +kernel
theorem dX3_driftPiece_38 : decode cX3_driftPiece 38 = .ok (.aload_n 0, 1) := by decide +kernel
theorem dX3_driftPiece_39 : decode cX3_driftPiece 39 = .ok (.getfield 36, 3) := by decide +kernel
theorem dX3_driftPiece_42 : decode cX3_driftPiece 42 = .ok (.iload_n 1, 1) := by decide +kernel
theorem dX3_driftPiece_43 : decode cX3_driftPiece 43 = .ok (.iaload, 1) := by decide +kernel
theorem dX3_driftPiece_44 : decode cX3_driftPiece 44 = .ok (.imul, 1) := by decide +kernel
theorem dX3_driftPiece_45 : decode cX3_driftPiece 45 = .ok (.aload_n 0, 1) := by decide +kernel
theorem dX3_driftPiece_46 : decode cX3_driftPiece 46 = .ok (.getfield 32, 3) := by decide +kernel
theorem dX3_driftPiece_49 : decode cX3_driftPiece 49 = .ok (.iload_n 1, 1) := by decide +kernel
theorem dX3_driftPiece_50 : decode cX3_driftPiece 50 = .ok (.iaload, 1) := by decide +kernel
theorem dX3_driftPiece_51 : decode cX3_driftPiece 51 = .ok (.if_icmp .ge 21, 3) := by decide +kernel
theorem dX3_driftPiece_54 : decode cX3_driftPiece 54 = .ok (.iload 4, 2) := by decide +kernel
theorem dX3_driftPiece_56 : decode cX3_driftPiece 56 = .ok (.aload_n 2, 1) := by decide +kernel
theorem dX3_driftPiece_57 : decode cX3_driftPiece 57 = .ok (.getfield 159, 3) := by decide +kernel
theorem dX3_driftPiece_60 : decode cX3_driftPiece 60 = .ok (.iadd, 1) := by decide +kernel
theorem dX3_driftPiece_61 : decode cX3_driftPiece 61 = .ok (.istore 4, 2) := by decide +kernel
theorem dX3_driftPiece_63 : decode cX3_driftPiece 63 = .ok (.iload 5, 2) := by decide +kernel
theorem dX3_driftPiece_65 : decode cX3_driftPiece 65 = .ok (.aload_n 2, 1) := by decide +kernel
theorem dX3_driftPiece_66 : decode cX3_driftPiece 66 = .ok (.getfield 162, 3) := by decide +kernel
theorem dX3_driftPiece_69 : decode cX3_driftPiece 69 = .ok (.iadd, 1) := by decide +kernel
theorem dX3_driftPiece_70 : decode cX3_driftPiece 70 = .ok (.istore 5, 2) := by decide +kernel
theorem dX3_driftPiece_72 : decode cX3_driftPiece 72 = .ok (.aload_n 0, 1) := by decide +kernel
theorem dX3_driftPiece_73 : decode cX3_driftPiece 73 = .ok (.getfield 12, 3) := by decide +kernel
theorem dX3_driftPiece_76 : decode cX3_driftPiece 76 = .ok (.getfield 72, 3) := by decide +kernel
theorem dX3_driftPiece_79 : decode cX3_driftPiece 79 = .ok (.iload_n 1, 1) := by decide +kernel
theorem dX3_driftPiece_80 : decode cX3_driftPiece 80 = .ok (.iconst 0, 1) := by decide +kernel
theorem dX3_driftPiece_81 : decode cX3_driftPiece 81 = .ok (.bipush 29, 2) := by decide +kernel
theorem dX3_driftPiece_83 : decode cX3_driftPiece 83 = .ok (.aload_n 0, 1) := by decide +kernel
theorem dX3_driftPiece_84 : decode cX3_driftPiece 84 = .ok (.getfield 12, 3) := by decide +kernel
theorem dX3_driftPiece_87 : decode cX3_driftPiece 87 = .ok (.getfield 72, 3) := by decide +kernel
theorem dX3_driftPiece_90 : decode cX3_driftPiece 90 = .ok (.iload_n 1, 1) := by decide +kernel
theorem dX3_driftPiece_91 : decode cX3_driftPiece 91 = .ok (.iaload, 1) := by decide +kernel
theorem dX3_driftPiece_92 : decode cX3_driftPiece 92 = .ok (.iload 4, 2) := by decide +kernel
theorem dX3_driftPiece_94 : decode cX3_driftPiece 94 = .ok (.iadd, 1) := by decide +kernel
theorem dX3_driftPiece_95 : decode cX3_driftPiece 95 = .ok (.invokestatic 165, 3) := by decide +kernel
theorem dX3_driftPiece_98 : decode cX3_driftPiece 98 = .ok (.invokestatic 168, 3) := by decide +kernel
theorem dX3_driftPiece_101 : decode cX3_driftPiece 101 = .ok (.iastore, 1) := by decide +kernel
theorem dX3_driftPiece_102 : decode cX3_driftPiece 102 = .ok (.aload_n 0, 1) := by decide +kernel
theorem dX3_driftPiece_103 : decode cX3_driftPiece 103 = .ok (.getfield 12, 3) := by decide +kernel
theorem dX3_driftPiece_106 : decode cX3_driftPiece 106 = .ok (.getfield 75, 3) := by decide +kernel
theorem dX3_driftPiece_109 : decode cX3_driftPiece 109 = .ok (.iload_n 1, 1) := by decide +kernel
theorem dX3_driftPiece_110 : decode cX3_driftPiece 110 = .ok (.iconst 0, 1) := by decide +kernel
theorem dX3_driftPiece_111 : decode cX3_driftPiece 111 = .ok (.bipush 19, 2) := by decide +kernel
theorem dX3_driftPiece_113 : decode cX3_driftPiece 113 = .ok (.aload_n 0, 1) := by decide +kernel
theorem dX3_driftPiece_114 : decode cX3_driftPiece 114 = .ok (.getfield 12, 3) := by decide +kernel
theorem dX3_driftPiece_117 : decode cX3_driftPiece 117 = .ok (.getfield 75, 3) := by decide +kernel
theorem dX3_driftPiece_120 : decode cX3_driftPiece 120 = .ok (.iload_n 1, 1) := by decide +kernel
theorem dX3_driftPiece_121 : decode cX3_driftPiece 121 = .ok (.iaload, 1) := by decide +kernel
theorem dX3_driftPiece_122 : decode cX3_driftPiece 122 = .ok (.iload 5, 2) := by decide +kernel
theorem dX3_driftPiece_124 : decode cX3_driftPiece 124 = .ok (.iadd, 1) := by decide +kernel
theorem dX3_driftPiece_125 : decode cX3_driftPiece 125 = .ok (.invokestatic 165, 3) := by decide +kernel
theorem dX3_driftPiece_128 : decode cX3_driftPiece 128 = .ok (.invokestatic 168, 3) := by decide +kernel
theorem dX3_driftPiece_131 : decode cX3_driftPiece 131 = .ok (.iastore, 1) := by decide +kernel
theorem dX3_driftPiece_132 : decode cX3_driftPiece 132 = .ok (.return_, 1) := by decide +kernel
set_option maxRecDepth 20000 in
theorem ggX3_saveAshore_X0_floats : GoodIn wsX3_saveAshore wsX0_floats := goodIn_r _ [8, 9, 10, 11, 12, 7, 13, 14, 66, 67, 68, 69, 70, 71, 72, 73, 74, 75, 76, 77] (by decide +kernel) (by decide +kernel)
set_option maxRecDepth 20000 in
theorem gX3_saveAshore_X0_floats : GoodIn wsX3_saveAshore (wsV RX3 171 RX0 yX0_floats wsX0_floats) := goodIn_app (goodIn_of _ (by decide +kernel)) ggX3_saveAshore_X0_floats
set_option maxRecDepth 20000 in
theorem ggX3_saveAshore_X0_end : GoodIn wsX3_saveAshore wsX0_end := goodIn_r _ [18, 9, 19, 20, 21, 66, 67, 68, 69, 70, 71, 72, 73, 74, 75, 76, 77] (by decide +kernel) (by decide +kernel)
set_option maxRecDepth 20000 in
theorem gX3_saveAshore_X0_end : GoodIn wsX3_saveAshore (wsV RX3 123 RX0 yX0_end wsX0_end) := goodIn_app (goodIn_of _ (by decide +kernel)) ggX3_saveAshore_X0_end
set_option maxRecDepth 20000 in
theorem ggX3_saveAshore_X3_leaveEnded : GoodIn wsX3_saveAshore wsX3_leaveEnded := goodIn_r _ [26, 27, 1, 28, 29, 30, 31, 32, 33, 34, 35, 36, 37, 38, 39, 40, 11, 12, 7, 13, 14, 4, 5, 6, 8, 9, 10, 41, 42, 43, 44, 45, 46, 47, 48, 49, 50, 51, 52, 53, 54, 55, 56, 57, 58, 59, 60, 61, 62, 63, 64, 65, 78, 79, 80, 81, 82, 83, 84, 85, 66, 67, 68, 69, 70, 71, 72, 73, 74, 75, 76, 77] (by decide +kernel) (by decide +kernel)
set_option maxRecDepth 20000 in
theorem gX3_saveAshore_X3_leaveEnded : GoodIn wsX3_saveAshore (wsV RX3 126 RX3 yX3_leaveEnded wsX3_leaveEnded) := goodIn_app (goodIn_of _ (by decide +kernel)) ggX3_saveAshore_X3_leaveEnded
theorem dX3_saveAshore_0 : decode cX3_saveAshore 0 = .ok (.iconst 0, 1) := by decide +kernel
theorem dX3_saveAshore_1 : decode cX3_saveAshore 1 = .ok (.istore_n 1, 1) := by decide +kernel
theorem dX3_saveAshore_2 : decode cX3_saveAshore 2 = .ok (.iconst 0, 1) := by decide +kernel
theorem dX3_saveAshore_3 : decode cX3_saveAshore 3 = .ok (.istore_n 2, 1) := by decide +kernel
theorem dX3_saveAshore_4 : decode cX3_saveAshore 4 = .ok (.iload_n 2, 1) := by decide +kernel
theorem dX3_saveAshore_5 : decode cX3_saveAshore 5 = .ok (.aload_n 0, 1) := by decide +kernel
theorem dX3_saveAshore_6 : decode cX3_saveAshore 6 = .ok (.getfield 12, 3) := by decide +kernel
theorem dX3_saveAshore_9 : decode cX3_saveAshore 9 = .ok (.getfield 119, 3) := by decide +kernel
theorem dX3_saveAshore_12 : decode cX3_saveAshore 12 = .ok (.if_icmp .ge 45, 3) := by decide +kernel
theorem dX3_saveAshore_15 : decode cX3_saveAshore 15 = .ok (.aload_n 0, 1) := by decide +kernel
theorem dX3_saveAshore_16 : decode cX3_saveAshore 16 = .ok (.getfield 12, 3) := by decide +kernel
theorem dX3_saveAshore_19 : decode cX3_saveAshore 19 = .ok (.iload_n 2, 1) := by decide +kernel
theorem dX3_saveAshore_20 : decode cX3_saveAshore 20 = .ok (.invokevirtual 171, 3) := by decide +kernel
theorem dX3_saveAshore_23 : decode cX3_saveAshore 23 = .ok (.ifCond .eq 28, 3) := by decide +kernel
theorem dX3_saveAshore_26 : decode cX3_saveAshore 26 = .ok (.aload_n 0, 1) := by decide +kernel
theorem dX3_saveAshore_27 : decode cX3_saveAshore 27 = .ok (.getfield 12, 3) := by decide +kernel
theorem dX3_saveAshore_30 : decode cX3_saveAshore 30 = .ok (.getfield 72, 3) := by decide +kernel
theorem dX3_saveAshore_33 : decode cX3_saveAshore 33 = .ok (.iload_n 2, 1) := by decide +kernel
theorem dX3_saveAshore_34 : decode cX3_saveAshore 34 = .ok (.iaload, 1) := by decide +kernel
theorem dX3_saveAshore_35 : decode cX3_saveAshore 35 = .ok (.bipush 29, 2) := by decide +kernel
theorem dX3_saveAshore_37 : decode cX3_saveAshore 37 = .ok (.if_icmp .ne 14, 3) := by decide +kernel
theorem dX3_saveAshore_40 : decode cX3_saveAshore 40 = .ok (.aload_n 0, 1) := by decide +kernel
theorem dX3_saveAshore_41 : decode cX3_saveAshore 41 = .ok (.getfield 12, 3) := by decide +kernel
theorem dX3_saveAshore_44 : decode cX3_saveAshore 44 = .ok (.iload_n 2, 1) := by decide +kernel
theorem dX3_saveAshore_45 : decode cX3_saveAshore 45 = .ok (.iconst 2, 1) := by decide +kernel
theorem dX3_saveAshore_46 : decode cX3_saveAshore 46 = .ok (.invokevirtual 123, 3) := by decide +kernel
theorem dX3_saveAshore_49 : decode cX3_saveAshore 49 = .ok (.iconst 1, 1) := by decide +kernel
theorem dX3_saveAshore_50 : decode cX3_saveAshore 50 = .ok (.istore_n 1, 1) := by decide +kernel
theorem dX3_saveAshore_51 : decode cX3_saveAshore 51 = .ok (.iinc 2 1, 3) := by decide +kernel
theorem dX3_saveAshore_54 : decode cX3_saveAshore 54 = .ok (.goto (-50), 3) := by decide +kernel
theorem dX3_saveAshore_57 : decode cX3_saveAshore 57 = .ok (.iload_n 1, 1) := by decide +kernel
theorem dX3_saveAshore_58 : decode cX3_saveAshore 58 = .ok (.ifCond .eq 7, 3) := by decide +kernel
theorem dX3_saveAshore_61 : decode cX3_saveAshore 61 = .ok (.aload_n 0, 1) := by decide +kernel
theorem dX3_saveAshore_62 : decode cX3_saveAshore 62 = .ok (.invokevirtual 126, 3) := by decide +kernel
theorem dX3_saveAshore_65 : decode cX3_saveAshore 65 = .ok (.return_, 1) := by decide +kernel
set_option maxRecDepth 20000 in
theorem ggX3_leaveEnded_X1_shareFate : GoodIn wsX3_leaveEnded wsX1_shareFate := goodIn_r _ [10, 11, 12, 13, 14, 15, 16, 17, 18, 19, 20, 57, 58, 59, 60, 61, 62, 63, 64, 65, 66, 67, 68, 69, 70, 71] (by decide +kernel) (by decide +kernel)
set_option maxRecDepth 20000 in
theorem gX3_leaveEnded_X1_shareFate : GoodIn wsX3_leaveEnded (wsV RX3 175 RX1 yX1_shareFate wsX1_shareFate) := goodIn_app (goodIn_of _ (by decide +kernel)) ggX3_leaveEnded_X1_shareFate
set_option maxRecDepth 20000 in
theorem ggX3_leaveEnded_X0_floats : GoodIn wsX3_leaveEnded wsX0_floats := goodIn_r _ [24, 25, 26, 16, 17, 18, 19, 20, 60, 61, 62, 63, 64, 65, 66, 67, 68, 69, 70, 71] (by decide +kernel) (by decide +kernel)
set_option maxRecDepth 20000 in
theorem gX3_leaveEnded_X0_floats : GoodIn wsX3_leaveEnded (wsV RX3 171 RX0 yX0_floats wsX0_floats) := goodIn_app (goodIn_of _ (by decide +kernel)) ggX3_leaveEnded_X0_floats
set_option maxRecDepth 20000 in
theorem ggX3_leaveEnded_X2_undo : GoodIn wsX3_leaveEnded wsX2_undo := goodIn_r _ [31, 32, 52, 53, 54, 55, 56] (by decide +kernel) (by decide +kernel)
set_option maxRecDepth 20000 in
theorem gX3_leaveEnded_X2_undo : GoodIn wsX3_leaveEnded (wsV RX3 136 RX2 yX2_undo wsX2_undo) := goodIn_app (goodIn_of _ (by decide +kernel)) ggX3_leaveEnded_X2_undo
set_option maxRecDepth 20000 in
theorem ggX3_leaveEnded_X2_sweep : GoodIn wsX3_leaveEnded wsX2_sweep := goodIn_r _ [36, 37, 32, 38, 39, 40, 30, 41, 42, 43, 44, 52, 53, 54, 55, 56] (by decide +kernel) (by decide +kernel)
set_option maxRecDepth 20000 in
theorem gX3_leaveEnded_X2_sweep : GoodIn wsX3_leaveEnded (wsV RX3 143 RX2 yX2_sweep wsX2_sweep) := goodIn_app (goodIn_of _ (by decide +kernel)) ggX3_leaveEnded_X2_sweep
theorem dX3_leaveEnded_0 : decode cX3_leaveEnded 0 = .ok (.aload_n 0, 1) := by decide +kernel
theorem dX3_leaveEnded_1 : decode cX3_leaveEnded 1 = .ok (.getfield 21, 3) := by decide +kernel
theorem dX3_leaveEnded_4 : decode cX3_leaveEnded 4 = .ok (.aload_n 0, 1) := by decide +kernel
theorem dX3_leaveEnded_5 : decode cX3_leaveEnded 5 = .ok (.getfield 12, 3) := by decide +kernel
theorem dX3_leaveEnded_8 : decode cX3_leaveEnded 8 = .ok (.invokevirtual 175, 3) := by decide +kernel
theorem dX3_leaveEnded_11 : decode cX3_leaveEnded 11 = .ok (.iconst 0, 1) := by decide +kernel
theorem dX3_leaveEnded_12 : decode cX3_leaveEnded 12 = .ok (.istore_n 1, 1) := by decide +kernel
theorem dX3_leaveEnded_13 : decode cX3_leaveEnded 13 = .ok (.iload_n 1, 1) := by decide +kernel
theorem dX3_leaveEnded_14 : decode cX3_leaveEnded 14 = .ok (.aload_n 0, 1) := by decide +kernel
theorem dX3_leaveEnded_15 : decode cX3_leaveEnded 15 = .ok (.getfield 28, 3) := by decide +kernel
theorem dX3_leaveEnded_18 : decode cX3_leaveEnded 18 = .ok (.getfield 59, 3) := by decide +kernel
theorem dX3_leaveEnded_21 : decode cX3_leaveEnded 21 = .ok (.if_icmp .ge 36, 3) := by decide +kernel
theorem dX3_leaveEnded_24 : decode cX3_leaveEnded 24 = .ok (.aload_n 0, 1) := by decide +kernel
theorem dX3_leaveEnded_25 : decode cX3_leaveEnded 25 = .ok (.getfield 12, 3) := by decide +kernel
theorem dX3_leaveEnded_28 : decode cX3_leaveEnded 28 = .ok (.aload_n 0, 1) := by decide +kernel
theorem dX3_leaveEnded_29 : decode cX3_leaveEnded 29 = .ok (.getfield 28, 3) := by decide +kernel
theorem dX3_leaveEnded_32 : decode cX3_leaveEnded 32 = .ok (.getfield 62, 3) := by decide +kernel
theorem dX3_leaveEnded_35 : decode cX3_leaveEnded 35 = .ok (.iload_n 1, 1) := by decide +kernel
theorem dX3_leaveEnded_36 : decode cX3_leaveEnded 36 = .ok (.iaload, 1) := by decide +kernel
theorem dX3_leaveEnded_37 : decode cX3_leaveEnded 37 = .ok (.invokevirtual 171, 3) := by decide +kernel
theorem dX3_leaveEnded_40 : decode cX3_leaveEnded 40 = .ok (.ifCond .ne 11, 3) := by decide +kernel
theorem dX3_leaveEnded_43 : decode cX3_leaveEnded 43 = .ok (.aload_n 0, 1) := by decide +kernel
theorem dX3_leaveEnded_44 : decode cX3_leaveEnded 44 = .ok (.getfield 28, 3) := by decide +kernel
theorem dX3_leaveEnded_47 : decode cX3_leaveEnded 47 = .ok (.iload_n 1, 1) := by decide +kernel
theorem dX3_leaveEnded_48 : decode cX3_leaveEnded 48 = .ok (.invokevirtual 136, 3) := by decide +kernel
theorem dX3_leaveEnded_51 : decode cX3_leaveEnded 51 = .ok (.iinc 1 1, 3) := by decide +kernel
theorem dX3_leaveEnded_54 : decode cX3_leaveEnded 54 = .ok (.goto (-41), 3) := by decide +kernel
theorem dX3_leaveEnded_57 : decode cX3_leaveEnded 57 = .ok (.aload_n 0, 1) := by decide +kernel
theorem dX3_leaveEnded_58 : decode cX3_leaveEnded 58 = .ok (.getfield 28, 3) := by decide +kernel
theorem dX3_leaveEnded_61 : decode cX3_leaveEnded 61 = .ok (.invokevirtual 143, 3) := by decide +kernel
theorem dX3_leaveEnded_64 : decode cX3_leaveEnded 64 = .ok (.return_, 1) := by decide +kernel
set_option maxRecDepth 20000 in
theorem ggX3_weighPieces_X0_liftNow : GoodIn wsX3_weighPieces wsX0_liftNow := goodIn_r _ [10, 11, 12, 26, 27, 28, 29, 30, 31, 32, 33, 34, 35, 36, 37] (by decide +kernel) (by decide +kernel)
set_option maxRecDepth 20000 in
theorem gX3_weighPieces_X0_liftNow : GoodIn wsX3_weighPieces (wsV RX3 178 RX0 yX0_liftNow wsX0_liftNow) := goodIn_app (goodIn_of _ (by decide +kernel)) ggX3_weighPieces_X0_liftNow
set_option maxRecDepth 20000 in
theorem ggX3_weighPieces_X0_loadOf : GoodIn wsX3_weighPieces wsX0_loadOf := goodIn_r _ [16, 17, 18, 26, 27, 28, 29, 30, 31, 32, 33, 34, 35, 36, 37] (by decide +kernel) (by decide +kernel)
set_option maxRecDepth 20000 in
theorem gX3_weighPieces_X0_loadOf : GoodIn wsX3_weighPieces (wsV RX3 88 RX0 yX0_loadOf wsX0_loadOf) := goodIn_app (goodIn_of _ (by decide +kernel)) ggX3_weighPieces_X0_loadOf
theorem dX3_weighPieces_0 : decode cX3_weighPieces 0 = .ok (.iconst 0, 1) := by decide +kernel
theorem dX3_weighPieces_1 : decode cX3_weighPieces 1 = .ok (.istore_n 1, 1) := by decide +kernel
theorem dX3_weighPieces_2 : decode cX3_weighPieces 2 = .ok (.iload_n 1, 1) := by decide +kernel
theorem dX3_weighPieces_3 : decode cX3_weighPieces 3 = .ok (.aload_n 0, 1) := by decide +kernel
theorem dX3_weighPieces_4 : decode cX3_weighPieces 4 = .ok (.getfield 12, 3) := by decide +kernel
theorem dX3_weighPieces_7 : decode cX3_weighPieces 7 = .ok (.getfield 119, 3) := by decide +kernel
theorem dX3_weighPieces_10 : decode cX3_weighPieces 10 = .ok (.if_icmp .ge 23, 3) := by decide +kernel
theorem dX3_weighPieces_13 : decode cX3_weighPieces 13 = .ok (.aload_n 0, 1) := by decide +kernel
theorem dX3_weighPieces_14 : decode cX3_weighPieces 14 = .ok (.getfield 32, 3) := by decide +kernel
theorem dX3_weighPieces_17 : decode cX3_weighPieces 17 = .ok (.iload_n 1, 1) := by decide +kernel
theorem dX3_weighPieces_18 : decode cX3_weighPieces 18 = .ok (.iconst 0, 1) := by decide +kernel
theorem dX3_weighPieces_19 : decode cX3_weighPieces 19 = .ok (.iastore, 1) := by decide +kernel
theorem dX3_weighPieces_20 : decode cX3_weighPieces 20 = .ok (.aload_n 0, 1) := by decide +kernel
theorem dX3_weighPieces_21 : decode cX3_weighPieces 21 = .ok (.getfield 36, 3) := by decide +kernel
theorem dX3_weighPieces_24 : decode cX3_weighPieces 24 = .ok (.iload_n 1, 1) := by decide +kernel
theorem dX3_weighPieces_25 : decode cX3_weighPieces 25 = .ok (.iconst 0, 1) := by decide +kernel
theorem dX3_weighPieces_26 : decode cX3_weighPieces 26 = .ok (.iastore, 1) := by decide +kernel
theorem dX3_weighPieces_27 : decode cX3_weighPieces 27 = .ok (.iinc 1 1, 3) := by decide +kernel
theorem dX3_weighPieces_30 : decode cX3_weighPieces 30 = .ok (.goto (-28), 3) := by decide +kernel
theorem dX3_weighPieces_33 : decode cX3_weighPieces 33 = .ok (.iconst 0, 1) := by decide +kernel
theorem dX3_weighPieces_34 : decode cX3_weighPieces 34 = .ok (.istore_n 1, 1) := by decide +kernel
theorem dX3_weighPieces_35 : decode cX3_weighPieces 35 = .ok (.iload_n 1, 1) := by decide +kernel
theorem dX3_weighPieces_36 : decode cX3_weighPieces 36 = .ok (.aload_n 0, 1) := by decide +kernel
theorem dX3_weighPieces_37 : decode cX3_weighPieces 37 = .ok (.getfield 12, 3) := by decide +kernel
theorem dX3_weighPieces_40 : decode cX3_weighPieces 40 = .ok (.getfield 119, 3) := by decide +kernel
theorem dX3_weighPieces_43 : decode cX3_weighPieces 43 = .ok (.if_icmp .ge 57, 3) := by decide +kernel
theorem dX3_weighPieces_46 : decode cX3_weighPieces 46 = .ok (.aload_n 0, 1) := by decide +kernel
theorem dX3_weighPieces_47 : decode cX3_weighPieces 47 = .ok (.getfield 12, 3) := by decide +kernel
theorem dX3_weighPieces_50 : decode cX3_weighPieces 50 = .ok (.getfield 120, 3) := by decide +kernel
theorem dX3_weighPieces_53 : decode cX3_weighPieces 53 = .ok (.iload_n 1, 1) := by decide +kernel
theorem dX3_weighPieces_54 : decode cX3_weighPieces 54 = .ok (.iaload, 1) := by decide +kernel
theorem dX3_weighPieces_55 : decode cX3_weighPieces 55 = .ok (.istore_n 2, 1) := by decide +kernel
theorem dX3_weighPieces_56 : decode cX3_weighPieces 56 = .ok (.iload_n 2, 1) := by decide +kernel
theorem dX3_weighPieces_57 : decode cX3_weighPieces 57 = .ok (.ifCond .lt 37, 3) := by decide +kernel
theorem dX3_weighPieces_60 : decode cX3_weighPieces 60 = .ok (.aload_n 0, 1) := by decide +kernel
theorem dX3_weighPieces_61 : decode cX3_weighPieces 61 = .ok (.getfield 32, 3) := by decide +kernel
theorem dX3_weighPieces_64 : decode cX3_weighPieces 64 = .ok (.iload_n 2, 1) := by decide +kernel
theorem dX3_weighPieces_65 : decode cX3_weighPieces 65 = .ok (.dup2, 1) := by decide +kernel
theorem dX3_weighPieces_66 : decode cX3_weighPieces 66 = .ok (.iaload, 1) := by decide +kernel
theorem dX3_weighPieces_67 : decode cX3_weighPieces 67 = .ok (.aload_n 0, 1) := by decide +kernel
theorem dX3_weighPieces_68 : decode cX3_weighPieces 68 = .ok (.getfield 12, 3) := by decide +kernel
theorem dX3_weighPieces_71 : decode cX3_weighPieces 71 = .ok (.iload_n 1, 1) := by decide +kernel
theorem dX3_weighPieces_72 : decode cX3_weighPieces 72 = .ok (.invokevirtual 178, 3) := by decide +kernel
theorem dX3_weighPieces_75 : decode cX3_weighPieces 75 = .ok (.iadd, 1) := by decide +kernel
theorem dX3_weighPieces_76 : decode cX3_weighPieces 76 = .ok (.iastore, 1) := by decide +kernel
theorem dX3_weighPieces_77 : decode cX3_weighPieces 77 = .ok (.aload_n 0, 1) := by decide +kernel
theorem dX3_weighPieces_78 : decode cX3_weighPieces 78 = .ok (.getfield 36, 3) := by decide +kernel
theorem dX3_weighPieces_81 : decode cX3_weighPieces 81 = .ok (.iload_n 2, 1) := by decide +kernel
theorem dX3_weighPieces_82 : decode cX3_weighPieces 82 = .ok (.dup2, 1) := by decide +kernel
theorem dX3_weighPieces_83 : decode cX3_weighPieces 83 = .ok (.iaload, 1) := by decide +kernel
theorem dX3_weighPieces_84 : decode cX3_weighPieces 84 = .ok (.aload_n 0, 1) := by decide +kernel
theorem dX3_weighPieces_85 : decode cX3_weighPieces 85 = .ok (.getfield 12, 3) := by decide +kernel
theorem dX3_weighPieces_88 : decode cX3_weighPieces 88 = .ok (.iload_n 1, 1) := by decide +kernel
theorem dX3_weighPieces_89 : decode cX3_weighPieces 89 = .ok (.invokevirtual 88, 3) := by decide +kernel
theorem dX3_weighPieces_92 : decode cX3_weighPieces 92 = .ok (.iadd, 1) := by decide +kernel
theorem dX3_weighPieces_93 : decode cX3_weighPieces 93 = .ok (.iastore, 1) := by decide +kernel
theorem dX3_weighPieces_94 : decode cX3_weighPieces 94 = .ok (.iinc 1 1, 3) := by decide +kernel
theorem dX3_weighPieces_97 : decode cX3_weighPieces 97 = .ok (.goto (-62), 3) := by decide +kernel
theorem dX3_weighPieces_100 : decode cX3_weighPieces 100 = .ok (.return_, 1) := by decide +kernel
set_option maxRecDepth 20000 in
theorem ggX4_init_J7_fill_53178 : GoodIn wsX4_init wsJ7_fill_53178 := goodIn_r _ [12] (by decide +kernel) (by decide +kernel)
set_option maxRecDepth 20000 in
theorem gX4_init_J7_fill_53178 : GoodIn wsX4_init (va_wsS RX4 24 yJ7_fill_53178 wsJ7_fill_53178) := goodIn_app (goodIn_of _ (by decide +kernel)) ggX4_init_J7_fill_53178
theorem dX4_init_0 : decode cX4_init 0 = .ok (.aload_n 0, 1) := by decide +kernel
theorem dX4_init_1 : decode cX4_init 1 = .ok (.invokespecial 3, 3) := by decide +kernel
theorem dX4_init_4 : decode cX4_init 4 = .ok (.aload_n 0, 1) := by decide +kernel
theorem dX4_init_5 : decode cX4_init 5 = .ok (.bipush 8, 2) := by decide +kernel
theorem dX4_init_7 : decode cX4_init 7 = .ok (.newarray .int, 2) := by decide +kernel
theorem dX4_init_9 : decode cX4_init 9 = .ok (.putfield 9, 3) := by decide +kernel
theorem dX4_init_12 : decode cX4_init 12 = .ok (.aload_n 0, 1) := by decide +kernel
theorem dX4_init_13 : decode cX4_init 13 = .ok (.bipush 8, 2) := by decide +kernel
theorem dX4_init_15 : decode cX4_init 15 = .ok (.newarray .int, 2) := by decide +kernel
theorem dX4_init_17 : decode cX4_init 17 = .ok (.putfield 15, 3) := by decide +kernel
theorem dX4_init_20 : decode cX4_init 20 = .ok (.aload_n 0, 1) := by decide +kernel
theorem dX4_init_21 : decode cX4_init 21 = .ok (.bipush 8, 2) := by decide +kernel
theorem dX4_init_23 : decode cX4_init 23 = .ok (.newarray .int, 2) := by decide +kernel
theorem dX4_init_25 : decode cX4_init 25 = .ok (.putfield 18, 3) := by decide +kernel
theorem dX4_init_28 : decode cX4_init 28 = .ok (.aload_n 0, 1) := by decide +kernel
theorem dX4_init_29 : decode cX4_init 29 = .ok (.sipush 600, 3) := by decide +kernel
theorem dX4_init_32 : decode cX4_init 32 = .ok (.newarray .int, 2) := by decide +kernel
theorem dX4_init_34 : decode cX4_init 34 = .ok (.putfield 21, 3) := by decide +kernel
theorem dX4_init_37 : decode cX4_init 37 = .ok (.aload_n 0, 1) := by decide +kernel
theorem dX4_init_38 : decode cX4_init 38 = .ok (.getfield 21, 3) := by decide +kernel
theorem dX4_init_41 : decode cX4_init 41 = .ok (.iconst (-1), 1) := by decide +kernel
theorem dX4_init_42 : decode cX4_init 42 = .ok (.invokestatic 24, 3) := by decide +kernel
theorem dX4_init_45 : decode cX4_init 45 = .ok (.return_, 1) := by decide +kernel
set_option maxRecDepth 20000 in
theorem ggX4_cover_X6_isSea : GoodIn wsX4_cover wsX6_isSea := goodIn_r _ [5] (by decide +kernel) (by decide +kernel)
set_option maxRecDepth 20000 in
theorem gX4_cover_X6_isSea_n30 : GoodIn wsX4_cover (wsX6_isSea) := ggX4_cover_X6_isSea
theorem dX4_cover_0 : decode cX4_cover 0 = .ok (.iload_n 2, 1) := by decide +kernel
theorem dX4_cover_1 : decode cX4_cover 1 = .ok (.istore 5, 2) := by decide +kernel
theorem dX4_cover_3 : decode cX4_cover 3 = .ok (.iload 5, 2) := by decide +kernel
theorem dX4_cover_5 : decode cX4_cover 5 = .ok (.iload_n 2, 1) := by decide +kernel
theorem dX4_cover_6 : decode cX4_cover 6 = .ok (.iload 4, 2) := by decide +kernel
theorem dX4_cover_8 : decode cX4_cover 8 = .ok (.iadd, 1) := by decide +kernel
theorem dX4_cover_9 : decode cX4_cover 9 = .ok (.if_icmp .ge 53, 3) := by decide +kernel
theorem dX4_cover_12 : decode cX4_cover 12 = .ok (.iload_n 1, 1) := by decide +kernel
theorem dX4_cover_13 : decode cX4_cover 13 = .ok (.istore 6, 2) := by decide +kernel
theorem dX4_cover_15 : decode cX4_cover 15 = .ok (.iload 6, 2) := by decide +kernel
theorem dX4_cover_17 : decode cX4_cover 17 = .ok (.iload_n 1, 1) := by decide +kernel
theorem dX4_cover_18 : decode cX4_cover 18 = .ok (.iload_n 3, 1) := by decide +kernel
theorem dX4_cover_19 : decode cX4_cover 19 = .ok (.iadd, 1) := by decide +kernel
theorem dX4_cover_20 : decode cX4_cover 20 = .ok (.if_icmp .ge 36, 3) := by decide +kernel
theorem dX4_cover_23 : decode cX4_cover 23 = .ok (.iload 6, 2) := by decide +kernel
theorem dX4_cover_25 : decode cX4_cover 25 = .ok (.iload 5, 2) := by decide +kernel
theorem dX4_cover_27 : decode cX4_cover 27 = .ok (.invokestatic 30, 3) := by decide +kernel
theorem dX4_cover_30 : decode cX4_cover 30 = .ok (.ifCond .eq 20, 3) := by decide +kernel
theorem dX4_cover_33 : decode cX4_cover 33 = .ok (.aload_n 0, 1) := by decide +kernel
theorem dX4_cover_34 : decode cX4_cover 34 = .ok (.getfield 21, 3) := by decide +kernel
theorem dX4_cover_37 : decode cX4_cover 37 = .ok (.iload 6, 2) := by decide +kernel
theorem dX4_cover_39 : decode cX4_cover 39 = .ok (.bipush 30, 2) := by decide +kernel
theorem dX4_cover_41 : decode cX4_cover 41 = .ok (.iload 5, 2) := by decide +kernel
theorem dX4_cover_43 : decode cX4_cover 43 = .ok (.imul, 1) := by decide +kernel
theorem dX4_cover_44 : decode cX4_cover 44 = .ok (.iadd, 1) := by decide +kernel
theorem dX4_cover_45 : decode cX4_cover 45 = .ok (.aload_n 0, 1) := by decide +kernel
theorem dX4_cover_46 : decode cX4_cover 46 = .ok (.getfield 34, 3) := by decide +kernel
theorem dX4_cover_49 : decode cX4_cover 49 = .ok (.iastore, 1) := by decide +kernel
theorem dX4_cover_50 : decode cX4_cover 50 = .ok (.iinc 6 1, 3) := by decide +kernel
theorem dX4_cover_53 : decode cX4_cover 53 = .ok (.goto (-38), 3) := by decide +kernel
theorem dX4_cover_56 : decode cX4_cover 56 = .ok (.iinc 5 1, 3) := by decide +kernel
theorem dX4_cover_59 : decode cX4_cover 59 = .ok (.goto (-56), 3) := by decide +kernel
theorem dX4_cover_62 : decode cX4_cover 62 = .ok (.return_, 1) := by decide +kernel
theorem dX4_append_0 : decode cX4_append 0 = .ok (.aload_n 0, 1) := by decide +kernel
theorem dX4_append_1 : decode cX4_append 1 = .ok (.getfield 34, 3) := by decide +kernel
theorem dX4_append_4 : decode cX4_append 4 = .ok (.istore 4, 2) := by decide +kernel
theorem dX4_append_6 : decode cX4_append 6 = .ok (.iload 4, 2) := by decide +kernel
theorem dX4_append_8 : decode cX4_append 8 = .ok (.bipush 8, 2) := by decide +kernel
theorem dX4_append_10 : decode cX4_append 10 = .ok (.if_icmp .ge 37, 3) := by decide +kernel
theorem dX4_append_13 : decode cX4_append 13 = .ok (.aload_n 0, 1) := by decide +kernel
theorem dX4_append_14 : decode cX4_append 14 = .ok (.getfield 9, 3) := by decide +kernel
theorem dX4_append_17 : decode cX4_append 17 = .ok (.iload 4, 2) := by decide +kernel
theorem dX4_append_19 : decode cX4_append 19 = .ok (.iload_n 1, 1) := by decide +kernel
theorem dX4_append_20 : decode cX4_append 20 = .ok (.iastore, 1) := by decide +kernel
theorem dX4_append_21 : decode cX4_append 21 = .ok (.aload_n 0, 1) := by decide +kernel
theorem dX4_append_22 : decode cX4_append 22 = .ok (.getfield 15, 3) := by decide +kernel
theorem dX4_append_25 : decode cX4_append 25 = .ok (.iload 4, 2) := by decide +kernel
theorem dX4_append_27 : decode cX4_append 27 = .ok (.iload_n 2, 1) := by decide +kernel
theorem dX4_append_28 : decode cX4_append 28 = .ok (.iastore, 1) := by decide +kernel
theorem dX4_append_29 : decode cX4_append 29 = .ok (.aload_n 0, 1) := by decide +kernel
theorem dX4_append_30 : decode cX4_append 30 = .ok (.getfield 18, 3) := by decide +kernel
theorem dX4_append_33 : decode cX4_append 33 = .ok (.iload 4, 2) := by decide +kernel
theorem dX4_append_35 : decode cX4_append 35 = .ok (.iload_n 3, 1) := by decide +kernel
theorem dX4_append_36 : decode cX4_append 36 = .ok (.iastore, 1) := by decide +kernel
theorem dX4_append_37 : decode cX4_append 37 = .ok (.aload_n 0, 1) := by decide +kernel
theorem dX4_append_38 : decode cX4_append 38 = .ok (.dup, 1) := by decide +kernel
theorem dX4_append_39 : decode cX4_append 39 = .ok (.getfield 34, 3) := by decide +kernel
theorem dX4_append_42 : decode cX4_append 42 = .ok (.iconst 1, 1) := by decide +kernel
theorem dX4_append_43 : decode cX4_append 43 = .ok (.iadd, 1) := by decide +kernel
theorem dX4_append_44 : decode cX4_append 44 = .ok (.putfield 34, 3) := by decide +kernel
theorem dX4_append_47 : decode cX4_append 47 = .ok (.iload 4, 2) := by decide +kernel
theorem dX4_append_49 : decode cX4_append 49 = .ok (.ireturn, 1) := by decide +kernel
set_option maxRecDepth 20000 in
theorem ggX4_at_X6_isSea : GoodIn wsX4_at wsX6_isSea := goodIn_r _ [4] (by decide +kernel) (by decide +kernel)
set_option maxRecDepth 20000 in
theorem gX4_at_X6_isSea_n30 : GoodIn wsX4_at (wsX6_isSea) := ggX4_at_X6_isSea
theorem dX4_at_0 : decode cX4_at 0 = .ok (.iload_n 1, 1) := by decide +kernel
theorem dX4_at_1 : decode cX4_at 1 = .ok (.iload_n 2, 1) := by decide +kernel
theorem dX4_at_2 : decode cX4_at 2 = .ok (.invokestatic 30, 3) := by decide +kernel
theorem dX4_at_5 : decode cX4_at 5 = .ok (.ifCond .eq 17, 3) := by decide +kernel
theorem dX4_at_8 : decode cX4_at 8 = .ok (.aload_n 0, 1) := by decide +kernel
theorem dX4_at_9 : decode cX4_at 9 = .ok (.getfield 21, 3) := by decide +kernel
theorem dX4_at_12 : decode cX4_at 12 = .ok (.iload_n 1, 1) := by decide +kernel
theorem dX4_at_13 : decode cX4_at 13 = .ok (.bipush 30, 2) := by decide +kernel
theorem dX4_at_15 : decode cX4_at 15 = .ok (.iload_n 2, 1) := by decide +kernel
theorem dX4_at_16 : decode cX4_at 16 = .ok (.imul, 1) := by decide +kernel
theorem dX4_at_17 : decode cX4_at 17 = .ok (.iadd, 1) := by decide +kernel
theorem dX4_at_18 : decode cX4_at 18 = .ok (.iaload, 1) := by decide +kernel
theorem dX4_at_19 : decode cX4_at 19 = .ok (.goto 4, 3) := by decide +kernel
theorem dX4_at_22 : decode cX4_at 22 = .ok (.iconst (-1), 1) := by decide +kernel
theorem dX4_at_23 : decode cX4_at 23 = .ok (.ireturn, 1) := by decide +kernel
theorem dX4_has_0 : decode cX4_has 0 = .ok (.iload_n 1, 1) := by decide +kernel
theorem dX4_has_1 : decode cX4_has 1 = .ok (.ifCond .lt 15, 3) := by decide +kernel
theorem dX4_has_4 : decode cX4_has 4 = .ok (.iload_n 1, 1) := by decide +kernel
theorem dX4_has_5 : decode cX4_has 5 = .ok (.aload_n 0, 1) := by decide +kernel
theorem dX4_has_6 : decode cX4_has 6 = .ok (.getfield 34, 3) := by decide +kernel
theorem dX4_has_9 : decode cX4_has 9 = .ok (.if_icmp .ge 7, 3) := by decide +kernel
theorem dX4_has_12 : decode cX4_has 12 = .ok (.iconst 1, 1) := by decide +kernel
theorem dX4_has_13 : decode cX4_has 13 = .ok (.goto 4, 3) := by decide +kernel
theorem dX4_has_16 : decode cX4_has 16 = .ok (.iconst 0, 1) := by decide +kernel
theorem dX4_has_17 : decode cX4_has 17 = .ok (.ireturn, 1) := by decide +kernel
set_option maxRecDepth 20000 in
theorem ggX4_dxOf_X4_has : GoodIn wsX4_dxOf wsX4_has := goodIn_r _ [6, 7, 8, 9, 10, 11, 12, 13, 14] (by decide +kernel) (by decide +kernel)
set_option maxRecDepth 20000 in
theorem gX4_dxOf_X4_has : GoodIn wsX4_dxOf (wsV RX4 38 RX4 yX4_has wsX4_has) := goodIn_app (goodIn_of _ (by decide +kernel)) ggX4_dxOf_X4_has
theorem dX4_dxOf_0 : decode cX4_dxOf 0 = .ok (.aload_n 0, 1) := by decide +kernel
theorem dX4_dxOf_1 : decode cX4_dxOf 1 = .ok (.iload_n 1, 1) := by decide +kernel
theorem dX4_dxOf_2 : decode cX4_dxOf 2 = .ok (.invokevirtual 38, 3) := by decide +kernel
theorem dX4_dxOf_5 : decode cX4_dxOf 5 = .ok (.ifCond .eq 12, 3) := by decide +kernel
theorem dX4_dxOf_8 : decode cX4_dxOf 8 = .ok (.aload_n 0, 1) := by decide +kernel
theorem dX4_dxOf_9 : decode cX4_dxOf 9 = .ok (.getfield 9, 3) := by decide +kernel
theorem dX4_dxOf_12 : decode cX4_dxOf 12 = .ok (.iload_n 1, 1) := by decide +kernel
theorem dX4_dxOf_13 : decode cX4_dxOf 13 = .ok (.iaload, 1) := by decide +kernel
theorem dX4_dxOf_14 : decode cX4_dxOf 14 = .ok (.goto 4, 3) := by decide +kernel
theorem dX4_dxOf_17 : decode cX4_dxOf 17 = .ok (.iconst 0, 1) := by decide +kernel
theorem dX4_dxOf_18 : decode cX4_dxOf 18 = .ok (.ireturn, 1) := by decide +kernel
set_option maxRecDepth 20000 in
theorem ggX4_dyOf_X4_has : GoodIn wsX4_dyOf wsX4_has := goodIn_r _ [6, 7, 8, 9, 10, 11, 12, 13, 14] (by decide +kernel) (by decide +kernel)
set_option maxRecDepth 20000 in
theorem gX4_dyOf_X4_has : GoodIn wsX4_dyOf (wsV RX4 38 RX4 yX4_has wsX4_has) := goodIn_app (goodIn_of _ (by decide +kernel)) ggX4_dyOf_X4_has
theorem dX4_dyOf_0 : decode cX4_dyOf 0 = .ok (.aload_n 0, 1) := by decide +kernel
theorem dX4_dyOf_1 : decode cX4_dyOf 1 = .ok (.iload_n 1, 1) := by decide +kernel
theorem dX4_dyOf_2 : decode cX4_dyOf 2 = .ok (.invokevirtual 38, 3) := by decide +kernel
theorem dX4_dyOf_5 : decode cX4_dyOf 5 = .ok (.ifCond .eq 12, 3) := by decide +kernel
theorem dX4_dyOf_8 : decode cX4_dyOf 8 = .ok (.aload_n 0, 1) := by decide +kernel
theorem dX4_dyOf_9 : decode cX4_dyOf 9 = .ok (.getfield 15, 3) := by decide +kernel
theorem dX4_dyOf_12 : decode cX4_dyOf 12 = .ok (.iload_n 1, 1) := by decide +kernel
theorem dX4_dyOf_13 : decode cX4_dyOf 13 = .ok (.iaload, 1) := by decide +kernel
theorem dX4_dyOf_14 : decode cX4_dyOf 14 = .ok (.goto 4, 3) := by decide +kernel
theorem dX4_dyOf_17 : decode cX4_dyOf 17 = .ok (.iconst 0, 1) := by decide +kernel
theorem dX4_dyOf_18 : decode cX4_dyOf 18 = .ok (.ireturn, 1) := by decide +kernel
set_option maxRecDepth 20000 in
theorem ggX4_waveOf_X4_has : GoodIn wsX4_waveOf wsX4_has := goodIn_r _ [6, 7, 8, 9, 10, 11, 12, 13, 14] (by decide +kernel) (by decide +kernel)
set_option maxRecDepth 20000 in
theorem gX4_waveOf_X4_has : GoodIn wsX4_waveOf (wsV RX4 38 RX4 yX4_has wsX4_has) := goodIn_app (goodIn_of _ (by decide +kernel)) ggX4_waveOf_X4_has
theorem dX4_waveOf_0 : decode cX4_waveOf 0 = .ok (.aload_n 0, 1) := by decide +kernel
theorem dX4_waveOf_1 : decode cX4_waveOf 1 = .ok (.iload_n 1, 1) := by decide +kernel
theorem dX4_waveOf_2 : decode cX4_waveOf 2 = .ok (.invokevirtual 38, 3) := by decide +kernel
theorem dX4_waveOf_5 : decode cX4_waveOf 5 = .ok (.ifCond .eq 12, 3) := by decide +kernel
theorem dX4_waveOf_8 : decode cX4_waveOf 8 = .ok (.aload_n 0, 1) := by decide +kernel
theorem dX4_waveOf_9 : decode cX4_waveOf 9 = .ok (.getfield 18, 3) := by decide +kernel
theorem dX4_waveOf_12 : decode cX4_waveOf 12 = .ok (.iload_n 1, 1) := by decide +kernel
theorem dX4_waveOf_13 : decode cX4_waveOf 13 = .ok (.iaload, 1) := by decide +kernel
theorem dX4_waveOf_14 : decode cX4_waveOf 14 = .ok (.goto 4, 3) := by decide +kernel
theorem dX4_waveOf_17 : decode cX4_waveOf 17 = .ok (.iconst 0, 1) := by decide +kernel
theorem dX4_waveOf_18 : decode cX4_waveOf 18 = .ok (.ireturn, 1) := by decide +kernel
theorem dX5_init_0 : decode cX5_init 0 = .ok (.aload_n 0, 1) := by decide +kernel
theorem dX5_init_1 : decode cX5_init 1 = .ok (.invokespecial 3, 3) := by decide +kernel
theorem dX5_init_4 : decode cX5_init 4 = .ok (.aload_n 0, 1) := by decide +kernel
theorem dX5_init_5 : decode cX5_init 5 = .ok (.bipush 48, 2) := by decide +kernel
theorem dX5_init_7 : decode cX5_init 7 = .ok (.newarray .int, 2) := by decide +kernel
theorem dX5_init_9 : decode cX5_init 9 = .ok (.putfield 9, 3) := by decide +kernel
theorem dX5_init_12 : decode cX5_init 12 = .ok (.aload_n 0, 1) := by decide +kernel
theorem dX5_init_13 : decode cX5_init 13 = .ok (.bipush 24, 2) := by decide +kernel
theorem dX5_init_15 : decode cX5_init 15 = .ok (.newarray .int, 2) := by decide +kernel
theorem dX5_init_17 : decode cX5_init 17 = .ok (.putfield 15, 3) := by decide +kernel
theorem dX5_init_20 : decode cX5_init 20 = .ok (.aload_n 0, 1) := by decide +kernel
theorem dX5_init_21 : decode cX5_init 21 = .ok (.bipush 24, 2) := by decide +kernel
theorem dX5_init_23 : decode cX5_init 23 = .ok (.newarray .int, 2) := by decide +kernel
theorem dX5_init_25 : decode cX5_init 25 = .ok (.putfield 18, 3) := by decide +kernel
theorem dX5_init_28 : decode cX5_init 28 = .ok (.aload_n 0, 1) := by decide +kernel
theorem dX5_init_29 : decode cX5_init 29 = .ok (.bipush 24, 2) := by decide +kernel
theorem dX5_init_31 : decode cX5_init 31 = .ok (.newarray .int, 2) := by decide +kernel
theorem dX5_init_33 : decode cX5_init 33 = .ok (.putfield 21, 3) := by decide +kernel
theorem dX5_init_36 : decode cX5_init 36 = .ok (.return_, 1) := by decide +kernel
set_option maxRecDepth 20000 in
theorem ggX5_countApart_J7_fill_53178 : GoodIn wsX5_countApart wsJ7_fill_53178 := goodIn_r _ [6] (by decide +kernel) (by decide +kernel)
set_option maxRecDepth 20000 in
theorem gX5_countApart_J7_fill_53178 : GoodIn wsX5_countApart (va_wsS RX5 24 yJ7_fill_53178 wsJ7_fill_53178) := goodIn_app (goodIn_of _ (by decide +kernel)) ggX5_countApart_J7_fill_53178
set_option maxRecDepth 20000 in
theorem ggX5_countApart_X5_findWay : GoodIn wsX5_countApart wsX5_findWay := goodIn_r _ [11, 12, 13, 3, 4, 5, 6, 14, 15, 16, 10, 17, 2, 1, 18, 19, 20, 21, 22, 23, 24, 25, 26, 27, 28, 29, 34, 35, 36, 37, 38, 39, 40, 41, 42] (by decide +kernel) (by decide +kernel)
set_option maxRecDepth 20000 in
theorem gX5_countApart_X5_findWay : GoodIn wsX5_countApart (wsV RX5 36 RX5 yX5_findWay wsX5_findWay) := goodIn_app (goodIn_of _ (by decide +kernel)) ggX5_countApart_X5_findWay
set_option maxRecDepth 20000 in
theorem ggX5_countApart_X5_useWay : GoodIn wsX5_countApart wsX5_useWay := goodIn_r _ [33, 12, 1, 18, 19, 20, 21, 22, 23, 24, 25, 26, 27, 10, 28, 29, 34, 35, 36, 37, 38, 39, 40, 41, 42] (by decide +kernel) (by decide +kernel)
set_option maxRecDepth 20000 in
theorem gX5_countApart_X5_useWay : GoodIn wsX5_countApart (wsV RX5 40 RX5 yX5_useWay wsX5_useWay) := goodIn_app (goodIn_of _ (by decide +kernel)) ggX5_countApart_X5_useWay
theorem dX5_countApart_0 : decode cX5_countApart 0 = .ok (.aload_n 0, 1) := by decide +kernel
theorem dX5_countApart_1 : decode cX5_countApart 1 = .ok (.getfield 9, 3) := by decide +kernel
theorem dX5_countApart_4 : decode cX5_countApart 4 = .ok (.iconst 0, 1) := by decide +kernel
theorem dX5_countApart_5 : decode cX5_countApart 5 = .ok (.invokestatic 24, 3) := by decide +kernel
theorem dX5_countApart_8 : decode cX5_countApart 8 = .ok (.iconst 0, 1) := by decide +kernel
theorem dX5_countApart_9 : decode cX5_countApart 9 = .ok (.istore 4, 2) := by decide +kernel
theorem dX5_countApart_11 : decode cX5_countApart 11 = .ok (.iload 4, 2) := by decide +kernel
theorem dX5_countApart_13 : decode cX5_countApart 13 = .ok (.aload_n 1, 1) := by decide +kernel
theorem dX5_countApart_14 : decode cX5_countApart 14 = .ok (.getfield 30, 3) := by decide +kernel
theorem dX5_countApart_17 : decode cX5_countApart 17 = .ok (.if_icmp .ge 26, 3) := by decide +kernel
theorem dX5_countApart_20 : decode cX5_countApart 20 = .ok (.aload_n 0, 1) := by decide +kernel
theorem dX5_countApart_21 : decode cX5_countApart 21 = .ok (.aload_n 1, 1) := by decide +kernel
theorem dX5_countApart_22 : decode cX5_countApart 22 = .ok (.iload_n 2, 1) := by decide +kernel
theorem dX5_countApart_23 : decode cX5_countApart 23 = .ok (.iload_n 3, 1) := by decide +kernel
theorem dX5_countApart_24 : decode cX5_countApart 24 = .ok (.invokevirtual 36, 3) := by decide +kernel
theorem dX5_countApart_27 : decode cX5_countApart 27 = .ok (.ifCond .eq 16, 3) := by decide +kernel
theorem dX5_countApart_30 : decode cX5_countApart 30 = .ok (.aload_n 0, 1) := by decide +kernel
theorem dX5_countApart_31 : decode cX5_countApart 31 = .ok (.aload_n 1, 1) := by decide +kernel
theorem dX5_countApart_32 : decode cX5_countApart 32 = .ok (.iload_n 2, 1) := by decide +kernel
theorem dX5_countApart_33 : decode cX5_countApart 33 = .ok (.iload_n 3, 1) := by decide +kernel
theorem dX5_countApart_34 : decode cX5_countApart 34 = .ok (.invokevirtual 40, 3) := by decide +kernel
theorem dX5_countApart_37 : decode cX5_countApart 37 = .ok (.iinc 4 1, 3) := by decide +kernel
theorem dX5_countApart_40 : decode cX5_countApart 40 = .ok (.goto (-29), 3) := by decide +kernel
theorem dX5_countApart_43 : decode cX5_countApart 43 = .ok (.iload 4, 2) := by decide +kernel
theorem dX5_countApart_45 : decode cX5_countApart 45 = .ok (.ireturn, 1) := by decide +kernel
set_option maxRecDepth 20000 in
theorem ggX5_findWay_J7_fill_53178 : GoodIn wsX5_findWay wsJ7_fill_53178 := goodIn_r _ [6] (by decide +kernel) (by decide +kernel)
set_option maxRecDepth 20000 in
theorem gX5_findWay_J7_fill_53178 : GoodIn wsX5_findWay (va_wsS RX5 24 yJ7_fill_53178 wsJ7_fill_53178) := goodIn_app (goodIn_of _ (by decide +kernel)) ggX5_findWay_J7_fill_53178
set_option maxRecDepth 20000 in
theorem ggX5_findWay_X5_reachFrom : GoodIn wsX5_findWay wsX5_reachFrom := goodIn_r _ [11, 12, 1, 13, 2, 14, 15, 16, 17, 18, 19, 20, 21, 22, 23, 10, 24, 25, 30, 31, 32, 33, 34, 26, 27, 28, 29] (by decide +kernel) (by decide +kernel)
set_option maxRecDepth 20000 in
theorem gX5_findWay_X5_reachFrom : GoodIn wsX5_findWay (wsV RX5 44 RX5 yX5_reachFrom wsX5_reachFrom) := goodIn_app (goodIn_of _ (by decide +kernel)) ggX5_findWay_X5_reachFrom
theorem dX5_findWay_0 : decode cX5_findWay 0 = .ok (.aload_n 0, 1) := by decide +kernel
theorem dX5_findWay_1 : decode cX5_findWay 1 = .ok (.getfield 15, 3) := by decide +kernel
theorem dX5_findWay_4 : decode cX5_findWay 4 = .ok (.iconst (-1), 1) := by decide +kernel
theorem dX5_findWay_5 : decode cX5_findWay 5 = .ok (.invokestatic 24, 3) := by decide +kernel
theorem dX5_findWay_8 : decode cX5_findWay 8 = .ok (.aload_n 0, 1) := by decide +kernel
theorem dX5_findWay_9 : decode cX5_findWay 9 = .ok (.getfield 18, 3) := by decide +kernel
theorem dX5_findWay_12 : decode cX5_findWay 12 = .ok (.iconst 0, 1) := by decide +kernel
theorem dX5_findWay_13 : decode cX5_findWay 13 = .ok (.iload_n 2, 1) := by decide +kernel
theorem dX5_findWay_14 : decode cX5_findWay 14 = .ok (.iastore, 1) := by decide +kernel
theorem dX5_findWay_15 : decode cX5_findWay 15 = .ok (.iconst 1, 1) := by decide +kernel
theorem dX5_findWay_16 : decode cX5_findWay 16 = .ok (.istore 4, 2) := by decide +kernel
theorem dX5_findWay_18 : decode cX5_findWay 18 = .ok (.iconst 0, 1) := by decide +kernel
theorem dX5_findWay_19 : decode cX5_findWay 19 = .ok (.istore 5, 2) := by decide +kernel
theorem dX5_findWay_21 : decode cX5_findWay 21 = .ok (.iload 5, 2) := by decide +kernel
theorem dX5_findWay_23 : decode cX5_findWay 23 = .ok (.iload 4, 2) := by decide +kernel
theorem dX5_findWay_25 : decode cX5_findWay 25 = .ok (.if_icmp .ge 42, 3) := by decide +kernel
theorem dX5_findWay_28 : decode cX5_findWay 28 = .ok (.iload 5, 2) := by decide +kernel
theorem dX5_findWay_30 : decode cX5_findWay 30 = .ok (.bipush 24, 2) := by decide +kernel
theorem dX5_findWay_32 : decode cX5_findWay 32 = .ok (.if_icmp .ge 35, 3) := by decide +kernel
theorem dX5_findWay_35 : decode cX5_findWay 35 = .ok (.aload_n 0, 1) := by decide +kernel
theorem dX5_findWay_36 : decode cX5_findWay 36 = .ok (.getfield 15, 3) := by decide +kernel
theorem dX5_findWay_39 : decode cX5_findWay 39 = .ok (.iload_n 3, 1) := by decide +kernel
theorem dX5_findWay_40 : decode cX5_findWay 40 = .ok (.iaload, 1) := by decide +kernel
theorem dX5_findWay_41 : decode cX5_findWay 41 = .ok (.ifCond .ge 26, 3) := by decide +kernel
theorem dX5_findWay_44 : decode cX5_findWay 44 = .ok (.aload_n 0, 1) := by decide +kernel
theorem dX5_findWay_45 : decode cX5_findWay 45 = .ok (.aload_n 1, 1) := by decide +kernel
theorem dX5_findWay_46 : decode cX5_findWay 46 = .ok (.aload_n 0, 1) := by decide +kernel
theorem dX5_findWay_47 : decode cX5_findWay 47 = .ok (.getfield 18, 3) := by decide +kernel
theorem dX5_findWay_50 : decode cX5_findWay 50 = .ok (.iload 5, 2) := by decide +kernel
theorem dX5_findWay_52 : decode cX5_findWay 52 = .ok (.iaload, 1) := by decide +kernel
theorem dX5_findWay_53 : decode cX5_findWay 53 = .ok (.iload_n 2, 1) := by decide +kernel
theorem dX5_findWay_54 : decode cX5_findWay 54 = .ok (.iload 4, 2) := by decide +kernel
theorem dX5_findWay_56 : decode cX5_findWay 56 = .ok (.invokevirtual 44, 3) := by decide +kernel
theorem dX5_findWay_59 : decode cX5_findWay 59 = .ok (.istore 4, 2) := by decide +kernel
theorem dX5_findWay_61 : decode cX5_findWay 61 = .ok (.iinc 5 1, 3) := by decide +kernel
theorem dX5_findWay_64 : decode cX5_findWay 64 = .ok (.goto (-43), 3) := by decide +kernel
theorem dX5_findWay_67 : decode cX5_findWay 67 = .ok (.aload_n 0, 1) := by decide +kernel
theorem dX5_findWay_68 : decode cX5_findWay 68 = .ok (.getfield 15, 3) := by decide +kernel
theorem dX5_findWay_71 : decode cX5_findWay 71 = .ok (.iload_n 3, 1) := by decide +kernel
theorem dX5_findWay_72 : decode cX5_findWay 72 = .ok (.iaload, 1) := by decide +kernel
theorem dX5_findWay_73 : decode cX5_findWay 73 = .ok (.ifCond .lt 7, 3) := by decide +kernel
theorem dX5_findWay_76 : decode cX5_findWay 76 = .ok (.iconst 1, 1) := by decide +kernel
theorem dX5_findWay_77 : decode cX5_findWay 77 = .ok (.goto 4, 3) := by decide +kernel
theorem dX5_findWay_80 : decode cX5_findWay 80 = .ok (.iconst 0, 1) := by decide +kernel
theorem dX5_findWay_81 : decode cX5_findWay 81 = .ok (.ireturn, 1) := by decide +kernel
set_option maxRecDepth 20000 in
theorem ggX5_reachFrom_X2_leadsTo : GoodIn wsX5_reachFrom wsX2_leadsTo := goodIn_r _ [9, 10, 11, 18, 19, 20, 21, 22] (by decide +kernel) (by decide +kernel)
set_option maxRecDepth 20000 in
theorem gX5_reachFrom_X2_leadsTo : GoodIn wsX5_reachFrom (wsV RX5 48 RX2 yX2_leadsTo wsX2_leadsTo) := goodIn_app (goodIn_of _ (by decide +kernel)) ggX5_reachFrom_X2_leadsTo
set_option maxRecDepth 20000 in
theorem ggX5_reachFrom_X5_direction : GoodIn wsX5_reachFrom wsX5_direction := goodIn_r _ [16, 17, 18, 19, 20, 21, 22] (by decide +kernel) (by decide +kernel)
set_option maxRecDepth 20000 in
theorem gX5_reachFrom_X5_direction : GoodIn wsX5_reachFrom (wsV RX5 52 RX5 yX5_direction wsX5_direction) := goodIn_app (goodIn_of _ (by decide +kernel)) ggX5_reachFrom_X5_direction
theorem dX5_reachFrom_0 : decode cX5_reachFrom 0 = .ok (.iload 4, 2) := by decide +kernel
theorem dX5_reachFrom_2 : decode cX5_reachFrom 2 = .ok (.istore 5, 2) := by decide +kernel
theorem dX5_reachFrom_4 : decode cX5_reachFrom 4 = .ok (.iconst 0, 1) := by decide +kernel
theorem dX5_reachFrom_5 : decode cX5_reachFrom 5 = .ok (.istore 6, 2) := by decide +kernel
theorem dX5_reachFrom_7 : decode cX5_reachFrom 7 = .ok (.iload 6, 2) := by decide +kernel
theorem dX5_reachFrom_9 : decode cX5_reachFrom 9 = .ok (.aload_n 1, 1) := by decide +kernel
theorem dX5_reachFrom_10 : decode cX5_reachFrom 10 = .ok (.getfield 30, 3) := by decide +kernel
theorem dX5_reachFrom_13 : decode cX5_reachFrom 13 = .ok (.if_icmp .ge 85, 3) := by decide +kernel
theorem dX5_reachFrom_16 : decode cX5_reachFrom 16 = .ok (.aload_n 1, 1) := by decide +kernel
theorem dX5_reachFrom_17 : decode cX5_reachFrom 17 = .ok (.iload 6, 2) := by decide +kernel
theorem dX5_reachFrom_19 : decode cX5_reachFrom 19 = .ok (.iload_n 2, 1) := by decide +kernel
theorem dX5_reachFrom_20 : decode cX5_reachFrom 20 = .ok (.invokevirtual 48, 3) := by decide +kernel
theorem dX5_reachFrom_23 : decode cX5_reachFrom 23 = .ok (.istore 7, 2) := by decide +kernel
theorem dX5_reachFrom_25 : decode cX5_reachFrom 25 = .ok (.iload 7, 2) := by decide +kernel
theorem dX5_reachFrom_27 : decode cX5_reachFrom 27 = .ok (.ifCond .lt 65, 3) := by decide +kernel
theorem dX5_reachFrom_30 : decode cX5_reachFrom 30 = .ok (.iload 7, 2) := by decide +kernel
theorem dX5_reachFrom_32 : decode cX5_reachFrom 32 = .ok (.iload_n 3, 1) := by decide +kernel
theorem dX5_reachFrom_33 : decode cX5_reachFrom 33 = .ok (.if_icmp .eq 59, 3) := by decide +kernel
theorem dX5_reachFrom_36 : decode cX5_reachFrom 36 = .ok (.aload_n 0, 1) := by decide +kernel
theorem dX5_reachFrom_37 : decode cX5_reachFrom 37 = .ok (.getfield 15, 3) := by decide +kernel
theorem dX5_reachFrom_40 : decode cX5_reachFrom 40 = .ok (.iload 7, 2) := by decide +kernel
theorem dX5_reachFrom_42 : decode cX5_reachFrom 42 = .ok (.iaload, 1) := by decide +kernel
theorem dX5_reachFrom_43 : decode cX5_reachFrom 43 = .ok (.ifCond .ge 49, 3) := by decide +kernel
theorem dX5_reachFrom_46 : decode cX5_reachFrom 46 = .ok (.aload_n 0, 1) := by decide +kernel
theorem dX5_reachFrom_47 : decode cX5_reachFrom 47 = .ok (.getfield 9, 3) := by decide +kernel
theorem dX5_reachFrom_50 : decode cX5_reachFrom 50 = .ok (.iload 6, 2) := by decide +kernel
theorem dX5_reachFrom_52 : decode cX5_reachFrom 52 = .ok (.iaload, 1) := by decide +kernel
theorem dX5_reachFrom_53 : decode cX5_reachFrom 53 = .ok (.aload_n 0, 1) := by decide +kernel
theorem dX5_reachFrom_54 : decode cX5_reachFrom 54 = .ok (.aload_n 1, 1) := by decide +kernel
theorem dX5_reachFrom_55 : decode cX5_reachFrom 55 = .ok (.iload 6, 2) := by decide +kernel
theorem dX5_reachFrom_57 : decode cX5_reachFrom 57 = .ok (.iload_n 2, 1) := by decide +kernel
theorem dX5_reachFrom_58 : decode cX5_reachFrom 58 = .ok (.invokevirtual 52, 3) := by decide +kernel
theorem dX5_reachFrom_61 : decode cX5_reachFrom 61 = .ok (.if_icmp .eq 31, 3) := by decide +kernel
theorem dX5_reachFrom_64 : decode cX5_reachFrom 64 = .ok (.iload 5, 2) := by decide +kernel
theorem dX5_reachFrom_66 : decode cX5_reachFrom 66 = .ok (.bipush 24, 2) := by decide +kernel
theorem dX5_reachFrom_68 : decode cX5_reachFrom 68 = .ok (.if_icmp .ge 24, 3) := by decide +kernel
theorem dX5_reachFrom_71 : decode cX5_reachFrom 71 = .ok (.aload_n 0, 1) := by decide +kernel
theorem dX5_reachFrom_72 : decode cX5_reachFrom 72 = .ok (.getfield 15, 3) := by decide +kernel
theorem dX5_reachFrom_75 : decode cX5_reachFrom 75 = .ok (.iload 7, 2) := by decide +kernel
theorem dX5_reachFrom_77 : decode cX5_reachFrom 77 = .ok (.iload 6, 2) := by decide +kernel
theorem dX5_reachFrom_79 : decode cX5_reachFrom 79 = .ok (.iastore, 1) := by decide +kernel
theorem dX5_reachFrom_80 : decode cX5_reachFrom 80 = .ok (.aload_n 0, 1) := by decide +kernel
theorem dX5_reachFrom_81 : decode cX5_reachFrom 81 = .ok (.getfield 18, 3) := by decide +kernel
theorem dX5_reachFrom_84 : decode cX5_reachFrom 84 = .ok (.iload 5, 2) := by decide +kernel
theorem dX5_reachFrom_86 : decode cX5_reachFrom 86 = .ok (.iload 7, 2) := by decide +kernel
theorem dX5_reachFrom_88 : decode cX5_reachFrom 88 = .ok (.iastore, 1) := by decide +kernel
theorem dX5_reachFrom_89 : decode cX5_reachFrom 89 = .ok (.iinc 5 1, 3) := by decide +kernel
theorem dX5_reachFrom_92 : decode cX5_reachFrom 92 = .ok (.iinc 6 1, 3) := by decide +kernel
theorem dX5_reachFrom_95 : decode cX5_reachFrom 95 = .ok (.goto (-88), 3) := by decide +kernel
theorem dX5_reachFrom_98 : decode cX5_reachFrom 98 = .ok (.iload 5, 2) := by decide +kernel
theorem dX5_reachFrom_100 : decode cX5_reachFrom 100 = .ok (.ireturn, 1) := by decide +kernel
theorem dX5_direction_0 : decode cX5_direction 0 = .ok (.aload_n 1, 1) := by decide +kernel
theorem dX5_direction_1 : decode cX5_direction 1 = .ok (.getfield 56, 3) := by decide +kernel
theorem dX5_direction_4 : decode cX5_direction 4 = .ok (.iload_n 2, 1) := by decide +kernel
theorem dX5_direction_5 : decode cX5_direction 5 = .ok (.iaload, 1) := by decide +kernel
theorem dX5_direction_6 : decode cX5_direction 6 = .ok (.iload_n 3, 1) := by decide +kernel
theorem dX5_direction_7 : decode cX5_direction 7 = .ok (.if_icmp .ne 7, 3) := by decide +kernel
theorem dX5_direction_10 : decode cX5_direction 10 = .ok (.iconst 1, 1) := by decide +kernel
theorem dX5_direction_11 : decode cX5_direction 11 = .ok (.goto 4, 3) := by decide +kernel
theorem dX5_direction_14 : decode cX5_direction 14 = .ok (.iconst (-1), 1) := by decide +kernel
theorem dX5_direction_15 : decode cX5_direction 15 = .ok (.ireturn, 1) := by decide +kernel
set_option maxRecDepth 20000 in
theorem ggX5_useWay_X2_leadsTo : GoodIn wsX5_useWay wsX2_leadsTo := goodIn_r _ [7, 8, 9, 20, 21, 22, 23, 24] (by decide +kernel) (by decide +kernel)
set_option maxRecDepth 20000 in
theorem gX5_useWay_X2_leadsTo : GoodIn wsX5_useWay (wsV RX5 48 RX2 yX2_leadsTo wsX2_leadsTo) := goodIn_app (goodIn_of _ (by decide +kernel)) ggX5_useWay_X2_leadsTo
set_option maxRecDepth 20000 in
theorem ggX5_useWay_X5_direction : GoodIn wsX5_useWay wsX5_direction := goodIn_r _ [14, 15, 20, 21, 22, 23, 24] (by decide +kernel) (by decide +kernel)
set_option maxRecDepth 20000 in
theorem gX5_useWay_X5_direction : GoodIn wsX5_useWay (wsV RX5 52 RX5 yX5_direction wsX5_direction) := goodIn_app (goodIn_of _ (by decide +kernel)) ggX5_useWay_X5_direction
theorem dX5_useWay_0 : decode cX5_useWay 0 = .ok (.iload_n 3, 1) := by decide +kernel
theorem dX5_useWay_1 : decode cX5_useWay 1 = .ok (.istore 4, 2) := by decide +kernel
theorem dX5_useWay_3 : decode cX5_useWay 3 = .ok (.iconst 0, 1) := by decide +kernel
theorem dX5_useWay_4 : decode cX5_useWay 4 = .ok (.istore 5, 2) := by decide +kernel
theorem dX5_useWay_6 : decode cX5_useWay 6 = .ok (.iload 5, 2) := by decide +kernel
theorem dX5_useWay_8 : decode cX5_useWay 8 = .ok (.bipush 24, 2) := by decide +kernel
theorem dX5_useWay_10 : decode cX5_useWay 10 = .ok (.if_icmp .ge 76, 3) := by decide +kernel
theorem dX5_useWay_13 : decode cX5_useWay 13 = .ok (.iload 4, 2) := by decide +kernel
theorem dX5_useWay_15 : decode cX5_useWay 15 = .ok (.ifCond .lt 71, 3) := by decide +kernel
theorem dX5_useWay_18 : decode cX5_useWay 18 = .ok (.iload 4, 2) := by decide +kernel
theorem dX5_useWay_20 : decode cX5_useWay 20 = .ok (.iload_n 2, 1) := by decide +kernel
theorem dX5_useWay_21 : decode cX5_useWay 21 = .ok (.if_icmp .eq 65, 3) := by decide +kernel
theorem dX5_useWay_24 : decode cX5_useWay 24 = .ok (.aload_n 0, 1) := by decide +kernel
theorem dX5_useWay_25 : decode cX5_useWay 25 = .ok (.getfield 15, 3) := by decide +kernel
theorem dX5_useWay_28 : decode cX5_useWay 28 = .ok (.iload 4, 2) := by decide +kernel
theorem dX5_useWay_30 : decode cX5_useWay 30 = .ok (.iaload, 1) := by decide +kernel
theorem dX5_useWay_31 : decode cX5_useWay 31 = .ok (.istore 6, 2) := by decide +kernel
theorem dX5_useWay_33 : decode cX5_useWay 33 = .ok (.iload 6, 2) := by decide +kernel
theorem dX5_useWay_35 : decode cX5_useWay 35 = .ok (.ifCond .lt 14, 3) := by decide +kernel
theorem dX5_useWay_38 : decode cX5_useWay 38 = .ok (.aload_n 1, 1) := by decide +kernel
theorem dX5_useWay_39 : decode cX5_useWay 39 = .ok (.iload 6, 2) := by decide +kernel
theorem dX5_useWay_41 : decode cX5_useWay 41 = .ok (.iload 4, 2) := by decide +kernel
theorem dX5_useWay_43 : decode cX5_useWay 43 = .ok (.invokevirtual 48, 3) := by decide +kernel
theorem dX5_useWay_46 : decode cX5_useWay 46 = .ok (.goto 4, 3) := by decide +kernel
theorem dX5_useWay_49 : decode cX5_useWay 49 = .ok (.iconst (-1), 1) := by decide +kernel
theorem dX5_useWay_50 : decode cX5_useWay 50 = .ok (.istore 7, 2) := by decide +kernel
theorem dX5_useWay_52 : decode cX5_useWay 52 = .ok (.iload 7, 2) := by decide +kernel
theorem dX5_useWay_54 : decode cX5_useWay 54 = .ok (.ifCond .lt 22, 3) := by decide +kernel
theorem dX5_useWay_57 : decode cX5_useWay 57 = .ok (.aload_n 0, 1) := by decide +kernel
theorem dX5_useWay_58 : decode cX5_useWay 58 = .ok (.getfield 9, 3) := by decide +kernel
theorem dX5_useWay_61 : decode cX5_useWay 61 = .ok (.iload 6, 2) := by decide +kernel
theorem dX5_useWay_63 : decode cX5_useWay 63 = .ok (.dup2, 1) := by decide +kernel
theorem dX5_useWay_64 : decode cX5_useWay 64 = .ok (.iaload, 1) := by decide +kernel
theorem dX5_useWay_65 : decode cX5_useWay 65 = .ok (.aload_n 0, 1) := by decide +kernel
theorem dX5_useWay_66 : decode cX5_useWay 66 = .ok (.aload_n 1, 1) := by decide +kernel
theorem dX5_useWay_67 : decode cX5_useWay 67 = .ok (.iload 6, 2) := by decide +kernel
theorem dX5_useWay_69 : decode cX5_useWay 69 = .ok (.iload 7, 2) := by decide +kernel
theorem dX5_useWay_71 : decode cX5_useWay 71 = .ok (.invokevirtual 52, 3) := by decide +kernel
theorem dX5_useWay_74 : decode cX5_useWay 74 = .ok (.iadd, 1) := by decide +kernel
theorem dX5_useWay_75 : decode cX5_useWay 75 = .ok (.iastore, 1) := by decide +kernel
theorem dX5_useWay_76 : decode cX5_useWay 76 = .ok (.iload 7, 2) := by decide +kernel
theorem dX5_useWay_78 : decode cX5_useWay 78 = .ok (.istore 4, 2) := by decide +kernel
theorem dX5_useWay_80 : decode cX5_useWay 80 = .ok (.iinc 5 1, 3) := by decide +kernel
theorem dX5_useWay_83 : decode cX5_useWay 83 = .ok (.goto (-77), 3) := by decide +kernel
theorem dX5_useWay_86 : decode cX5_useWay 86 = .ok (.return_, 1) := by decide +kernel
set_option maxRecDepth 20000 in
theorem ggX5_strongest_J7_fill_53178 : GoodIn wsX5_strongest wsJ7_fill_53178 := goodIn_r _ [5] (by decide +kernel) (by decide +kernel)
set_option maxRecDepth 20000 in
theorem gX5_strongest_J7_fill_53178 : GoodIn wsX5_strongest (va_wsS RX5 24 yJ7_fill_53178 wsJ7_fill_53178) := goodIn_app (goodIn_of _ (by decide +kernel)) ggX5_strongest_J7_fill_53178
set_option maxRecDepth 20000 in
theorem ggX5_strongest_X5_strengthen : GoodIn wsX5_strongest wsX5_strengthen := goodIn_r _ [10, 11, 12, 13, 1, 14, 15, 16, 17, 18, 19, 20, 21, 22, 23, 24, 25, 26, 27, 32, 33, 34, 35, 36, 28, 29, 30, 31] (by decide +kernel) (by decide +kernel)
set_option maxRecDepth 20000 in
theorem gX5_strongest_X5_strengthen : GoodIn wsX5_strongest (wsV RX5 59 RX5 yX5_strengthen wsX5_strengthen) := goodIn_app (goodIn_of _ (by decide +kernel)) ggX5_strongest_X5_strengthen
theorem dX5_strongest_0 : decode cX5_strongest 0 = .ok (.aload_n 0, 1) := by decide +kernel
theorem dX5_strongest_1 : decode cX5_strongest 1 = .ok (.getfield 21, 3) := by decide +kernel
theorem dX5_strongest_4 : decode cX5_strongest 4 = .ok (.iconst 0, 1) := by decide +kernel
theorem dX5_strongest_5 : decode cX5_strongest 5 = .ok (.invokestatic 24, 3) := by decide +kernel
theorem dX5_strongest_8 : decode cX5_strongest 8 = .ok (.aload_n 0, 1) := by decide +kernel
theorem dX5_strongest_9 : decode cX5_strongest 9 = .ok (.getfield 21, 3) := by decide +kernel
theorem dX5_strongest_12 : decode cX5_strongest 12 = .ok (.iload_n 2, 1) := by decide +kernel
theorem dX5_strongest_13 : decode cX5_strongest 13 = .ok (.bipush 50, 2) := by decide +kernel
theorem dX5_strongest_15 : decode cX5_strongest 15 = .ok (.iastore, 1) := by decide +kernel
theorem dX5_strongest_16 : decode cX5_strongest 16 = .ok (.iconst 1, 1) := by decide +kernel
theorem dX5_strongest_17 : decode cX5_strongest 17 = .ok (.istore 4, 2) := by decide +kernel
theorem dX5_strongest_19 : decode cX5_strongest 19 = .ok (.iconst 0, 1) := by decide +kernel
theorem dX5_strongest_20 : decode cX5_strongest 20 = .ok (.istore 5, 2) := by decide +kernel
theorem dX5_strongest_22 : decode cX5_strongest 22 = .ok (.iload 5, 2) := by decide +kernel
theorem dX5_strongest_24 : decode cX5_strongest 24 = .ok (.bipush 24, 2) := by decide +kernel
theorem dX5_strongest_26 : decode cX5_strongest 26 = .ok (.if_icmp .ge 21, 3) := by decide +kernel
theorem dX5_strongest_29 : decode cX5_strongest 29 = .ok (.iload 4, 2) := by decide +kernel
theorem dX5_strongest_31 : decode cX5_strongest 31 = .ok (.ifCond .eq 16, 3) := by decide +kernel
theorem dX5_strongest_34 : decode cX5_strongest 34 = .ok (.aload_n 0, 1) := by decide +kernel
theorem dX5_strongest_35 : decode cX5_strongest 35 = .ok (.aload_n 1, 1) := by decide +kernel
theorem dX5_strongest_36 : decode cX5_strongest 36 = .ok (.invokevirtual 59, 3) := by decide +kernel
theorem dX5_strongest_39 : decode cX5_strongest 39 = .ok (.istore 4, 2) := by decide +kernel
theorem dX5_strongest_41 : decode cX5_strongest 41 = .ok (.iinc 5 1, 3) := by decide +kernel
theorem dX5_strongest_44 : decode cX5_strongest 44 = .ok (.goto (-22), 3) := by decide +kernel
theorem dX5_strongest_47 : decode cX5_strongest 47 = .ok (.aload_n 0, 1) := by decide +kernel
theorem dX5_strongest_48 : decode cX5_strongest 48 = .ok (.getfield 21, 3) := by decide +kernel
theorem dX5_strongest_51 : decode cX5_strongest 51 = .ok (.iload_n 3, 1) := by decide +kernel
theorem dX5_strongest_52 : decode cX5_strongest 52 = .ok (.iaload, 1) := by decide +kernel
theorem dX5_strongest_53 : decode cX5_strongest 53 = .ok (.ireturn, 1) := by decide +kernel
set_option maxRecDepth 20000 in
theorem ggX5_strengthen_X2_left : GoodIn wsX5_strengthen wsX2_left := goodIn_r _ [16, 17, 18, 19, 20, 21, 22, 23] (by decide +kernel) (by decide +kernel)
set_option maxRecDepth 20000 in
theorem gX5_strengthen_X2_left : GoodIn wsX5_strengthen (wsV RX5 66 RX2 yX2_left wsX2_left) := goodIn_app (goodIn_of _ (by decide +kernel)) ggX5_strengthen_X2_left
theorem dX5_strengthen_0 : decode cX5_strengthen 0 = .ok (.iconst 0, 1) := by decide +kernel
theorem dX5_strengthen_1 : decode cX5_strengthen 1 = .ok (.istore_n 2, 1) := by decide +kernel
theorem dX5_strengthen_2 : decode cX5_strengthen 2 = .ok (.iconst 0, 1) := by decide +kernel
theorem dX5_strengthen_3 : decode cX5_strengthen 3 = .ok (.istore_n 3, 1) := by decide +kernel
theorem dX5_strengthen_4 : decode cX5_strengthen 4 = .ok (.iload_n 3, 1) := by decide +kernel
theorem dX5_strengthen_5 : decode cX5_strengthen 5 = .ok (.aload_n 1, 1) := by decide +kernel
theorem dX5_strengthen_6 : decode cX5_strengthen 6 = .ok (.getfield 30, 3) := by decide +kernel
theorem dX5_strengthen_9 : decode cX5_strengthen 9 = .ok (.if_icmp .ge 98, 3) := by decide +kernel
theorem dX5_strengthen_12 : decode cX5_strengthen 12 = .ok (.aload_n 1, 1) := by decide +kernel
theorem dX5_strengthen_13 : decode cX5_strengthen 13 = .ok (.getfield 56, 3) := by decide +kernel
theorem dX5_strengthen_16 : decode cX5_strengthen 16 = .ok (.iload_n 3, 1) := by decide +kernel
theorem dX5_strengthen_17 : decode cX5_strengthen 17 = .ok (.iaload, 1) := by decide +kernel
theorem dX5_strengthen_18 : decode cX5_strengthen 18 = .ok (.istore 4, 2) := by decide +kernel
theorem dX5_strengthen_20 : decode cX5_strengthen 20 = .ok (.aload_n 1, 1) := by decide +kernel
theorem dX5_strengthen_21 : decode cX5_strengthen 21 = .ok (.getfield 63, 3) := by decide +kernel
theorem dX5_strengthen_24 : decode cX5_strengthen 24 = .ok (.iload_n 3, 1) := by decide +kernel
theorem dX5_strengthen_25 : decode cX5_strengthen 25 = .ok (.iaload, 1) := by decide +kernel
theorem dX5_strengthen_26 : decode cX5_strengthen 26 = .ok (.istore 5, 2) := by decide +kernel
theorem dX5_strengthen_28 : decode cX5_strengthen 28 = .ok (.aload_n 1, 1) := by decide +kernel
theorem dX5_strengthen_29 : decode cX5_strengthen 29 = .ok (.iload_n 3, 1) := by decide +kernel
theorem dX5_strengthen_30 : decode cX5_strengthen 30 = .ok (.invokevirtual 66, 3) := by decide +kernel
theorem dX5_strengthen_33 : decode cX5_strengthen 33 = .ok (.aload_n 0, 1) := by decide +kernel
theorem dX5_strengthen_34 : decode cX5_strengthen 34 = .ok (.getfield 21, 3) := by decide +kernel
theorem dX5_strengthen_37 : decode cX5_strengthen 37 = .ok (.iload 4, 2) := by decide +kernel
theorem dX5_strengthen_39 : decode cX5_strengthen 39 = .ok (.iaload, 1) := by decide +kernel
theorem dX5_strengthen_40 : decode cX5_strengthen 40 = .ok (.aload_n 0, 1) := by decide +kernel
theorem dX5_strengthen_41 : decode cX5_strengthen 41 = .ok (.getfield 21, 3) := by decide +kernel
theorem dX5_strengthen_44 : decode cX5_strengthen 44 = .ok (.iload 5, 2) := by decide +kernel
theorem dX5_strengthen_46 : decode cX5_strengthen 46 = .ok (.iaload, 1) := by decide +kernel
theorem dX5_strengthen_47 : decode cX5_strengthen 47 = .ok (.invokestatic 70, 3) := by decide +kernel
theorem dX5_strengthen_50 : decode cX5_strengthen 50 = .ok (.invokestatic 75, 3) := by decide +kernel
theorem dX5_strengthen_53 : decode cX5_strengthen 53 = .ok (.istore 6, 2) := by decide +kernel
theorem dX5_strengthen_55 : decode cX5_strengthen 55 = .ok (.iload 6, 2) := by decide +kernel
theorem dX5_strengthen_57 : decode cX5_strengthen 57 = .ok (.aload_n 0, 1) := by decide +kernel
theorem dX5_strengthen_58 : decode cX5_strengthen 58 = .ok (.getfield 21, 3) := by decide +kernel
theorem dX5_strengthen_61 : decode cX5_strengthen 61 = .ok (.iload 4, 2) := by decide +kernel
theorem dX5_strengthen_63 : decode cX5_strengthen 63 = .ok (.iaload, 1) := by decide +kernel
theorem dX5_strengthen_64 : decode cX5_strengthen 64 = .ok (.if_icmp .le 14, 3) := by decide +kernel
theorem dX5_strengthen_67 : decode cX5_strengthen 67 = .ok (.aload_n 0, 1) := by decide +kernel
theorem dX5_strengthen_68 : decode cX5_strengthen 68 = .ok (.getfield 21, 3) := by decide +kernel
theorem dX5_strengthen_71 : decode cX5_strengthen 71 = .ok (.iload 4, 2) := by decide +kernel
theorem dX5_strengthen_73 : decode cX5_strengthen 73 = .ok (.iload 6, 2) := by decide +kernel
theorem dX5_strengthen_75 : decode cX5_strengthen 75 = .ok (.iastore, 1) := by decide +kernel
theorem dX5_strengthen_76 : decode cX5_strengthen 76 = .ok (.iconst 1, 1) := by decide +kernel
theorem dX5_strengthen_77 : decode cX5_strengthen 77 = .ok (.istore_n 2, 1) := by decide +kernel
theorem dX5_strengthen_78 : decode cX5_strengthen 78 = .ok (.iload 6, 2) := by decide +kernel
theorem dX5_strengthen_80 : decode cX5_strengthen 80 = .ok (.aload_n 0, 1) := by decide +kernel
theorem dX5_strengthen_81 : decode cX5_strengthen 81 = .ok (.getfield 21, 3) := by decide +kernel
theorem dX5_strengthen_84 : decode cX5_strengthen 84 = .ok (.iload 5, 2) := by decide +kernel
theorem dX5_strengthen_86 : decode cX5_strengthen 86 = .ok (.iaload, 1) := by decide +kernel
theorem dX5_strengthen_87 : decode cX5_strengthen 87 = .ok (.if_icmp .le 14, 3) := by decide +kernel
theorem dX5_strengthen_90 : decode cX5_strengthen 90 = .ok (.aload_n 0, 1) := by decide +kernel
theorem dX5_strengthen_91 : decode cX5_strengthen 91 = .ok (.getfield 21, 3) := by decide +kernel
theorem dX5_strengthen_94 : decode cX5_strengthen 94 = .ok (.iload 5, 2) := by decide +kernel
theorem dX5_strengthen_96 : decode cX5_strengthen 96 = .ok (.iload 6, 2) := by decide +kernel
theorem dX5_strengthen_98 : decode cX5_strengthen 98 = .ok (.iastore, 1) := by decide +kernel
theorem dX5_strengthen_99 : decode cX5_strengthen 99 = .ok (.iconst 1, 1) := by decide +kernel
theorem dX5_strengthen_100 : decode cX5_strengthen 100 = .ok (.istore_n 2, 1) := by decide +kernel
theorem dX5_strengthen_101 : decode cX5_strengthen 101 = .ok (.iinc 3 1, 3) := by decide +kernel
theorem dX5_strengthen_104 : decode cX5_strengthen 104 = .ok (.goto (-100), 3) := by decide +kernel
theorem dX5_strengthen_107 : decode cX5_strengthen 107 = .ok (.iload_n 2, 1) := by decide +kernel
theorem dX5_strengthen_108 : decode cX5_strengthen 108 = .ok (.ireturn, 1) := by decide +kernel
set_option maxRecDepth 20000 in
theorem ggX6_init_X4_init : GoodIn wsX6_init wsX4_init := goodIn_r _ [20, 21, 2, 3, 22, 23, 24, 25, 26, 27, 28, 29, 30, 81, 82, 83, 84, 85, 86, 87] (by decide +kernel) (by decide +kernel)
set_option maxRecDepth 20000 in
theorem gX6_init_X4_init : GoodIn wsX6_init (wsX4_init) := ggX6_init_X4_init
set_option maxRecDepth 20000 in
theorem ggX6_init_X3_init : GoodIn wsX6_init wsX3_init := goodIn_r _ [32, 33, 2, 3, 34, 35, 36, 37, 38, 39, 40, 41, 42, 43, 44, 45, 22, 46, 47, 48, 49, 50, 51, 52, 53, 54, 55, 56, 57, 58, 59, 60, 61, 62, 63, 64, 65, 66, 67, 68, 69, 70, 71, 72, 73, 104, 105, 106, 107, 108, 109, 110, 111, 112, 113, 114, 115, 93, 94, 95, 96, 97, 98, 99, 116, 117, 118, 119, 120, 121, 122, 123] (by decide +kernel) (by decide +kernel)
set_option maxRecDepth 20000 in
theorem gX6_init_X3_init_n18 : GoodIn wsX6_init (wsX3_init) := ggX6_init_X3_init
set_option maxRecDepth 20000 in
theorem ggX6_init_X5_init : GoodIn wsX6_init wsX5_init := goodIn_r _ [75, 76, 2, 3, 22, 77, 78, 79, 80, 100, 101, 102, 103] (by decide +kernel) (by decide +kernel)
set_option maxRecDepth 20000 in
theorem gX6_init_X5_init_n28 : GoodIn wsX6_init (wsX5_init) := ggX6_init_X5_init
theorem dX6_init_0 : decode cX6_init 0 = .ok (.aload_n 0, 1) := by decide +kernel
theorem dX6_init_1 : decode cX6_init 1 = .ok (.invokespecial 3, 3) := by decide +kernel
theorem dX6_init_4 : decode cX6_init 4 = .ok (.aload_n 0, 1) := by decide +kernel
theorem dX6_init_5 : decode cX6_init 5 = .ok (.new 9, 3) := by decide +kernel
theorem dX6_init_8 : decode cX6_init 8 = .ok (.dup, 1) := by decide +kernel
theorem dX6_init_9 : decode cX6_init 9 = .ok (.invokespecial 11, 3) := by decide +kernel
theorem dX6_init_12 : decode cX6_init 12 = .ok (.putfield 12, 3) := by decide +kernel
theorem dX6_init_15 : decode cX6_init 15 = .ok (.aload_n 0, 1) := by decide +kernel
theorem dX6_init_16 : decode cX6_init 16 = .ok (.new 16, 3) := by decide +kernel
theorem dX6_init_19 : decode cX6_init 19 = .ok (.dup, 1) := by decide +kernel
theorem dX6_init_20 : decode cX6_init 20 = .ok (.invokespecial 18, 3) := by decide +kernel
theorem dX6_init_23 : decode cX6_init 23 = .ok (.putfield 19, 3) := by decide +kernel
theorem dX6_init_26 : decode cX6_init 26 = .ok (.aload_n 0, 1) := by decide +kernel
theorem dX6_init_27 : decode cX6_init 27 = .ok (.new 16, 3) := by decide +kernel
theorem dX6_init_30 : decode cX6_init 30 = .ok (.dup, 1) := by decide +kernel
theorem dX6_init_31 : decode cX6_init 31 = .ok (.invokespecial 18, 3) := by decide +kernel
theorem dX6_init_34 : decode cX6_init 34 = .ok (.putfield 23, 3) := by decide +kernel
theorem dX6_init_37 : decode cX6_init 37 = .ok (.aload_n 0, 1) := by decide +kernel
theorem dX6_init_38 : decode cX6_init 38 = .ok (.new 26, 3) := by decide +kernel
theorem dX6_init_41 : decode cX6_init 41 = .ok (.dup, 1) := by decide +kernel
theorem dX6_init_42 : decode cX6_init 42 = .ok (.invokespecial 28, 3) := by decide +kernel
theorem dX6_init_45 : decode cX6_init 45 = .ok (.putfield 29, 3) := by decide +kernel
theorem dX6_init_48 : decode cX6_init 48 = .ok (.aload_n 0, 1) := by decide +kernel
theorem dX6_init_49 : decode cX6_init 49 = .ok (.bipush 10, 2) := by decide +kernel
theorem dX6_init_51 : decode cX6_init 51 = .ok (.putfield 33, 3) := by decide +kernel
theorem dX6_init_54 : decode cX6_init 54 = .ok (.return_, 1) := by decide +kernel
set_option maxRecDepth 20000 in
theorem ggX6_addWater_X6_isSea : GoodIn wsX6_addWater wsX6_isSea := goodIn_r _ [10] (by decide +kernel) (by decide +kernel)
set_option maxRecDepth 20000 in
theorem gX6_addWater_X6_isSea : GoodIn wsX6_addWater (va_wsS RX6 37 yX6_isSea wsX6_isSea) := goodIn_app (goodIn_of _ (by decide +kernel)) ggX6_addWater_X6_isSea
set_option maxRecDepth 20000 in
theorem ggX6_addWater_X6_isFlow : GoodIn wsX6_addWater wsX6_isFlow := goodIn_r _ [13] (by decide +kernel) (by decide +kernel)
set_option maxRecDepth 20000 in
theorem gX6_addWater_X6_isFlow : GoodIn wsX6_addWater (va_wsS RX6 50 yX6_isFlow wsX6_isFlow) := goodIn_app (goodIn_of _ (by decide +kernel)) ggX6_addWater_X6_isFlow
set_option maxRecDepth 20000 in
theorem ggX6_addWater_X4_cover : GoodIn wsX6_addWater wsX4_cover := goodIn_r _ [18, 19, 20, 8, 9, 10, 33, 34, 35, 36, 37, 38, 39] (by decide +kernel) (by decide +kernel)
set_option maxRecDepth 20000 in
theorem gX6_addWater_X4_cover : GoodIn wsX6_addWater (wsV RX6 64 RX4 yX4_cover wsX4_cover) := goodIn_app (goodIn_of _ (by decide +kernel)) ggX6_addWater_X4_cover
set_option maxRecDepth 20000 in
theorem ggX6_addWater_X4_append : GoodIn wsX6_addWater wsX4_append := goodIn_r _ [24, 20, 25, 26, 27, 33, 34, 35, 36, 37, 38, 39] (by decide +kernel) (by decide +kernel)
set_option maxRecDepth 20000 in
theorem gX6_addWater_X4_append : GoodIn wsX6_addWater (wsV RX6 68 RX4 yX4_append wsX4_append) := goodIn_app (goodIn_of _ (by decide +kernel)) ggX6_addWater_X4_append
theorem dX6_addWater_0 : decode cX6_addWater 0 = .ok (.iload_n 1, 1) := by decide +kernel
theorem dX6_addWater_1 : decode cX6_addWater 1 = .ok (.iload_n 2, 1) := by decide +kernel
theorem dX6_addWater_2 : decode cX6_addWater 2 = .ok (.invokestatic 37, 3) := by decide +kernel
theorem dX6_addWater_5 : decode cX6_addWater 5 = .ok (.ifCond .eq 14, 3) := by decide +kernel
theorem dX6_addWater_8 : decode cX6_addWater 8 = .ok (.iload_n 3, 1) := by decide +kernel
theorem dX6_addWater_9 : decode cX6_addWater 9 = .ok (.iconst 1, 1) := by decide +kernel
theorem dX6_addWater_10 : decode cX6_addWater 10 = .ok (.if_icmp .lt 9, 3) := by decide +kernel
theorem dX6_addWater_13 : decode cX6_addWater 13 = .ok (.iload 4, 2) := by decide +kernel
theorem dX6_addWater_15 : decode cX6_addWater 15 = .ok (.iconst 1, 1) := by decide +kernel
theorem dX6_addWater_16 : decode cX6_addWater 16 = .ok (.if_icmp .ge 13, 3) := by decide +kernel
theorem dX6_addWater_19 : decode cX6_addWater 19 = .ok (.new 41, 3) := by decide +kernel
theorem dX6_addWater_22 : decode cX6_addWater 22 = .ok (.dup, 1) := by decide +kernel
theorem dX6_addWater_23 : decode cX6_addWater 23 = .ok (.ldc 43, 2) := by decide +kernel
theorem dX6_addWater_25 : decode cX6_addWater 25 = .ok (.invokespecial 45, 3) := by decide +kernel
theorem dX6_addWater_28 : decode cX6_addWater 28 = .ok (.athrow, 1) := by decide +kernel
theorem dX6_addWater_29 : decode cX6_addWater 29 = .ok (.iload_n 3, 1) := by decide +kernel
theorem dX6_addWater_30 : decode cX6_addWater 30 = .ok (.bipush 30, 2) := by decide +kernel
theorem dX6_addWater_32 : decode cX6_addWater 32 = .ok (.iload_n 1, 1) := by decide +kernel
theorem dX6_addWater_33 : decode cX6_addWater 33 = .ok (.isub, 1) := by decide +kernel
theorem dX6_addWater_34 : decode cX6_addWater 34 = .ok (.if_icmp .gt 12, 3) := by decide +kernel
theorem dX6_addWater_37 : decode cX6_addWater 37 = .ok (.iload 4, 2) := by decide +kernel
theorem dX6_addWater_39 : decode cX6_addWater 39 = .ok (.bipush 20, 2) := by decide +kernel
theorem dX6_addWater_41 : decode cX6_addWater 41 = .ok (.iload_n 2, 1) := by decide +kernel
theorem dX6_addWater_42 : decode cX6_addWater 42 = .ok (.isub, 1) := by decide +kernel
theorem dX6_addWater_43 : decode cX6_addWater 43 = .ok (.if_icmp .le 13, 3) := by decide +kernel
theorem dX6_addWater_46 : decode cX6_addWater 46 = .ok (.new 41, 3) := by decide +kernel
theorem dX6_addWater_49 : decode cX6_addWater 49 = .ok (.dup, 1) := by decide +kernel
theorem dX6_addWater_50 : decode cX6_addWater 50 = .ok (.ldc 48, 2) := by decide +kernel
theorem dX6_addWater_52 : decode cX6_addWater 52 = .ok (.invokespecial 45, 3) := by decide +kernel
theorem dX6_addWater_55 : decode cX6_addWater 55 = .ok (.athrow, 1) := by decide +kernel
theorem dX6_addWater_56 : decode cX6_addWater 56 = .ok (.iload 5, 2) := by decide +kernel
theorem dX6_addWater_58 : decode cX6_addWater 58 = .ok (.invokestatic 50, 3) := by decide +kernel
theorem dX6_addWater_61 : decode cX6_addWater 61 = .ok (.ifCond .eq 23, 3) := by decide +kernel
theorem dX6_addWater_64 : decode cX6_addWater 64 = .ok (.iload 6, 2) := by decide +kernel
theorem dX6_addWater_66 : decode cX6_addWater 66 = .ok (.invokestatic 50, 3) := by decide +kernel
theorem dX6_addWater_69 : decode cX6_addWater 69 = .ok (.ifCond .eq 15, 3) := by decide +kernel
theorem dX6_addWater_72 : decode cX6_addWater 72 = .ok (.iload 7, 2) := by decide +kernel
theorem dX6_addWater_74 : decode cX6_addWater 74 = .ok (.ifCond .lt 10, 3) := by decide +kernel
theorem dX6_addWater_77 : decode cX6_addWater 77 = .ok (.iload 7, 2) := by decide +kernel
theorem dX6_addWater_79 : decode cX6_addWater 79 = .ok (.bipush 20, 2) := by decide +kernel
theorem dX6_addWater_81 : decode cX6_addWater 81 = .ok (.if_icmp .le 13, 3) := by decide +kernel
theorem dX6_addWater_84 : decode cX6_addWater 84 = .ok (.new 41, 3) := by decide +kernel
theorem dX6_addWater_87 : decode cX6_addWater 87 = .ok (.dup, 1) := by decide +kernel
theorem dX6_addWater_88 : decode cX6_addWater 88 = .ok (.ldc 54, 2) := by decide +kernel
theorem dX6_addWater_90 : decode cX6_addWater 90 = .ok (.invokespecial 45, 3) := by decide +kernel
theorem dX6_addWater_93 : decode cX6_addWater 93 = .ok (.athrow, 1) := by decide +kernel
theorem dX6_addWater_94 : decode cX6_addWater 94 = .ok (.aload_n 0, 1) := by decide +kernel
theorem dX6_addWater_95 : decode cX6_addWater 95 = .ok (.getfield 12, 3) := by decide +kernel
theorem dX6_addWater_98 : decode cX6_addWater 98 = .ok (.getfield 56, 3) := by decide +kernel
theorem dX6_addWater_101 : decode cX6_addWater 101 = .ok (.bipush 8, 2) := by decide +kernel
theorem dX6_addWater_103 : decode cX6_addWater 103 = .ok (.if_icmp .lt 13, 3) := by decide +kernel
theorem dX6_addWater_106 : decode cX6_addWater 106 = .ok (.new 59, 3) := by decide +kernel
theorem dX6_addWater_109 : decode cX6_addWater 109 = .ok (.dup, 1) := by decide +kernel
theorem dX6_addWater_110 : decode cX6_addWater 110 = .ok (.ldc 61, 2) := by decide +kernel
theorem dX6_addWater_112 : decode cX6_addWater 112 = .ok (.invokespecial 63, 3) := by decide +kernel
theorem dX6_addWater_115 : decode cX6_addWater 115 = .ok (.athrow, 1) := by decide +kernel
theorem dX6_addWater_116 : decode cX6_addWater 116 = .ok (.aload_n 0, 1) := by decide +kernel
theorem dX6_addWater_117 : decode cX6_addWater 117 = .ok (.getfield 12, 3) := by decide +kernel
theorem dX6_addWater_120 : decode cX6_addWater 120 = .ok (.iload_n 1, 1) := by decide +kernel
theorem dX6_addWater_121 : decode cX6_addWater 121 = .ok (.iload_n 2, 1) := by decide +kernel
theorem dX6_addWater_122 : decode cX6_addWater 122 = .ok (.iload_n 3, 1) := by decide +kernel
theorem dX6_addWater_123 : decode cX6_addWater 123 = .ok (.iload 4, 2) := by decide +kernel
theorem dX6_addWater_125 : decode cX6_addWater 125 = .ok (.invokevirtual 64, 3) := by decide +kernel
theorem dX6_addWater_128 : decode cX6_addWater 128 = .ok (.aload_n 0, 1) := by decide +kernel
theorem dX6_addWater_129 : decode cX6_addWater 129 = .ok (.getfield 12, 3) := by decide +kernel
theorem dX6_addWater_132 : decode cX6_addWater 132 = .ok (.iload 5, 2) := by decide +kernel
theorem dX6_addWater_134 : decode cX6_addWater 134 = .ok (.iload 6, 2) := by decide +kernel
theorem dX6_addWater_136 : decode cX6_addWater 136 = .ok (.iload 7, 2) := by decide +kernel
theorem dX6_addWater_138 : decode cX6_addWater 138 = .ok (.invokevirtual 68, 3) := by decide +kernel
theorem dX6_addWater_141 : decode cX6_addWater 141 = .ok (.ireturn, 1) := by decide +kernel
set_option maxRecDepth 20000 in
theorem ggX6_setWind_X6_isFlow : GoodIn wsX6_setWind wsX6_isFlow := goodIn_r _ [9] (by decide +kernel) (by decide +kernel)
set_option maxRecDepth 20000 in
theorem gX6_setWind_X6_isFlow : GoodIn wsX6_setWind (va_wsS RX6 50 yX6_isFlow wsX6_isFlow) := goodIn_app (goodIn_of _ (by decide +kernel)) ggX6_setWind_X6_isFlow
theorem dX6_setWind_0 : decode cX6_setWind 0 = .ok (.iload_n 1, 1) := by decide +kernel
theorem dX6_setWind_1 : decode cX6_setWind 1 = .ok (.invokestatic 50, 3) := by decide +kernel
theorem dX6_setWind_4 : decode cX6_setWind 4 = .ok (.ifCond .eq 10, 3) := by decide +kernel
theorem dX6_setWind_7 : decode cX6_setWind 7 = .ok (.iload_n 2, 1) := by decide +kernel
theorem dX6_setWind_8 : decode cX6_setWind 8 = .ok (.invokestatic 50, 3) := by decide +kernel
theorem dX6_setWind_11 : decode cX6_setWind 11 = .ok (.ifCond .ne 13, 3) := by decide +kernel
theorem dX6_setWind_14 : decode cX6_setWind 14 = .ok (.new 41, 3) := by decide +kernel
theorem dX6_setWind_17 : decode cX6_setWind 17 = .ok (.dup, 1) := by decide +kernel
theorem dX6_setWind_18 : decode cX6_setWind 18 = .ok (.ldc 103, 2) := by decide +kernel
theorem dX6_setWind_20 : decode cX6_setWind 20 = .ok (.invokespecial 45, 3) := by decide +kernel
theorem dX6_setWind_23 : decode cX6_setWind 23 = .ok (.athrow, 1) := by decide +kernel
theorem dX6_setWind_24 : decode cX6_setWind 24 = .ok (.iconst 5, 1) := by decide +kernel
theorem dX6_setWind_25 : decode cX6_setWind 25 = .ok (.aload_n 0, 1) := by decide +kernel
theorem dX6_setWind_26 : decode cX6_setWind 26 = .ok (.getfield 12, 3) := by decide +kernel
theorem dX6_setWind_29 : decode cX6_setWind 29 = .ok (.getfield 105, 3) := by decide +kernel
theorem dX6_setWind_32 : decode cX6_setWind 32 = .ok (.iconst 2, 1) := by decide +kernel
theorem dX6_setWind_33 : decode cX6_setWind 33 = .ok (.iadd, 1) := by decide +kernel
theorem dX6_setWind_34 : decode cX6_setWind 34 = .ok (.imul, 1) := by decide +kernel
theorem dX6_setWind_35 : decode cX6_setWind 35 = .ok (.aload_n 0, 1) := by decide +kernel
theorem dX6_setWind_36 : decode cX6_setWind 36 = .ok (.getfield 12, 3) := by decide +kernel
theorem dX6_setWind_39 : decode cX6_setWind 39 = .ok (.getfield 108, 3) := by decide +kernel
theorem dX6_setWind_42 : decode cX6_setWind 42 = .ok (.iadd, 1) := by decide +kernel
theorem dX6_setWind_43 : decode cX6_setWind 43 = .ok (.iconst 2, 1) := by decide +kernel
theorem dX6_setWind_44 : decode cX6_setWind 44 = .ok (.iadd, 1) := by decide +kernel
theorem dX6_setWind_45 : decode cX6_setWind 45 = .ok (.istore_n 3, 1) := by decide +kernel
theorem dX6_setWind_46 : decode cX6_setWind 46 = .ok (.aload_n 0, 1) := by decide +kernel
theorem dX6_setWind_47 : decode cX6_setWind 47 = .ok (.getfield 12, 3) := by decide +kernel
theorem dX6_setWind_50 : decode cX6_setWind 50 = .ok (.iload_n 1, 1) := by decide +kernel
theorem dX6_setWind_51 : decode cX6_setWind 51 = .ok (.putfield 105, 3) := by decide +kernel
theorem dX6_setWind_54 : decode cX6_setWind 54 = .ok (.aload_n 0, 1) := by decide +kernel
theorem dX6_setWind_55 : decode cX6_setWind 55 = .ok (.getfield 12, 3) := by decide +kernel
theorem dX6_setWind_58 : decode cX6_setWind 58 = .ok (.iload_n 2, 1) := by decide +kernel
theorem dX6_setWind_59 : decode cX6_setWind 59 = .ok (.putfield 108, 3) := by decide +kernel
theorem dX6_setWind_62 : decode cX6_setWind 62 = .ok (.iload_n 3, 1) := by decide +kernel
theorem dX6_setWind_63 : decode cX6_setWind 63 = .ok (.ireturn, 1) := by decide +kernel
set_option maxRecDepth 20000 in
theorem ggX6_addBarrel_X6_isBelow : GoodIn wsX6_addBarrel wsX6_isBelow := goodIn_r _ [11] (by decide +kernel) (by decide +kernel)
set_option maxRecDepth 20000 in
theorem gX6_addBarrel_X6_isBelow : GoodIn wsX6_addBarrel (va_wsS RX6 72 yX6_isBelow wsX6_isBelow) := goodIn_app (goodIn_of _ (by decide +kernel)) ggX6_addBarrel_X6_isBelow
set_option maxRecDepth 20000 in
theorem ggX6_addBarrel_X0_liesAt : GoodIn wsX6_addBarrel wsX0_liesAt := goodIn_r _ [16, 17, 18, 19, 46, 47, 48, 49, 50, 51, 52, 53, 54, 55, 56, 57] (by decide +kernel) (by decide +kernel)
set_option maxRecDepth 20000 in
theorem gX6_addBarrel_X0_liesAt : GoodIn wsX6_addBarrel (wsV RX6 115 RX0 yX0_liesAt wsX0_liesAt) := goodIn_app (goodIn_of _ (by decide +kernel)) ggX6_addBarrel_X0_liesAt
set_option maxRecDepth 20000 in
theorem ggX6_addBarrel_X0_append : GoodIn wsX6_addBarrel wsX0_append := goodIn_r _ [23, 17, 24, 25, 18, 19, 26, 27, 28, 29, 30, 31, 15, 32, 33, 46, 47, 48, 49, 50, 51, 52, 53, 54, 55, 56, 57] (by decide +kernel) (by decide +kernel)
set_option maxRecDepth 20000 in
theorem gX6_addBarrel_X0_append : GoodIn wsX6_addBarrel (wsV RX6 121 RX0 yX0_append wsX0_append) := goodIn_app (goodIn_of _ (by decide +kernel)) ggX6_addBarrel_X0_append
theorem dX6_addBarrel_0 : decode cX6_addBarrel 0 = .ok (.iload_n 1, 1) := by decide +kernel
theorem dX6_addBarrel_1 : decode cX6_addBarrel 1 = .ok (.bipush 8, 2) := by decide +kernel
theorem dX6_addBarrel_3 : decode cX6_addBarrel 3 = .ok (.invokestatic 72, 3) := by decide +kernel
theorem dX6_addBarrel_6 : decode cX6_addBarrel 6 = .ok (.ifCond .eq 12, 3) := by decide +kernel
theorem dX6_addBarrel_9 : decode cX6_addBarrel 9 = .ok (.iload_n 2, 1) := by decide +kernel
theorem dX6_addBarrel_10 : decode cX6_addBarrel 10 = .ok (.bipush 8, 2) := by decide +kernel
theorem dX6_addBarrel_12 : decode cX6_addBarrel 12 = .ok (.invokestatic 72, 3) := by decide +kernel
theorem dX6_addBarrel_15 : decode cX6_addBarrel 15 = .ok (.ifCond .ne 13, 3) := by decide +kernel
theorem dX6_addBarrel_18 : decode cX6_addBarrel 18 = .ok (.new 41, 3) := by decide +kernel
theorem dX6_addBarrel_21 : decode cX6_addBarrel 21 = .ok (.dup, 1) := by decide +kernel
theorem dX6_addBarrel_22 : decode cX6_addBarrel 22 = .ok (.ldc 111, 2) := by decide +kernel
theorem dX6_addBarrel_24 : decode cX6_addBarrel 24 = .ok (.invokespecial 45, 3) := by decide +kernel
theorem dX6_addBarrel_27 : decode cX6_addBarrel 27 = .ok (.athrow, 1) := by decide +kernel
theorem dX6_addBarrel_28 : decode cX6_addBarrel 28 = .ok (.iload_n 3, 1) := by decide +kernel
theorem dX6_addBarrel_29 : decode cX6_addBarrel 29 = .ok (.iconst 1, 1) := by decide +kernel
theorem dX6_addBarrel_30 : decode cX6_addBarrel 30 = .ok (.if_icmp .lt 21, 3) := by decide +kernel
theorem dX6_addBarrel_33 : decode cX6_addBarrel 33 = .ok (.iload_n 3, 1) := by decide +kernel
theorem dX6_addBarrel_34 : decode cX6_addBarrel 34 = .ok (.bipush 40, 2) := by decide +kernel
theorem dX6_addBarrel_36 : decode cX6_addBarrel 36 = .ok (.if_icmp .gt 15, 3) := by decide +kernel
theorem dX6_addBarrel_39 : decode cX6_addBarrel 39 = .ok (.iload 4, 2) := by decide +kernel
theorem dX6_addBarrel_41 : decode cX6_addBarrel 41 = .ok (.ifCond .lt 10, 3) := by decide +kernel
theorem dX6_addBarrel_44 : decode cX6_addBarrel 44 = .ok (.iload 4, 2) := by decide +kernel
theorem dX6_addBarrel_46 : decode cX6_addBarrel 46 = .ok (.bipush 9, 2) := by decide +kernel
theorem dX6_addBarrel_48 : decode cX6_addBarrel 48 = .ok (.if_icmp .le 13, 3) := by decide +kernel
theorem dX6_addBarrel_51 : decode cX6_addBarrel 51 = .ok (.new 41, 3) := by decide +kernel
theorem dX6_addBarrel_54 : decode cX6_addBarrel 54 = .ok (.dup, 1) := by decide +kernel
theorem dX6_addBarrel_55 : decode cX6_addBarrel 55 = .ok (.ldc 113, 2) := by decide +kernel
theorem dX6_addBarrel_57 : decode cX6_addBarrel 57 = .ok (.invokespecial 45, 3) := by decide +kernel
theorem dX6_addBarrel_60 : decode cX6_addBarrel 60 = .ok (.athrow, 1) := by decide +kernel
theorem dX6_addBarrel_61 : decode cX6_addBarrel 61 = .ok (.aload_n 0, 1) := by decide +kernel
theorem dX6_addBarrel_62 : decode cX6_addBarrel 62 = .ok (.getfield 19, 3) := by decide +kernel
theorem dX6_addBarrel_65 : decode cX6_addBarrel 65 = .ok (.getfield 94, 3) := by decide +kernel
theorem dX6_addBarrel_68 : decode cX6_addBarrel 68 = .ok (.iload_n 1, 1) := by decide +kernel
theorem dX6_addBarrel_69 : decode cX6_addBarrel 69 = .ok (.iload_n 2, 1) := by decide +kernel
theorem dX6_addBarrel_70 : decode cX6_addBarrel 70 = .ok (.invokevirtual 115, 3) := by decide +kernel
theorem dX6_addBarrel_73 : decode cX6_addBarrel 73 = .ok (.ifCond .ne 18, 3) := by decide +kernel
theorem dX6_addBarrel_76 : decode cX6_addBarrel 76 = .ok (.aload_n 0, 1) := by decide +kernel
theorem dX6_addBarrel_77 : decode cX6_addBarrel 77 = .ok (.getfield 19, 3) := by decide +kernel
theorem dX6_addBarrel_80 : decode cX6_addBarrel 80 = .ok (.getfield 94, 3) := by decide +kernel
theorem dX6_addBarrel_83 : decode cX6_addBarrel 83 = .ok (.getfield 118, 3) := by decide +kernel
theorem dX6_addBarrel_86 : decode cX6_addBarrel 86 = .ok (.bipush 24, 2) := by decide +kernel
theorem dX6_addBarrel_88 : decode cX6_addBarrel 88 = .ok (.if_icmp .lt 13, 3) := by decide +kernel
theorem dX6_addBarrel_91 : decode cX6_addBarrel 91 = .ok (.new 59, 3) := by decide +kernel
theorem dX6_addBarrel_94 : decode cX6_addBarrel 94 = .ok (.dup, 1) := by decide +kernel
theorem dX6_addBarrel_95 : decode cX6_addBarrel 95 = .ok (.ldc 119, 2) := by decide +kernel
theorem dX6_addBarrel_97 : decode cX6_addBarrel 97 = .ok (.invokespecial 63, 3) := by decide +kernel
theorem dX6_addBarrel_100 : decode cX6_addBarrel 100 = .ok (.athrow, 1) := by decide +kernel
theorem dX6_addBarrel_101 : decode cX6_addBarrel 101 = .ok (.aload_n 0, 1) := by decide +kernel
theorem dX6_addBarrel_102 : decode cX6_addBarrel 102 = .ok (.getfield 19, 3) := by decide +kernel
theorem dX6_addBarrel_105 : decode cX6_addBarrel 105 = .ok (.getfield 94, 3) := by decide +kernel
theorem dX6_addBarrel_108 : decode cX6_addBarrel 108 = .ok (.iload_n 1, 1) := by decide +kernel
theorem dX6_addBarrel_109 : decode cX6_addBarrel 109 = .ok (.iload_n 2, 1) := by decide +kernel
theorem dX6_addBarrel_110 : decode cX6_addBarrel 110 = .ok (.iload_n 3, 1) := by decide +kernel
theorem dX6_addBarrel_111 : decode cX6_addBarrel 111 = .ok (.iload 4, 2) := by decide +kernel
theorem dX6_addBarrel_113 : decode cX6_addBarrel 113 = .ok (.invokevirtual 121, 3) := by decide +kernel
theorem dX6_addBarrel_116 : decode cX6_addBarrel 116 = .ok (.ireturn, 1) := by decide +kernel
set_option maxRecDepth 20000 in
theorem ggX6_tie_X0_has : GoodIn wsX6_tie wsX0_has := goodIn_r _ [22, 23, 106, 107, 108, 109, 110, 111, 112, 113, 114, 115, 116, 117] (by decide +kernel) (by decide +kernel)
set_option maxRecDepth 20000 in
theorem gX6_tie_X0_has : GoodIn wsX6_tie (wsV RX6 124 RX0 yX0_has wsX0_has) := goodIn_app (goodIn_of _ (by decide +kernel)) ggX6_tie_X0_has
set_option maxRecDepth 20000 in
theorem ggX6_tie_X0_canBeTied : GoodIn wsX6_tie wsX0_canBeTied := goodIn_r _ [27, 28, 29, 30, 13, 31, 32, 33, 34, 35, 36, 37, 21, 38, 39, 40, 19, 20, 22, 23, 106, 107, 108, 109, 110, 111, 112, 113, 114, 115, 116, 117] (by decide +kernel) (by decide +kernel)
set_option maxRecDepth 20000 in
theorem gX6_tie_X0_canBeTied : GoodIn wsX6_tie (wsV RX6 131 RX0 yX0_canBeTied wsX0_canBeTied) := goodIn_app (goodIn_of _ (by decide +kernel)) ggX6_tie_X0_canBeTied
set_option maxRecDepth 20000 in
theorem ggX6_tie_X2_make : GoodIn wsX6_tie wsX2_make := goodIn_r _ [45, 46, 47, 48, 49, 44, 50, 51, 12, 13, 14, 52, 16, 17, 53, 54, 55, 56, 57, 58, 59, 60, 61, 62, 63, 64, 65, 66, 67, 68, 69, 70, 71, 72, 118, 119, 120, 121, 122] (by decide +kernel) (by decide +kernel)
set_option maxRecDepth 20000 in
theorem gX6_tie_X2_make : GoodIn wsX6_tie (wsV RX6 148 RX2 yX2_make wsX2_make) := goodIn_app (goodIn_of _ (by decide +kernel)) ggX6_tie_X2_make
set_option maxRecDepth 20000 in
theorem ggX6_tie_X3_findPieces : GoodIn wsX6_tie wsX3_findPieces := goodIn_r _ [77, 78, 79, 80, 81, 82, 83, 84, 85, 21, 86, 23, 87, 39, 88, 89, 90, 91, 92, 12, 13, 14, 93, 16, 17, 99, 100, 101, 102, 103, 104, 105, 118, 119, 120, 121, 122, 106, 107, 108, 109, 110, 111, 112, 113, 114, 115, 116, 117] (by decide +kernel) (by decide +kernel)
set_option maxRecDepth 20000 in
theorem gX6_tie_X3_findPieces : GoodIn wsX6_tie (wsV RX6 154 RX3 yX3_findPieces wsX3_findPieces) := goodIn_app (goodIn_of _ (by decide +kernel)) ggX6_tie_X3_findPieces
theorem dX6_tie_0 : decode cX6_tie 0 = .ok (.aload_n 0, 1) := by decide +kernel
theorem dX6_tie_1 : decode cX6_tie 1 = .ok (.getfield 19, 3) := by decide +kernel
theorem dX6_tie_4 : decode cX6_tie 4 = .ok (.getfield 94, 3) := by decide +kernel
theorem dX6_tie_7 : decode cX6_tie 7 = .ok (.iload_n 1, 1) := by decide +kernel
theorem dX6_tie_8 : decode cX6_tie 8 = .ok (.invokevirtual 124, 3) := by decide +kernel
theorem dX6_tie_11 : decode cX6_tie 11 = .ok (.ifCond .eq 17, 3) := by decide +kernel
theorem dX6_tie_14 : decode cX6_tie 14 = .ok (.aload_n 0, 1) := by decide +kernel
theorem dX6_tie_15 : decode cX6_tie 15 = .ok (.getfield 19, 3) := by decide +kernel
theorem dX6_tie_18 : decode cX6_tie 18 = .ok (.getfield 94, 3) := by decide +kernel
theorem dX6_tie_21 : decode cX6_tie 21 = .ok (.iload_n 2, 1) := by decide +kernel
theorem dX6_tie_22 : decode cX6_tie 22 = .ok (.invokevirtual 124, 3) := by decide +kernel
theorem dX6_tie_25 : decode cX6_tie 25 = .ok (.ifCond .ne 13, 3) := by decide +kernel
theorem dX6_tie_28 : decode cX6_tie 28 = .ok (.new 75, 3) := by decide +kernel
theorem dX6_tie_31 : decode cX6_tie 31 = .ok (.dup, 1) := by decide +kernel
theorem dX6_tie_32 : decode cX6_tie 32 = .ok (.ldc 127, 2) := by decide +kernel
theorem dX6_tie_34 : decode cX6_tie 34 = .ok (.invokespecial 79, 3) := by decide +kernel
theorem dX6_tie_37 : decode cX6_tie 37 = .ok (.athrow, 1) := by decide +kernel
theorem dX6_tie_38 : decode cX6_tie 38 = .ok (.iload_n 1, 1) := by decide +kernel
theorem dX6_tie_39 : decode cX6_tie 39 = .ok (.iload_n 2, 1) := by decide +kernel
theorem dX6_tie_40 : decode cX6_tie 40 = .ok (.if_icmp .eq 14, 3) := by decide +kernel
theorem dX6_tie_43 : decode cX6_tie 43 = .ok (.iload_n 3, 1) := by decide +kernel
theorem dX6_tie_44 : decode cX6_tie 44 = .ok (.iconst 1, 1) := by decide +kernel
theorem dX6_tie_45 : decode cX6_tie 45 = .ok (.if_icmp .lt 9, 3) := by decide +kernel
theorem dX6_tie_48 : decode cX6_tie 48 = .ok (.iload_n 3, 1) := by decide +kernel
theorem dX6_tie_49 : decode cX6_tie 49 = .ok (.bipush 50, 2) := by decide +kernel
theorem dX6_tie_51 : decode cX6_tie 51 = .ok (.if_icmp .le 13, 3) := by decide +kernel
theorem dX6_tie_54 : decode cX6_tie 54 = .ok (.new 41, 3) := by decide +kernel
theorem dX6_tie_57 : decode cX6_tie 57 = .ok (.dup, 1) := by decide +kernel
theorem dX6_tie_58 : decode cX6_tie 58 = .ok (.ldc 129, 2) := by decide +kernel
theorem dX6_tie_60 : decode cX6_tie 60 = .ok (.invokespecial 45, 3) := by decide +kernel
theorem dX6_tie_63 : decode cX6_tie 63 = .ok (.athrow, 1) := by decide +kernel
theorem dX6_tie_64 : decode cX6_tie 64 = .ok (.aload_n 0, 1) := by decide +kernel
theorem dX6_tie_65 : decode cX6_tie 65 = .ok (.getfield 19, 3) := by decide +kernel
theorem dX6_tie_68 : decode cX6_tie 68 = .ok (.getfield 94, 3) := by decide +kernel
theorem dX6_tie_71 : decode cX6_tie 71 = .ok (.iload_n 1, 1) := by decide +kernel
theorem dX6_tie_72 : decode cX6_tie 72 = .ok (.iload_n 2, 1) := by decide +kernel
theorem dX6_tie_73 : decode cX6_tie 73 = .ok (.invokevirtual 131, 3) := by decide +kernel
theorem dX6_tie_76 : decode cX6_tie 76 = .ok (.ifCond .eq 10, 3) := by decide +kernel
theorem dX6_tie_79 : decode cX6_tie 79 = .ok (.aload_n 0, 1) := by decide +kernel
theorem dX6_tie_80 : decode cX6_tie 80 = .ok (.getfield 33, 3) := by decide +kernel
theorem dX6_tie_83 : decode cX6_tie 83 = .ok (.ifCond .gt 13, 3) := by decide +kernel
theorem dX6_tie_86 : decode cX6_tie 86 = .ok (.new 59, 3) := by decide +kernel
theorem dX6_tie_89 : decode cX6_tie 89 = .ok (.dup, 1) := by decide +kernel
theorem dX6_tie_90 : decode cX6_tie 90 = .ok (.ldc 134, 2) := by decide +kernel
theorem dX6_tie_92 : decode cX6_tie 92 = .ok (.invokespecial 63, 3) := by decide +kernel
theorem dX6_tie_95 : decode cX6_tie 95 = .ok (.athrow, 1) := by decide +kernel
theorem dX6_tie_96 : decode cX6_tie 96 = .ok (.aload_n 0, 1) := by decide +kernel
theorem dX6_tie_97 : decode cX6_tie 97 = .ok (.getfield 19, 3) := by decide +kernel
theorem dX6_tie_100 : decode cX6_tie 100 = .ok (.getfield 136, 3) := by decide +kernel
theorem dX6_tie_103 : decode cX6_tie 103 = .ok (.iload_n 1, 1) := by decide +kernel
theorem dX6_tie_104 : decode cX6_tie 104 = .ok (.iload_n 2, 1) := by decide +kernel
theorem dX6_tie_105 : decode cX6_tie 105 = .ok (.invokestatic 140, 3) := by decide +kernel
theorem dX6_tie_108 : decode cX6_tie 108 = .ok (.iload_n 1, 1) := by decide +kernel
theorem dX6_tie_109 : decode cX6_tie 109 = .ok (.iload_n 2, 1) := by decide +kernel
theorem dX6_tie_110 : decode cX6_tie 110 = .ok (.invokestatic 145, 3) := by decide +kernel
theorem dX6_tie_113 : decode cX6_tie 113 = .ok (.iload_n 3, 1) := by decide +kernel
theorem dX6_tie_114 : decode cX6_tie 114 = .ok (.invokevirtual 148, 3) := by decide +kernel
theorem dX6_tie_117 : decode cX6_tie 117 = .ok (.aload_n 0, 1) := by decide +kernel
theorem dX6_tie_118 : decode cX6_tie 118 = .ok (.getfield 19, 3) := by decide +kernel
theorem dX6_tie_121 : decode cX6_tie 121 = .ok (.invokevirtual 154, 3) := by decide +kernel
theorem dX6_tie_124 : decode cX6_tie 124 = .ok (.aload_n 0, 1) := by decide +kernel
theorem dX6_tie_125 : decode cX6_tie 125 = .ok (.dup, 1) := by decide +kernel
theorem dX6_tie_126 : decode cX6_tie 126 = .ok (.getfield 33, 3) := by decide +kernel
theorem dX6_tie_129 : decode cX6_tie 129 = .ok (.iconst 1, 1) := by decide +kernel
theorem dX6_tie_130 : decode cX6_tie 130 = .ok (.isub, 1) := by decide +kernel
theorem dX6_tie_131 : decode cX6_tie 131 = .ok (.putfield 33, 3) := by decide +kernel
theorem dX6_tie_134 : decode cX6_tie 134 = .ok (.aload_n 0, 1) := by decide +kernel
theorem dX6_tie_135 : decode cX6_tie 135 = .ok (.getfield 33, 3) := by decide +kernel
theorem dX6_tie_138 : decode cX6_tie 138 = .ok (.ireturn, 1) := by decide +kernel
set_option maxRecDepth 20000 in
theorem ggX6_cut_X0_has : GoodIn wsX6_cut wsX0_has := goodIn_r _ [17, 18, 79, 80, 81, 82, 83, 84, 85, 86, 87, 88, 89, 90] (by decide +kernel) (by decide +kernel)
set_option maxRecDepth 20000 in
theorem gX6_cut_X0_has : GoodIn wsX6_cut (wsV RX6 124 RX0 yX0_has wsX0_has) := goodIn_app (goodIn_of _ (by decide +kernel)) ggX6_cut_X0_has
set_option maxRecDepth 20000 in
theorem ggX6_cut_X2_find : GoodIn wsX6_cut wsX2_find := goodIn_r _ [23, 24, 10, 11, 12, 25, 26, 27, 28, 29, 30, 91, 92, 93, 94, 95] (by decide +kernel) (by decide +kernel)
set_option maxRecDepth 20000 in
theorem gX6_cut_X2_find : GoodIn wsX6_cut (wsV RX6 157 RX2 yX2_find wsX2_find) := goodIn_app (goodIn_of _ (by decide +kernel)) ggX6_cut_X2_find
set_option maxRecDepth 20000 in
theorem ggX6_cut_X2_undo : GoodIn wsX6_cut wsX2_undo := goodIn_r _ [34, 35, 91, 92, 93, 94, 95] (by decide +kernel) (by decide +kernel)
set_option maxRecDepth 20000 in
theorem gX6_cut_X2_undo : GoodIn wsX6_cut (wsV RX6 162 RX2 yX2_undo wsX2_undo) := goodIn_app (goodIn_of _ (by decide +kernel)) ggX6_cut_X2_undo
set_option maxRecDepth 20000 in
theorem ggX6_cut_X2_sweep : GoodIn wsX6_cut wsX2_sweep := goodIn_r _ [39, 28, 35, 40, 41, 42, 22, 43, 29, 30, 44, 91, 92, 93, 94, 95] (by decide +kernel) (by decide +kernel)
set_option maxRecDepth 20000 in
theorem gX6_cut_X2_sweep : GoodIn wsX6_cut (wsV RX6 166 RX2 yX2_sweep wsX2_sweep) := goodIn_app (goodIn_of _ (by decide +kernel)) ggX6_cut_X2_sweep
set_option maxRecDepth 20000 in
theorem ggX6_cut_X3_findPieces : GoodIn wsX6_cut wsX3_findPieces := goodIn_r _ [49, 50, 51, 52, 53, 54, 55, 56, 57, 16, 58, 18, 59, 60, 61, 62, 63, 64, 65, 10, 11, 12, 66, 26, 27, 72, 73, 74, 75, 76, 77, 78, 91, 92, 93, 94, 95, 79, 80, 81, 82, 83, 84, 85, 86, 87, 88, 89, 90] (by decide +kernel) (by decide +kernel)
set_option maxRecDepth 20000 in
theorem gX6_cut_X3_findPieces : GoodIn wsX6_cut (wsV RX6 154 RX3 yX3_findPieces wsX3_findPieces) := goodIn_app (goodIn_of _ (by decide +kernel)) ggX6_cut_X3_findPieces
theorem dX6_cut_0 : decode cX6_cut 0 = .ok (.aload_n 0, 1) := by decide +kernel
theorem dX6_cut_1 : decode cX6_cut 1 = .ok (.getfield 19, 3) := by decide +kernel
theorem dX6_cut_4 : decode cX6_cut 4 = .ok (.getfield 94, 3) := by decide +kernel
theorem dX6_cut_7 : decode cX6_cut 7 = .ok (.iload_n 1, 1) := by decide +kernel
theorem dX6_cut_8 : decode cX6_cut 8 = .ok (.invokevirtual 124, 3) := by decide +kernel
theorem dX6_cut_11 : decode cX6_cut 11 = .ok (.ifCond .eq 17, 3) := by decide +kernel
theorem dX6_cut_14 : decode cX6_cut 14 = .ok (.aload_n 0, 1) := by decide +kernel
theorem dX6_cut_15 : decode cX6_cut 15 = .ok (.getfield 19, 3) := by decide +kernel
theorem dX6_cut_18 : decode cX6_cut 18 = .ok (.getfield 94, 3) := by decide +kernel
theorem dX6_cut_21 : decode cX6_cut 21 = .ok (.iload_n 2, 1) := by decide +kernel
theorem dX6_cut_22 : decode cX6_cut 22 = .ok (.invokevirtual 124, 3) := by decide +kernel
theorem dX6_cut_25 : decode cX6_cut 25 = .ok (.ifCond .ne 13, 3) := by decide +kernel
theorem dX6_cut_28 : decode cX6_cut 28 = .ok (.new 75, 3) := by decide +kernel
theorem dX6_cut_31 : decode cX6_cut 31 = .ok (.dup, 1) := by decide +kernel
theorem dX6_cut_32 : decode cX6_cut 32 = .ok (.ldc 127, 2) := by decide +kernel
theorem dX6_cut_34 : decode cX6_cut 34 = .ok (.invokespecial 79, 3) := by decide +kernel
theorem dX6_cut_37 : decode cX6_cut 37 = .ok (.athrow, 1) := by decide +kernel
theorem dX6_cut_38 : decode cX6_cut 38 = .ok (.aload_n 0, 1) := by decide +kernel
theorem dX6_cut_39 : decode cX6_cut 39 = .ok (.getfield 19, 3) := by decide +kernel
theorem dX6_cut_42 : decode cX6_cut 42 = .ok (.getfield 136, 3) := by decide +kernel
theorem dX6_cut_45 : decode cX6_cut 45 = .ok (.iload_n 1, 1) := by decide +kernel
theorem dX6_cut_46 : decode cX6_cut 46 = .ok (.iload_n 2, 1) := by decide +kernel
theorem dX6_cut_47 : decode cX6_cut 47 = .ok (.invokevirtual 157, 3) := by decide +kernel
theorem dX6_cut_50 : decode cX6_cut 50 = .ok (.istore_n 3, 1) := by decide +kernel
theorem dX6_cut_51 : decode cX6_cut 51 = .ok (.iload_n 3, 1) := by decide +kernel
theorem dX6_cut_52 : decode cX6_cut 52 = .ok (.ifCond .ge 13, 3) := by decide +kernel
theorem dX6_cut_55 : decode cX6_cut 55 = .ok (.new 59, 3) := by decide +kernel
theorem dX6_cut_58 : decode cX6_cut 58 = .ok (.dup, 1) := by decide +kernel
theorem dX6_cut_59 : decode cX6_cut 59 = .ok (.ldc 160, 2) := by decide +kernel
theorem dX6_cut_61 : decode cX6_cut 61 = .ok (.invokespecial 63, 3) := by decide +kernel
theorem dX6_cut_64 : decode cX6_cut 64 = .ok (.athrow, 1) := by decide +kernel
theorem dX6_cut_65 : decode cX6_cut 65 = .ok (.aload_n 0, 1) := by decide +kernel
theorem dX6_cut_66 : decode cX6_cut 66 = .ok (.getfield 19, 3) := by decide +kernel
theorem dX6_cut_69 : decode cX6_cut 69 = .ok (.getfield 136, 3) := by decide +kernel
theorem dX6_cut_72 : decode cX6_cut 72 = .ok (.iload_n 3, 1) := by decide +kernel
theorem dX6_cut_73 : decode cX6_cut 73 = .ok (.invokevirtual 162, 3) := by decide +kernel
theorem dX6_cut_76 : decode cX6_cut 76 = .ok (.aload_n 0, 1) := by decide +kernel
theorem dX6_cut_77 : decode cX6_cut 77 = .ok (.getfield 19, 3) := by decide +kernel
theorem dX6_cut_80 : decode cX6_cut 80 = .ok (.getfield 136, 3) := by decide +kernel
theorem dX6_cut_83 : decode cX6_cut 83 = .ok (.invokevirtual 166, 3) := by decide +kernel
theorem dX6_cut_86 : decode cX6_cut 86 = .ok (.aload_n 0, 1) := by decide +kernel
theorem dX6_cut_87 : decode cX6_cut 87 = .ok (.getfield 19, 3) := by decide +kernel
theorem dX6_cut_90 : decode cX6_cut 90 = .ok (.invokevirtual 154, 3) := by decide +kernel
theorem dX6_cut_93 : decode cX6_cut 93 = .ok (.aload_n 0, 1) := by decide +kernel
theorem dX6_cut_94 : decode cX6_cut 94 = .ok (.bipush 40, 2) := by decide +kernel
theorem dX6_cut_96 : decode cX6_cut 96 = .ok (.aload_n 0, 1) := by decide +kernel
theorem dX6_cut_97 : decode cX6_cut 97 = .ok (.getfield 33, 3) := by decide +kernel
theorem dX6_cut_100 : decode cX6_cut 100 = .ok (.iconst 1, 1) := by decide +kernel
theorem dX6_cut_101 : decode cX6_cut 101 = .ok (.iadd, 1) := by decide +kernel
theorem dX6_cut_102 : decode cX6_cut 102 = .ok (.invokestatic 140, 3) := by decide +kernel
theorem dX6_cut_105 : decode cX6_cut 105 = .ok (.putfield 33, 3) := by decide +kernel
theorem dX6_cut_108 : decode cX6_cut 108 = .ok (.aload_n 0, 1) := by decide +kernel
theorem dX6_cut_109 : decode cX6_cut 109 = .ok (.getfield 33, 3) := by decide +kernel
theorem dX6_cut_112 : decode cX6_cut 112 = .ok (.ireturn, 1) := by decide +kernel
set_option maxRecDepth 20000 in
theorem ggX6_load_X0_has : GoodIn wsX6_load wsX0_has := goodIn_r _ [14, 15, 34, 35, 36, 37, 38, 39, 40, 41, 42, 43, 44, 45] (by decide +kernel) (by decide +kernel)
set_option maxRecDepth 20000 in
theorem gX6_load_X0_has : GoodIn wsX6_load (wsV RX6 124 RX0 yX0_has wsX0_has) := goodIn_app (goodIn_of _ (by decide +kernel)) ggX6_load_X0_has
set_option maxRecDepth 20000 in
theorem ggX6_load_X0_floats : GoodIn wsX6_load wsX0_floats := goodIn_r _ [19, 20, 21, 11, 12, 13, 14, 15, 34, 35, 36, 37, 38, 39, 40, 41, 42, 43, 44, 45] (by decide +kernel) (by decide +kernel)
set_option maxRecDepth 20000 in
theorem gX6_load_X0_floats : GoodIn wsX6_load (wsV RX6 171 RX0 yX0_floats wsX0_floats) := goodIn_app (goodIn_of _ (by decide +kernel)) ggX6_load_X0_floats
theorem dX6_load_0 : decode cX6_load 0 = .ok (.aload_n 0, 1) := by decide +kernel
theorem dX6_load_1 : decode cX6_load 1 = .ok (.getfield 19, 3) := by decide +kernel
theorem dX6_load_4 : decode cX6_load 4 = .ok (.getfield 94, 3) := by decide +kernel
theorem dX6_load_7 : decode cX6_load 7 = .ok (.iload_n 1, 1) := by decide +kernel
theorem dX6_load_8 : decode cX6_load 8 = .ok (.invokevirtual 124, 3) := by decide +kernel
theorem dX6_load_11 : decode cX6_load 11 = .ok (.ifCond .ne 13, 3) := by decide +kernel
theorem dX6_load_14 : decode cX6_load 14 = .ok (.new 75, 3) := by decide +kernel
theorem dX6_load_17 : decode cX6_load 17 = .ok (.dup, 1) := by decide +kernel
theorem dX6_load_18 : decode cX6_load 18 = .ok (.ldc 127, 2) := by decide +kernel
theorem dX6_load_20 : decode cX6_load 20 = .ok (.invokespecial 79, 3) := by decide +kernel
theorem dX6_load_23 : decode cX6_load 23 = .ok (.athrow, 1) := by decide +kernel
theorem dX6_load_24 : decode cX6_load 24 = .ok (.iload_n 2, 1) := by decide +kernel
theorem dX6_load_25 : decode cX6_load 25 = .ok (.ifCond .lt 9, 3) := by decide +kernel
theorem dX6_load_28 : decode cX6_load 28 = .ok (.iload_n 2, 1) := by decide +kernel
theorem dX6_load_29 : decode cX6_load 29 = .ok (.bipush 30, 2) := by decide +kernel
theorem dX6_load_31 : decode cX6_load 31 = .ok (.if_icmp .le 13, 3) := by decide +kernel
theorem dX6_load_34 : decode cX6_load 34 = .ok (.new 41, 3) := by decide +kernel
theorem dX6_load_37 : decode cX6_load 37 = .ok (.dup, 1) := by decide +kernel
theorem dX6_load_38 : decode cX6_load 38 = .ok (.ldc 169, 2) := by decide +kernel
theorem dX6_load_40 : decode cX6_load 40 = .ok (.invokespecial 45, 3) := by decide +kernel
theorem dX6_load_43 : decode cX6_load 43 = .ok (.athrow, 1) := by decide +kernel
theorem dX6_load_44 : decode cX6_load 44 = .ok (.aload_n 0, 1) := by decide +kernel
theorem dX6_load_45 : decode cX6_load 45 = .ok (.getfield 19, 3) := by decide +kernel
theorem dX6_load_48 : decode cX6_load 48 = .ok (.getfield 94, 3) := by decide +kernel
theorem dX6_load_51 : decode cX6_load 51 = .ok (.iload_n 1, 1) := by decide +kernel
theorem dX6_load_52 : decode cX6_load 52 = .ok (.invokevirtual 171, 3) := by decide +kernel
theorem dX6_load_55 : decode cX6_load 55 = .ok (.ifCond .ne 13, 3) := by decide +kernel
theorem dX6_load_58 : decode cX6_load 58 = .ok (.new 59, 3) := by decide +kernel
theorem dX6_load_61 : decode cX6_load 61 = .ok (.dup, 1) := by decide +kernel
theorem dX6_load_62 : decode cX6_load 62 = .ok (.ldc 174, 2) := by decide +kernel
theorem dX6_load_64 : decode cX6_load 64 = .ok (.invokespecial 63, 3) := by decide +kernel
theorem dX6_load_67 : decode cX6_load 67 = .ok (.athrow, 1) := by decide +kernel
theorem dX6_load_68 : decode cX6_load 68 = .ok (.aload_n 0, 1) := by decide +kernel
theorem dX6_load_69 : decode cX6_load 69 = .ok (.getfield 19, 3) := by decide +kernel
