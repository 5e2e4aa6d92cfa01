theorem dX7_barrelTold_114 : decode cX7_barrelTold 114 = .ok (.iload_n 1, 1) := by decide +kernel
theorem dX7_barrelTold_115 : decode cX7_barrelTold 115 = .ok (.iload_n 2, 1) := by decide +kernel
theorem dX7_barrelTold_116 : decode cX7_barrelTold 116 = .ok (.iconst 5, 1) := by decide +kernel
theorem dX7_barrelTold_117 : decode cX7_barrelTold 117 = .ok (.isub, 1) := by decide +kernel
theorem dX7_barrelTold_118 : decode cX7_barrelTold 118 = .ok (.invokevirtual 58, 3) := by decide +kernel
theorem dX7_barrelTold_121 : decode cX7_barrelTold 121 = .ok (.ireturn, 1) := by decide +kernel
theorem dX7_barrelTold_122 : decode cX7_barrelTold 122 = .ok (.aload_n 0, 1) := by decide +kernel
theorem dX7_barrelTold_123 : decode cX7_barrelTold 123 = .ok (.iload_n 1, 1) := by decide +kernel
theorem dX7_barrelTold_124 : decode cX7_barrelTold 124 = .ok (.invokevirtual 136, 3) := by decide +kernel
theorem dX7_barrelTold_127 : decode cX7_barrelTold 127 = .ok (.ireturn, 1) := by decide +kernel
theorem dX7_barrelTold_128 : decode cX7_barrelTold 128 = .ok (.aload_n 0, 1) := by decide +kernel
theorem dX7_barrelTold_129 : decode cX7_barrelTold 129 = .ok (.iload_n 1, 1) := by decide +kernel
theorem dX7_barrelTold_130 : decode cX7_barrelTold 130 = .ok (.invokevirtual 139, 3) := by decide +kernel
theorem dX7_barrelTold_133 : decode cX7_barrelTold 133 = .ok (.ireturn, 1) := by decide +kernel
theorem dX7_barrelTold_134 : decode cX7_barrelTold 134 = .ok (.aload_n 0, 1) := by decide +kernel
theorem dX7_barrelTold_135 : decode cX7_barrelTold 135 = .ok (.iload_n 1, 1) := by decide +kernel
theorem dX7_barrelTold_136 : decode cX7_barrelTold 136 = .ok (.invokevirtual 142, 3) := by decide +kernel
theorem dX7_barrelTold_139 : decode cX7_barrelTold 139 = .ok (.ireturn, 1) := by decide +kernel
set_option maxRecDepth 20000 in
theorem ggX7_barrel_X7_isBarrel : GoodIn wsX7_barrel wsX7_isBarrel := goodIn_r _ [6, 7, 8, 9, 5, 10, 71, 72, 73, 74, 75, 76, 77, 78, 79, 80, 81, 82, 83, 84, 85, 86, 87, 88] (by decide +kernel) (by decide +kernel)
set_option maxRecDepth 20000 in
theorem gX7_barrel_X7_isBarrel : GoodIn wsX7_barrel (wsV RX7 109 RX7 yX7_isBarrel wsX7_isBarrel) := goodIn_app (goodIn_of _ (by decide +kernel)) ggX7_barrel_X7_isBarrel
set_option maxRecDepth 20000 in
theorem ggX7_barrel_X7_isIn : GoodIn wsX7_barrel wsX7_isIn := goodIn_r _ [10] (by decide +kernel) (by decide +kernel)
set_option maxRecDepth 20000 in
theorem gX7_barrel_X7_isIn : GoodIn wsX7_barrel (va_wsS RX7 54 yX7_isIn wsX7_isIn) := goodIn_app (goodIn_of _ (by decide +kernel)) ggX7_barrel_X7_isIn
set_option maxRecDepth 20000 in
theorem ggX7_barrel_X7_barrelTold : GoodIn wsX7_barrel wsX7_barrelTold := goodIn_r _ [14, 15, 16, 17, 18, 5, 19, 20, 21, 22, 23, 24, 25, 26, 27, 28, 29, 7, 30, 31, 32, 33, 34, 35, 36, 37, 38, 39, 40, 41, 42, 43, 44, 45, 46, 47, 48, 49, 50, 51, 52, 53, 54, 55, 56, 57, 58, 59, 60, 61, 62, 63, 64, 65, 66, 71, 72, 73, 74, 75, 76, 77, 78, 79, 80, 81, 82, 83, 84, 85, 86, 87, 88] (by decide +kernel) (by decide +kernel)
set_option maxRecDepth 20000 in
theorem gX7_barrel_X7_barrelTold : GoodIn wsX7_barrel (wsV RX7 145 RX7 yX7_barrelTold wsX7_barrelTold) := goodIn_app (goodIn_of _ (by decide +kernel)) ggX7_barrel_X7_barrelTold
set_option maxRecDepth 20000 in
theorem ggX7_barrel_X7_fail : GoodIn wsX7_barrel wsX7_fail := goodIn_r _ [70, 1, 71, 72, 73, 74, 75, 76, 77, 78, 79, 80, 81, 82, 83, 84, 85, 86, 87, 88] (by decide +kernel) (by decide +kernel)
set_option maxRecDepth 20000 in
theorem gX7_barrel_X7_fail : GoodIn wsX7_barrel (wsV RX7 73 RX7 yX7_fail wsX7_fail) := goodIn_app (goodIn_of _ (by decide +kernel)) ggX7_barrel_X7_fail
theorem dX7_barrel_0 : decode cX7_barrel 0 = .ok (.aload_n 0, 1) := by decide +kernel
theorem dX7_barrel_1 : decode cX7_barrel 1 = .ok (.iconst 0, 1) := by decide +kernel
theorem dX7_barrel_2 : decode cX7_barrel 2 = .ok (.putfield 47, 3) := by decide +kernel
theorem dX7_barrel_5 : decode cX7_barrel 5 = .ok (.aload_n 0, 1) := by decide +kernel
theorem dX7_barrel_6 : decode cX7_barrel 6 = .ok (.iload_n 1, 1) := by decide +kernel
theorem dX7_barrel_7 : decode cX7_barrel 7 = .ok (.invokevirtual 109, 3) := by decide +kernel
theorem dX7_barrel_10 : decode cX7_barrel 10 = .ok (.ifCond .eq 22, 3) := by decide +kernel
theorem dX7_barrel_13 : decode cX7_barrel 13 = .ok (.iload_n 2, 1) := by decide +kernel
theorem dX7_barrel_14 : decode cX7_barrel 14 = .ok (.iconst 0, 1) := by decide +kernel
theorem dX7_barrel_15 : decode cX7_barrel 15 = .ok (.bipush 12, 2) := by decide +kernel
theorem dX7_barrel_17 : decode cX7_barrel 17 = .ok (.invokestatic 54, 3) := by decide +kernel
theorem dX7_barrel_20 : decode cX7_barrel 20 = .ok (.ifCond .eq 12, 3) := by decide +kernel
theorem dX7_barrel_23 : decode cX7_barrel 23 = .ok (.aload_n 0, 1) := by decide +kernel
theorem dX7_barrel_24 : decode cX7_barrel 24 = .ok (.iload_n 1, 1) := by decide +kernel
theorem dX7_barrel_25 : decode cX7_barrel 25 = .ok (.iload_n 2, 1) := by decide +kernel
theorem dX7_barrel_26 : decode cX7_barrel 26 = .ok (.invokevirtual 145, 3) := by decide +kernel
theorem dX7_barrel_29 : decode cX7_barrel 29 = .ok (.goto 8, 3) := by decide +kernel
theorem dX7_barrel_32 : decode cX7_barrel 32 = .ok (.aload_n 0, 1) := by decide +kernel
theorem dX7_barrel_33 : decode cX7_barrel 33 = .ok (.iconst 1, 1) := by decide +kernel
theorem dX7_barrel_34 : decode cX7_barrel 34 = .ok (.invokevirtual 73, 3) := by decide +kernel
theorem dX7_barrel_37 : decode cX7_barrel 37 = .ok (.ireturn, 1) := by decide +kernel
set_option maxRecDepth 20000 in
theorem ggX7_stress_X7_ba : GoodIn wsX7_stress wsX7_ba := goodIn_r _ [9, 10, 34, 35, 36, 37, 38, 39, 40, 41, 42, 43, 44, 45, 46, 47, 48, 49, 50, 51] (by decide +kernel) (by decide +kernel)
set_option maxRecDepth 20000 in
theorem gX7_stress_X7_ba : GoodIn wsX7_stress (wsV RX7 58 RX7 yX7_ba wsX7_ba) := goodIn_app (goodIn_of _ (by decide +kernel)) ggX7_stress_X7_ba
set_option maxRecDepth 20000 in
theorem ggX7_stress_X7_seaTold : GoodIn wsX7_stress wsX7_seaTold := goodIn_r _ [14, 15, 16, 17, 18, 8, 19, 20, 21, 22, 23, 34, 35, 36, 37, 38, 39, 40, 41, 42, 43, 44, 45, 46, 47, 48, 49, 50, 51] (by decide +kernel) (by decide +kernel)
set_option maxRecDepth 20000 in
theorem gX7_stress_X7_seaTold : GoodIn wsX7_stress (wsV RX7 89 RX7 yX7_seaTold wsX7_seaTold) := goodIn_app (goodIn_of _ (by decide +kernel)) ggX7_stress_X7_seaTold
set_option maxRecDepth 20000 in
theorem ggX7_stress_X7_loadOf : GoodIn wsX7_stress wsX7_loadOf := goodIn_r _ [27, 5, 6, 7, 8, 9, 10, 28, 29, 30, 31, 32, 33, 34, 35, 36, 37, 38, 39, 40, 41, 42, 43, 44, 45, 46, 47, 48, 49, 50, 51] (by decide +kernel) (by decide +kernel)
set_option maxRecDepth 20000 in
theorem gX7_stress_X7_loadOf : GoodIn wsX7_stress (wsV RX7 142 RX7 yX7_loadOf wsX7_loadOf) := goodIn_app (goodIn_of _ (by decide +kernel)) ggX7_stress_X7_loadOf
theorem dX7_stress_0 : decode cX7_stress 0 = .ok (.aload_n 0, 1) := by decide +kernel
theorem dX7_stress_1 : decode cX7_stress 1 = .ok (.aload_n 0, 1) := by decide +kernel
theorem dX7_stress_2 : decode cX7_stress 2 = .ok (.iload_n 1, 1) := by decide +kernel
theorem dX7_stress_3 : decode cX7_stress 3 = .ok (.iconst 3, 1) := by decide +kernel
theorem dX7_stress_4 : decode cX7_stress 4 = .ok (.invokevirtual 58, 3) := by decide +kernel
theorem dX7_stress_7 : decode cX7_stress 7 = .ok (.aload_n 0, 1) := by decide +kernel
theorem dX7_stress_8 : decode cX7_stress 8 = .ok (.iload_n 1, 1) := by decide +kernel
theorem dX7_stress_9 : decode cX7_stress 9 = .ok (.iconst 4, 1) := by decide +kernel
theorem dX7_stress_10 : decode cX7_stress 10 = .ok (.invokevirtual 58, 3) := by decide +kernel
theorem dX7_stress_13 : decode cX7_stress 13 = .ok (.iconst 2, 1) := by decide +kernel
theorem dX7_stress_14 : decode cX7_stress 14 = .ok (.invokevirtual 89, 3) := by decide +kernel
theorem dX7_stress_17 : decode cX7_stress 17 = .ok (.aload_n 0, 1) := by decide +kernel
theorem dX7_stress_18 : decode cX7_stress 18 = .ok (.iload_n 1, 1) := by decide +kernel
theorem dX7_stress_19 : decode cX7_stress 19 = .ok (.invokevirtual 142, 3) := by decide +kernel
theorem dX7_stress_22 : decode cX7_stress 22 = .ok (.aload_n 0, 1) := by decide +kernel
theorem dX7_stress_23 : decode cX7_stress 23 = .ok (.iload_n 2, 1) := by decide +kernel
theorem dX7_stress_24 : decode cX7_stress 24 = .ok (.invokevirtual 142, 3) := by decide +kernel
theorem dX7_stress_27 : decode cX7_stress 27 = .ok (.isub, 1) := by decide +kernel
theorem dX7_stress_28 : decode cX7_stress 28 = .ok (.invokestatic 106, 3) := by decide +kernel
theorem dX7_stress_31 : decode cX7_stress 31 = .ok (.iconst 2, 1) := by decide +kernel
theorem dX7_stress_32 : decode cX7_stress 32 = .ok (.idiv, 1) := by decide +kernel
theorem dX7_stress_33 : decode cX7_stress 33 = .ok (.iadd, 1) := by decide +kernel
theorem dX7_stress_34 : decode cX7_stress 34 = .ok (.ireturn, 1) := by decide +kernel
set_option maxRecDepth 20000 in
theorem ggX7_lashing_X7_isBarrel : GoodIn wsX7_lashing wsX7_isBarrel := goodIn_r _ [8, 9, 10, 11, 7, 12, 63, 64, 65, 66, 67, 68, 69, 70, 71, 72, 73, 74, 75, 76, 77, 78, 79, 80] (by decide +kernel) (by decide +kernel)
set_option maxRecDepth 20000 in
theorem gX7_lashing_X7_isBarrel : GoodIn wsX7_lashing (wsV RX7 109 RX7 yX7_isBarrel wsX7_isBarrel) := goodIn_app (goodIn_of _ (by decide +kernel)) ggX7_lashing_X7_isBarrel
set_option maxRecDepth 20000 in
theorem ggX7_lashing_X7_isIn : GoodIn wsX7_lashing wsX7_isIn := goodIn_r _ [12] (by decide +kernel) (by decide +kernel)
set_option maxRecDepth 20000 in
theorem gX7_lashing_X7_isIn : GoodIn wsX7_lashing (va_wsS RX7 54 yX7_isIn wsX7_isIn) := goodIn_app (goodIn_of _ (by decide +kernel)) ggX7_lashing_X7_isIn
set_option maxRecDepth 20000 in
theorem ggX7_lashing_X7_fail : GoodIn wsX7_lashing wsX7_fail := goodIn_r _ [16, 1, 63, 64, 65, 66, 67, 68, 69, 70, 71, 72, 73, 74, 75, 76, 77, 78, 79, 80] (by decide +kernel) (by decide +kernel)
set_option maxRecDepth 20000 in
theorem gX7_lashing_X7_fail : GoodIn wsX7_lashing (wsV RX7 73 RX7 yX7_fail wsX7_fail) := goodIn_app (goodIn_of _ (by decide +kernel)) ggX7_lashing_X7_fail
set_option maxRecDepth 20000 in
theorem ggX7_lashing_X7_isTied : GoodIn wsX7_lashing wsX7_isTied := goodIn_r _ [20, 2, 21, 22, 7, 23, 24, 25, 26, 27, 28, 29, 30, 63, 64, 65, 66, 67, 68, 69, 70, 71, 72, 73, 74, 75, 76, 77, 78, 79, 80] (by decide +kernel) (by decide +kernel)
set_option maxRecDepth 20000 in
theorem gX7_lashing_X7_isTied : GoodIn wsX7_lashing (wsV RX7 116 RX7 yX7_isTied wsX7_isTied) := goodIn_app (goodIn_of _ (by decide +kernel)) ggX7_lashing_X7_isTied
set_option maxRecDepth 20000 in
theorem ggX7_lashing_X7_pair : GoodIn wsX7_lashing wsX7_pair := goodIn_r _ [23, 24, 25, 26, 27, 28, 29, 30] (by decide +kernel) (by decide +kernel)
set_option maxRecDepth 20000 in
theorem gX7_lashing_X7_pair : GoodIn wsX7_lashing (va_wsS RX7 70 yX7_pair wsX7_pair) := goodIn_app (goodIn_of _ (by decide +kernel)) ggX7_lashing_X7_pair
set_option maxRecDepth 20000 in
theorem ggX7_lashing_X7_stress : GoodIn wsX7_lashing wsX7_stress := goodIn_r _ [34, 35, 36, 26, 37, 38, 39, 40, 7, 41, 42, 43, 44, 45, 46, 47, 48, 49, 50, 51, 52, 10, 11, 12, 53, 54, 55, 56, 57, 58, 59, 60, 61, 62, 63, 64, 65, 66, 67, 68, 69, 70, 71, 72, 73, 74, 75, 76, 77, 78, 79, 80] (by decide +kernel) (by decide +kernel)
set_option maxRecDepth 20000 in
theorem gX7_lashing_X7_stress : GoodIn wsX7_lashing (wsV RX7 148 RX7 yX7_stress wsX7_stress) := goodIn_app (goodIn_of _ (by decide +kernel)) ggX7_lashing_X7_stress
theorem dX7_lashing_0 : decode cX7_lashing 0 = .ok (.aload_n 0, 1) := by decide +kernel
theorem dX7_lashing_1 : decode cX7_lashing 1 = .ok (.iconst 0, 1) := by decide +kernel
theorem dX7_lashing_2 : decode cX7_lashing 2 = .ok (.putfield 47, 3) := by decide +kernel
theorem dX7_lashing_5 : decode cX7_lashing 5 = .ok (.aload_n 0, 1) := by decide +kernel
theorem dX7_lashing_6 : decode cX7_lashing 6 = .ok (.iload_n 1, 1) := by decide +kernel
theorem dX7_lashing_7 : decode cX7_lashing 7 = .ok (.invokevirtual 109, 3) := by decide +kernel
theorem dX7_lashing_10 : decode cX7_lashing 10 = .ok (.ifCond .eq 20, 3) := by decide +kernel
theorem dX7_lashing_13 : decode cX7_lashing 13 = .ok (.aload_n 0, 1) := by decide +kernel
theorem dX7_lashing_14 : decode cX7_lashing 14 = .ok (.iload_n 2, 1) := by decide +kernel
theorem dX7_lashing_15 : decode cX7_lashing 15 = .ok (.invokevirtual 109, 3) := by decide +kernel
theorem dX7_lashing_18 : decode cX7_lashing 18 = .ok (.ifCond .eq 12, 3) := by decide +kernel
theorem dX7_lashing_21 : decode cX7_lashing 21 = .ok (.iload_n 3, 1) := by decide +kernel
theorem dX7_lashing_22 : decode cX7_lashing 22 = .ok (.iconst 0, 1) := by decide +kernel
theorem dX7_lashing_23 : decode cX7_lashing 23 = .ok (.iconst 2, 1) := by decide +kernel
theorem dX7_lashing_24 : decode cX7_lashing 24 = .ok (.invokestatic 54, 3) := by decide +kernel
theorem dX7_lashing_27 : decode cX7_lashing 27 = .ok (.ifCond .ne 9, 3) := by decide +kernel
theorem dX7_lashing_30 : decode cX7_lashing 30 = .ok (.aload_n 0, 1) := by decide +kernel
theorem dX7_lashing_31 : decode cX7_lashing 31 = .ok (.iconst 1, 1) := by decide +kernel
theorem dX7_lashing_32 : decode cX7_lashing 32 = .ok (.invokevirtual 73, 3) := by decide +kernel
theorem dX7_lashing_35 : decode cX7_lashing 35 = .ok (.ireturn, 1) := by decide +kernel
theorem dX7_lashing_36 : decode cX7_lashing 36 = .ok (.aload_n 0, 1) := by decide +kernel
theorem dX7_lashing_37 : decode cX7_lashing 37 = .ok (.iload_n 1, 1) := by decide +kernel
theorem dX7_lashing_38 : decode cX7_lashing 38 = .ok (.iload_n 2, 1) := by decide +kernel
theorem dX7_lashing_39 : decode cX7_lashing 39 = .ok (.invokevirtual 116, 3) := by decide +kernel
theorem dX7_lashing_42 : decode cX7_lashing 42 = .ok (.ifCond .ne 5, 3) := by decide +kernel
theorem dX7_lashing_45 : decode cX7_lashing 45 = .ok (.iconst 0, 1) := by decide +kernel
theorem dX7_lashing_46 : decode cX7_lashing 46 = .ok (.ireturn, 1) := by decide +kernel
theorem dX7_lashing_47 : decode cX7_lashing 47 = .ok (.iload_n 3, 1) := by decide +kernel
theorem dX7_lashing_48 : decode cX7_lashing 48 = .ok (.ifCond .ne 16, 3) := by decide +kernel
theorem dX7_lashing_51 : decode cX7_lashing 51 = .ok (.aload_n 0, 1) := by decide +kernel
theorem dX7_lashing_52 : decode cX7_lashing 52 = .ok (.getfield 19, 3) := by decide +kernel
theorem dX7_lashing_55 : decode cX7_lashing 55 = .ok (.iload_n 1, 1) := by decide +kernel
theorem dX7_lashing_56 : decode cX7_lashing 56 = .ok (.iload_n 2, 1) := by decide +kernel
theorem dX7_lashing_57 : decode cX7_lashing 57 = .ok (.invokestatic 70, 3) := by decide +kernel
theorem dX7_lashing_60 : decode cX7_lashing 60 = .ok (.iaload, 1) := by decide +kernel
theorem dX7_lashing_61 : decode cX7_lashing 61 = .ok (.goto 27, 3) := by decide +kernel
theorem dX7_lashing_64 : decode cX7_lashing 64 = .ok (.iload_n 3, 1) := by decide +kernel
theorem dX7_lashing_65 : decode cX7_lashing 65 = .ok (.iconst 1, 1) := by decide +kernel
theorem dX7_lashing_66 : decode cX7_lashing 66 = .ok (.if_icmp .ne 16, 3) := by decide +kernel
theorem dX7_lashing_69 : decode cX7_lashing 69 = .ok (.aload_n 0, 1) := by decide +kernel
theorem dX7_lashing_70 : decode cX7_lashing 70 = .ok (.getfield 22, 3) := by decide +kernel
theorem dX7_lashing_73 : decode cX7_lashing 73 = .ok (.iload_n 1, 1) := by decide +kernel
theorem dX7_lashing_74 : decode cX7_lashing 74 = .ok (.iload_n 2, 1) := by decide +kernel
theorem dX7_lashing_75 : decode cX7_lashing 75 = .ok (.invokestatic 70, 3) := by decide +kernel
theorem dX7_lashing_78 : decode cX7_lashing 78 = .ok (.iaload, 1) := by decide +kernel
theorem dX7_lashing_79 : decode cX7_lashing 79 = .ok (.goto 9, 3) := by decide +kernel
theorem dX7_lashing_82 : decode cX7_lashing 82 = .ok (.aload_n 0, 1) := by decide +kernel
theorem dX7_lashing_83 : decode cX7_lashing 83 = .ok (.iload_n 1, 1) := by decide +kernel
theorem dX7_lashing_84 : decode cX7_lashing 84 = .ok (.iload_n 2, 1) := by decide +kernel
theorem dX7_lashing_85 : decode cX7_lashing 85 = .ok (.invokevirtual 148, 3) := by decide +kernel
theorem dX7_lashing_88 : decode cX7_lashing 88 = .ok (.ireturn, 1) := by decide +kernel
set_option maxRecDepth 20000 in
theorem ggX7_addCastaway_X7_isBarrel : GoodIn wsX7_addCastaway wsX7_isBarrel := goodIn_r _ [8, 9, 10, 11, 7, 12, 26, 27, 28, 29, 30, 31, 32, 33, 34, 35, 36, 37, 38, 39, 40, 41, 42, 43] (by decide +kernel) (by decide +kernel)
set_option maxRecDepth 20000 in
theorem gX7_addCastaway_X7_isBarrel : GoodIn wsX7_addCastaway (wsV RX7 109 RX7 yX7_isBarrel wsX7_isBarrel) := goodIn_app (goodIn_of _ (by decide +kernel)) ggX7_addCastaway_X7_isBarrel
set_option maxRecDepth 20000 in
theorem ggX7_addCastaway_X7_fail : GoodIn wsX7_addCastaway wsX7_fail := goodIn_r _ [16, 1, 26, 27, 28, 29, 30, 31, 32, 33, 34, 35, 36, 37, 38, 39, 40, 41, 42, 43] (by decide +kernel) (by decide +kernel)
set_option maxRecDepth 20000 in
theorem gX7_addCastaway_X7_fail : GoodIn wsX7_addCastaway (wsV RX7 73 RX7 yX7_fail wsX7_fail) := goodIn_app (goodIn_of _ (by decide +kernel)) ggX7_addCastaway_X7_fail
set_option maxRecDepth 20000 in
theorem ggX7_addCastaway_X7_floats : GoodIn wsX7_addCastaway wsX7_floats := goodIn_r _ [20, 21, 22, 23, 7, 24, 25, 26, 27, 28, 29, 30, 31, 32, 33, 34, 35, 36, 37, 38, 39, 40, 41, 42, 43] (by decide +kernel) (by decide +kernel)
set_option maxRecDepth 20000 in
theorem gX7_addCastaway_X7_floats : GoodIn wsX7_addCastaway (wsV RX7 93 RX7 yX7_floats wsX7_floats) := goodIn_app (goodIn_of _ (by decide +kernel)) ggX7_addCastaway_X7_floats
theorem dX7_addCastaway_0 : decode cX7_addCastaway 0 = .ok (.aload_n 0, 1) := by decide +kernel
theorem dX7_addCastaway_1 : decode cX7_addCastaway 1 = .ok (.iconst 0, 1) := by decide +kernel
theorem dX7_addCastaway_2 : decode cX7_addCastaway 2 = .ok (.putfield 47, 3) := by decide +kernel
theorem dX7_addCastaway_5 : decode cX7_addCastaway 5 = .ok (.aload_n 0, 1) := by decide +kernel
theorem dX7_addCastaway_6 : decode cX7_addCastaway 6 = .ok (.iload_n 1, 1) := by decide +kernel
theorem dX7_addCastaway_7 : decode cX7_addCastaway 7 = .ok (.invokevirtual 109, 3) := by decide +kernel
theorem dX7_addCastaway_10 : decode cX7_addCastaway 10 = .ok (.ifCond .ne 9, 3) := by decide +kernel
theorem dX7_addCastaway_13 : decode cX7_addCastaway 13 = .ok (.aload_n 0, 1) := by decide +kernel
theorem dX7_addCastaway_14 : decode cX7_addCastaway 14 = .ok (.iconst 1, 1) := by decide +kernel
theorem dX7_addCastaway_15 : decode cX7_addCastaway 15 = .ok (.invokevirtual 73, 3) := by decide +kernel
theorem dX7_addCastaway_18 : decode cX7_addCastaway 18 = .ok (.ireturn, 1) := by decide +kernel
theorem dX7_addCastaway_19 : decode cX7_addCastaway 19 = .ok (.aload_n 0, 1) := by decide +kernel
theorem dX7_addCastaway_20 : decode cX7_addCastaway 20 = .ok (.iload_n 1, 1) := by decide +kernel
theorem dX7_addCastaway_21 : decode cX7_addCastaway 21 = .ok (.invokevirtual 93, 3) := by decide +kernel
theorem dX7_addCastaway_24 : decode cX7_addCastaway 24 = .ok (.ifCond .eq 12, 3) := by decide +kernel
theorem dX7_addCastaway_27 : decode cX7_addCastaway 27 = .ok (.aload_n 0, 1) := by decide +kernel
theorem dX7_addCastaway_28 : decode cX7_addCastaway 28 = .ok (.getfield 127, 3) := by decide +kernel
theorem dX7_addCastaway_31 : decode cX7_addCastaway 31 = .ok (.bipush 8, 2) := by decide +kernel
theorem dX7_addCastaway_33 : decode cX7_addCastaway 33 = .ok (.if_icmp .ne 9, 3) := by decide +kernel
theorem dX7_addCastaway_36 : decode cX7_addCastaway 36 = .ok (.aload_n 0, 1) := by decide +kernel
theorem dX7_addCastaway_37 : decode cX7_addCastaway 37 = .ok (.iconst 2, 1) := by decide +kernel
theorem dX7_addCastaway_38 : decode cX7_addCastaway 38 = .ok (.invokevirtual 73, 3) := by decide +kernel
theorem dX7_addCastaway_41 : decode cX7_addCastaway 41 = .ok (.ireturn, 1) := by decide +kernel
theorem dX7_addCastaway_42 : decode cX7_addCastaway 42 = .ok (.aload_n 0, 1) := by decide +kernel
theorem dX7_addCastaway_43 : decode cX7_addCastaway 43 = .ok (.getfield 25, 3) := by decide +kernel
theorem dX7_addCastaway_46 : decode cX7_addCastaway 46 = .ok (.iconst 2, 1) := by decide +kernel
theorem dX7_addCastaway_47 : decode cX7_addCastaway 47 = .ok (.aload_n 0, 1) := by decide +kernel
theorem dX7_addCastaway_48 : decode cX7_addCastaway 48 = .ok (.getfield 127, 3) := by decide +kernel
theorem dX7_addCastaway_51 : decode cX7_addCastaway 51 = .ok (.imul, 1) := by decide +kernel
theorem dX7_addCastaway_52 : decode cX7_addCastaway 52 = .ok (.iload_n 1, 1) := by decide +kernel
theorem dX7_addCastaway_53 : decode cX7_addCastaway 53 = .ok (.iastore, 1) := by decide +kernel
theorem dX7_addCastaway_54 : decode cX7_addCastaway 54 = .ok (.aload_n 0, 1) := by decide +kernel
theorem dX7_addCastaway_55 : decode cX7_addCastaway 55 = .ok (.dup, 1) := by decide +kernel
theorem dX7_addCastaway_56 : decode cX7_addCastaway 56 = .ok (.getfield 127, 3) := by decide +kernel
theorem dX7_addCastaway_59 : decode cX7_addCastaway 59 = .ok (.iconst 1, 1) := by decide +kernel
theorem dX7_addCastaway_60 : decode cX7_addCastaway 60 = .ok (.iadd, 1) := by decide +kernel
theorem dX7_addCastaway_61 : decode cX7_addCastaway 61 = .ok (.putfield 127, 3) := by decide +kernel
theorem dX7_addCastaway_64 : decode cX7_addCastaway 64 = .ok (.aload_n 0, 1) := by decide +kernel
theorem dX7_addCastaway_65 : decode cX7_addCastaway 65 = .ok (.getfield 127, 3) := by decide +kernel
theorem dX7_addCastaway_68 : decode cX7_addCastaway 68 = .ok (.iconst 1, 1) := by decide +kernel
theorem dX7_addCastaway_69 : decode cX7_addCastaway 69 = .ok (.isub, 1) := by decide +kernel
theorem dX7_addCastaway_70 : decode cX7_addCastaway 70 = .ok (.ireturn, 1) := by decide +kernel
set_option maxRecDepth 20000 in
theorem ggX7_isPerson_X7_isIn : GoodIn wsX7_isPerson wsX7_isIn := goodIn_r _ [5] (by decide +kernel) (by decide +kernel)
set_option maxRecDepth 20000 in
theorem gX7_isPerson_X7_isIn : GoodIn wsX7_isPerson (va_wsS RX7 54 yX7_isIn wsX7_isIn) := goodIn_app (goodIn_of _ (by decide +kernel)) ggX7_isPerson_X7_isIn
theorem dX7_isPerson_0 : decode cX7_isPerson 0 = .ok (.iload_n 1, 1) := by decide +kernel
theorem dX7_isPerson_1 : decode cX7_isPerson 1 = .ok (.iconst 0, 1) := by decide +kernel
theorem dX7_isPerson_2 : decode cX7_isPerson 2 = .ok (.aload_n 0, 1) := by decide +kernel
theorem dX7_isPerson_3 : decode cX7_isPerson 3 = .ok (.getfield 127, 3) := by decide +kernel
theorem dX7_isPerson_6 : decode cX7_isPerson 6 = .ok (.iconst 1, 1) := by decide +kernel
theorem dX7_isPerson_7 : decode cX7_isPerson 7 = .ok (.isub, 1) := by decide +kernel
theorem dX7_isPerson_8 : decode cX7_isPerson 8 = .ok (.invokestatic 54, 3) := by decide +kernel
theorem dX7_isPerson_11 : decode cX7_isPerson 11 = .ok (.ireturn, 1) := by decide +kernel
set_option maxRecDepth 20000 in
theorem ggX7_go_X7_isPerson : GoodIn wsX7_go wsX7_isPerson := goodIn_r _ [7, 8, 9, 10, 6, 11, 40, 41, 42, 43, 44, 45, 46, 47, 48, 49, 50, 51, 52, 53, 54, 55, 56, 57] (by decide +kernel) (by decide +kernel)
set_option maxRecDepth 20000 in
theorem gX7_go_X7_isPerson : GoodIn wsX7_go (wsV RX7 151 RX7 yX7_isPerson wsX7_isPerson) := goodIn_app (goodIn_of _ (by decide +kernel)) ggX7_go_X7_isPerson
set_option maxRecDepth 20000 in
theorem ggX7_go_X7_isBarrel : GoodIn wsX7_go wsX7_isBarrel := goodIn_r _ [15, 16, 9, 10, 6, 11, 40, 41, 42, 43, 44, 45, 46, 47, 48, 49, 50, 51, 52, 53, 54, 55, 56, 57] (by decide +kernel) (by decide +kernel)
set_option maxRecDepth 20000 in
theorem gX7_go_X7_isBarrel : GoodIn wsX7_go (wsV RX7 109 RX7 yX7_isBarrel wsX7_isBarrel) := goodIn_app (goodIn_of _ (by decide +kernel)) ggX7_go_X7_isBarrel
set_option maxRecDepth 20000 in
theorem ggX7_go_X7_fail : GoodIn wsX7_go wsX7_fail := goodIn_r _ [20, 1, 40, 41, 42, 43, 44, 45, 46, 47, 48, 49, 50, 51, 52, 53, 54, 55, 56, 57] (by decide +kernel) (by decide +kernel)
set_option maxRecDepth 20000 in
theorem gX7_go_X7_fail : GoodIn wsX7_go (wsV RX7 73 RX7 yX7_fail wsX7_fail) := goodIn_app (goodIn_of _ (by decide +kernel)) ggX7_go_X7_fail
set_option maxRecDepth 20000 in
theorem ggX7_go_X7_isTied : GoodIn wsX7_go wsX7_isTied := goodIn_r _ [24, 25, 26, 27, 6, 28, 29, 30, 31, 32, 33, 34, 35, 40, 41, 42, 43, 44, 45, 46, 47, 48, 49, 50, 51, 52, 53, 54, 55, 56, 57] (by decide +kernel) (by decide +kernel)
set_option maxRecDepth 20000 in
theorem gX7_go_X7_isTied : GoodIn wsX7_go (wsV RX7 116 RX7 yX7_isTied wsX7_isTied) := goodIn_app (goodIn_of _ (by decide +kernel)) ggX7_go_X7_isTied
set_option maxRecDepth 20000 in
theorem ggX7_go_X7_crewOn : GoodIn wsX7_go wsX7_crewOn := goodIn_r _ [39, 8, 2, 40, 41, 42, 43, 44, 45, 46, 47, 48, 49, 50, 51, 52, 53, 54, 55, 56, 57] (by decide +kernel) (by decide +kernel)
set_option maxRecDepth 20000 in
theorem gX7_go_X7_crewOn : GoodIn wsX7_go (wsV RX7 130 RX7 yX7_crewOn wsX7_crewOn) := goodIn_app (goodIn_of _ (by decide +kernel)) ggX7_go_X7_crewOn
theorem dX7_go_0 : decode cX7_go 0 = .ok (.aload_n 0, 1) := by decide +kernel
theorem dX7_go_1 : decode cX7_go 1 = .ok (.iconst 0, 1) := by decide +kernel
theorem dX7_go_2 : decode cX7_go 2 = .ok (.putfield 47, 3) := by decide +kernel
theorem dX7_go_5 : decode cX7_go 5 = .ok (.aload_n 0, 1) := by decide +kernel
theorem dX7_go_6 : decode cX7_go 6 = .ok (.iload_n 1, 1) := by decide +kernel
theorem dX7_go_7 : decode cX7_go 7 = .ok (.invokevirtual 151, 3) := by decide +kernel
theorem dX7_go_10 : decode cX7_go 10 = .ok (.ifCond .eq 11, 3) := by decide +kernel
theorem dX7_go_13 : decode cX7_go 13 = .ok (.aload_n 0, 1) := by decide +kernel
theorem dX7_go_14 : decode cX7_go 14 = .ok (.iload_n 2, 1) := by decide +kernel
theorem dX7_go_15 : decode cX7_go 15 = .ok (.invokevirtual 109, 3) := by decide +kernel
theorem dX7_go_18 : decode cX7_go 18 = .ok (.ifCond .ne 9, 3) := by decide +kernel
theorem dX7_go_21 : decode cX7_go 21 = .ok (.aload_n 0, 1) := by decide +kernel
theorem dX7_go_22 : decode cX7_go 22 = .ok (.iconst 1, 1) := by decide +kernel
theorem dX7_go_23 : decode cX7_go 23 = .ok (.invokevirtual 73, 3) := by decide +kernel
theorem dX7_go_26 : decode cX7_go 26 = .ok (.ireturn, 1) := by decide +kernel
theorem dX7_go_27 : decode cX7_go 27 = .ok (.aload_n 0, 1) := by decide +kernel
theorem dX7_go_28 : decode cX7_go 28 = .ok (.getfield 25, 3) := by decide +kernel
theorem dX7_go_31 : decode cX7_go 31 = .ok (.iconst 2, 1) := by decide +kernel
theorem dX7_go_32 : decode cX7_go 32 = .ok (.iload_n 1, 1) := by decide +kernel
theorem dX7_go_33 : decode cX7_go 33 = .ok (.imul, 1) := by decide +kernel
theorem dX7_go_34 : decode cX7_go 34 = .ok (.iaload, 1) := by decide +kernel
theorem dX7_go_35 : decode cX7_go 35 = .ok (.istore_n 3, 1) := by decide +kernel
theorem dX7_go_36 : decode cX7_go 36 = .ok (.iload_n 3, 1) := by decide +kernel
theorem dX7_go_37 : decode cX7_go 37 = .ok (.iconst (-1), 1) := by decide +kernel
theorem dX7_go_38 : decode cX7_go 38 = .ok (.if_icmp .eq 17, 3) := by decide +kernel
theorem dX7_go_41 : decode cX7_go 41 = .ok (.iload_n 3, 1) := by decide +kernel
theorem dX7_go_42 : decode cX7_go 42 = .ok (.iload_n 2, 1) := by decide +kernel
theorem dX7_go_43 : decode cX7_go 43 = .ok (.if_icmp .eq 12, 3) := by decide +kernel
theorem dX7_go_46 : decode cX7_go 46 = .ok (.aload_n 0, 1) := by decide +kernel
theorem dX7_go_47 : decode cX7_go 47 = .ok (.iload_n 3, 1) := by decide +kernel
theorem dX7_go_48 : decode cX7_go 48 = .ok (.iload_n 2, 1) := by decide +kernel
theorem dX7_go_49 : decode cX7_go 49 = .ok (.invokevirtual 116, 3) := by decide +kernel
theorem dX7_go_52 : decode cX7_go 52 = .ok (.ifCond .ne 9, 3) := by decide +kernel
theorem dX7_go_55 : decode cX7_go 55 = .ok (.aload_n 0, 1) := by decide +kernel
theorem dX7_go_56 : decode cX7_go 56 = .ok (.iconst 2, 1) := by decide +kernel
theorem dX7_go_57 : decode cX7_go 57 = .ok (.invokevirtual 73, 3) := by decide +kernel
theorem dX7_go_60 : decode cX7_go 60 = .ok (.ireturn, 1) := by decide +kernel
theorem dX7_go_61 : decode cX7_go 61 = .ok (.aload_n 0, 1) := by decide +kernel
theorem dX7_go_62 : decode cX7_go 62 = .ok (.getfield 25, 3) := by decide +kernel
theorem dX7_go_65 : decode cX7_go 65 = .ok (.iconst 2, 1) := by decide +kernel
theorem dX7_go_66 : decode cX7_go 66 = .ok (.iload_n 1, 1) := by decide +kernel
theorem dX7_go_67 : decode cX7_go 67 = .ok (.imul, 1) := by decide +kernel
theorem dX7_go_68 : decode cX7_go 68 = .ok (.iload_n 2, 1) := by decide +kernel
theorem dX7_go_69 : decode cX7_go 69 = .ok (.iastore, 1) := by decide +kernel
theorem dX7_go_70 : decode cX7_go 70 = .ok (.aload_n 0, 1) := by decide +kernel
theorem dX7_go_71 : decode cX7_go 71 = .ok (.iload_n 2, 1) := by decide +kernel
theorem dX7_go_72 : decode cX7_go 72 = .ok (.invokevirtual 130, 3) := by decide +kernel
theorem dX7_go_75 : decode cX7_go 75 = .ok (.ireturn, 1) := by decide +kernel
set_option maxRecDepth 20000 in
theorem ggX7_bail_X7_isPerson : GoodIn wsX7_bail wsX7_isPerson := goodIn_r _ [11, 12, 13, 14, 10, 15, 29, 30, 31, 32, 33, 34, 35, 36, 37, 38, 39, 40, 41, 42, 43, 44, 45, 46] (by decide +kernel) (by decide +kernel)
set_option maxRecDepth 20000 in
theorem gX7_bail_X7_isPerson : GoodIn wsX7_bail (wsV RX7 151 RX7 yX7_isPerson wsX7_isPerson) := goodIn_app (goodIn_of _ (by decide +kernel)) ggX7_bail_X7_isPerson
set_option maxRecDepth 20000 in
theorem ggX7_bail_X7_fail : GoodIn wsX7_bail wsX7_fail := goodIn_r _ [19, 1, 29, 30, 31, 32, 33, 34, 35, 36, 37, 38, 39, 40, 41, 42, 43, 44, 45, 46] (by decide +kernel) (by decide +kernel)
set_option maxRecDepth 20000 in
theorem gX7_bail_X7_fail : GoodIn wsX7_bail (wsV RX7 73 RX7 yX7_fail wsX7_fail) := goodIn_app (goodIn_of _ (by decide +kernel)) ggX7_bail_X7_fail
set_option maxRecDepth 20000 in
theorem ggX7_bail_X7_ba : GoodIn wsX7_bail wsX7_ba := goodIn_r _ [23, 24, 29, 30, 31, 32, 33, 34, 35, 36, 37, 38, 39, 40, 41, 42, 43, 44, 45, 46] (by decide +kernel) (by decide +kernel)
set_option maxRecDepth 20000 in
theorem gX7_bail_X7_ba : GoodIn wsX7_bail (wsV RX7 58 RX7 yX7_ba wsX7_ba) := goodIn_app (goodIn_of _ (by decide +kernel)) ggX7_bail_X7_ba
set_option maxRecDepth 20000 in
theorem ggX7_bail_X7_set : GoodIn wsX7_bail wsX7_set := goodIn_r _ [28, 24, 29, 30, 31, 32, 33, 34, 35, 36, 37, 38, 39, 40, 41, 42, 43, 44, 45, 46] (by decide +kernel) (by decide +kernel)
set_option maxRecDepth 20000 in
theorem gX7_bail_X7_set : GoodIn wsX7_bail (wsV RX7 123 RX7 yX7_set wsX7_set) := goodIn_app (goodIn_of _ (by decide +kernel)) ggX7_bail_X7_set
theorem dX7_bail_0 : decode cX7_bail 0 = .ok (.aload_n 0, 1) := by decide +kernel
theorem dX7_bail_1 : decode cX7_bail 1 = .ok (.iconst 0, 1) := by decide +kernel
theorem dX7_bail_2 : decode cX7_bail 2 = .ok (.putfield 47, 3) := by decide +kernel
theorem dX7_bail_5 : decode cX7_bail 5 = .ok (.aload_n 0, 1) := by decide +kernel
theorem dX7_bail_6 : decode cX7_bail 6 = .ok (.iload_n 1, 1) := by decide +kernel
theorem dX7_bail_7 : decode cX7_bail 7 = .ok (.invokevirtual 151, 3) := by decide +kernel
theorem dX7_bail_10 : decode cX7_bail 10 = .ok (.ifCond .ne 9, 3) := by decide +kernel
theorem dX7_bail_13 : decode cX7_bail 13 = .ok (.aload_n 0, 1) := by decide +kernel
theorem dX7_bail_14 : decode cX7_bail 14 = .ok (.iconst 1, 1) := by decide +kernel
theorem dX7_bail_15 : decode cX7_bail 15 = .ok (.invokevirtual 73, 3) := by decide +kernel
theorem dX7_bail_18 : decode cX7_bail 18 = .ok (.ireturn, 1) := by decide +kernel
theorem dX7_bail_19 : decode cX7_bail 19 = .ok (.aload_n 0, 1) := by decide +kernel
theorem dX7_bail_20 : decode cX7_bail 20 = .ok (.getfield 25, 3) := by decide +kernel
theorem dX7_bail_23 : decode cX7_bail 23 = .ok (.iconst 2, 1) := by decide +kernel
theorem dX7_bail_24 : decode cX7_bail 24 = .ok (.iload_n 1, 1) := by decide +kernel
theorem dX7_bail_25 : decode cX7_bail 25 = .ok (.imul, 1) := by decide +kernel
theorem dX7_bail_26 : decode cX7_bail 26 = .ok (.iaload, 1) := by decide +kernel
theorem dX7_bail_27 : decode cX7_bail 27 = .ok (.istore_n 2, 1) := by decide +kernel
theorem dX7_bail_28 : decode cX7_bail 28 = .ok (.iload_n 2, 1) := by decide +kernel
theorem dX7_bail_29 : decode cX7_bail 29 = .ok (.iconst (-1), 1) := by decide +kernel
theorem dX7_bail_30 : decode cX7_bail 30 = .ok (.if_icmp .ne 9, 3) := by decide +kernel
theorem dX7_bail_33 : decode cX7_bail 33 = .ok (.aload_n 0, 1) := by decide +kernel
theorem dX7_bail_34 : decode cX7_bail 34 = .ok (.iconst 2, 1) := by decide +kernel
theorem dX7_bail_35 : decode cX7_bail 35 = .ok (.invokevirtual 73, 3) := by decide +kernel
theorem dX7_bail_38 : decode cX7_bail 38 = .ok (.ireturn, 1) := by decide +kernel
theorem dX7_bail_39 : decode cX7_bail 39 = .ok (.aload_n 0, 1) := by decide +kernel
theorem dX7_bail_40 : decode cX7_bail 40 = .ok (.iload_n 2, 1) := by decide +kernel
theorem dX7_bail_41 : decode cX7_bail 41 = .ok (.iconst 0, 1) := by decide +kernel
theorem dX7_bail_42 : decode cX7_bail 42 = .ok (.iconst 0, 1) := by decide +kernel
theorem dX7_bail_43 : decode cX7_bail 43 = .ok (.aload_n 0, 1) := by decide +kernel
theorem dX7_bail_44 : decode cX7_bail 44 = .ok (.iload_n 2, 1) := by decide +kernel
theorem dX7_bail_45 : decode cX7_bail 45 = .ok (.iconst 0, 1) := by decide +kernel
theorem dX7_bail_46 : decode cX7_bail 46 = .ok (.invokevirtual 58, 3) := by decide +kernel
theorem dX7_bail_49 : decode cX7_bail 49 = .ok (.bipush 25, 2) := by decide +kernel
theorem dX7_bail_51 : decode cX7_bail 51 = .ok (.isub, 1) := by decide +kernel
theorem dX7_bail_52 : decode cX7_bail 52 = .ok (.invokestatic 67, 3) := by decide +kernel
theorem dX7_bail_55 : decode cX7_bail 55 = .ok (.invokevirtual 123, 3) := by decide +kernel
theorem dX7_bail_58 : decode cX7_bail 58 = .ok (.aload_n 0, 1) := by decide +kernel
theorem dX7_bail_59 : decode cX7_bail 59 = .ok (.iload_n 2, 1) := by decide +kernel
theorem dX7_bail_60 : decode cX7_bail 60 = .ok (.iconst 0, 1) := by decide +kernel
theorem dX7_bail_61 : decode cX7_bail 61 = .ok (.invokevirtual 58, 3) := by decide +kernel
theorem dX7_bail_64 : decode cX7_bail 64 = .ok (.ireturn, 1) := by decide +kernel
set_option maxRecDepth 20000 in
theorem ggX7_castaway_X7_isPerson : GoodIn wsX7_castaway wsX7_isPerson := goodIn_r _ [7, 8, 9, 10, 6, 11, 16, 17, 18, 19, 20, 21, 22, 23, 24, 25, 26, 27, 28, 29, 30, 31, 32, 33] (by decide +kernel) (by decide +kernel)
set_option maxRecDepth 20000 in
theorem gX7_castaway_X7_isPerson : GoodIn wsX7_castaway (wsV RX7 151 RX7 yX7_isPerson wsX7_isPerson) := goodIn_app (goodIn_of _ (by decide +kernel)) ggX7_castaway_X7_isPerson
set_option maxRecDepth 20000 in
theorem ggX7_castaway_X7_isIn : GoodIn wsX7_castaway wsX7_isIn := goodIn_r _ [11] (by decide +kernel) (by decide +kernel)
set_option maxRecDepth 20000 in
theorem gX7_castaway_X7_isIn : GoodIn wsX7_castaway (va_wsS RX7 54 yX7_isIn wsX7_isIn) := goodIn_app (goodIn_of _ (by decide +kernel)) ggX7_castaway_X7_isIn
set_option maxRecDepth 20000 in
theorem ggX7_castaway_X7_fail : GoodIn wsX7_castaway wsX7_fail := goodIn_r _ [15, 1, 16, 17, 18, 19, 20, 21, 22, 23, 24, 25, 26, 27, 28, 29, 30, 31, 32, 33] (by decide +kernel) (by decide +kernel)
set_option maxRecDepth 20000 in
theorem gX7_castaway_X7_fail : GoodIn wsX7_castaway (wsV RX7 73 RX7 yX7_fail wsX7_fail) := goodIn_app (goodIn_of _ (by decide +kernel)) ggX7_castaway_X7_fail
theorem dX7_castaway_0 : decode cX7_castaway 0 = .ok (.aload_n 0, 1) := by decide +kernel
theorem dX7_castaway_1 : decode cX7_castaway 1 = .ok (.iconst 0, 1) := by decide +kernel
theorem dX7_castaway_2 : decode cX7_castaway 2 = .ok (.putfield 47, 3) := by decide +kernel
theorem dX7_castaway_5 : decode cX7_castaway 5 = .ok (.aload_n 0, 1) := by decide +kernel
theorem dX7_castaway_6 : decode cX7_castaway 6 = .ok (.iload_n 1, 1) := by decide +kernel
theorem dX7_castaway_7 : decode cX7_castaway 7 = .ok (.invokevirtual 151, 3) := by decide +kernel
theorem dX7_castaway_10 : decode cX7_castaway 10 = .ok (.ifCond .eq 25, 3) := by decide +kernel
theorem dX7_castaway_13 : decode cX7_castaway 13 = .ok (.iload_n 2, 1) := by decide +kernel
theorem dX7_castaway_14 : decode cX7_castaway 14 = .ok (.iconst 0, 1) := by decide +kernel
theorem dX7_castaway_15 : decode cX7_castaway 15 = .ok (.iconst 1, 1) := by decide +kernel
theorem dX7_castaway_16 : decode cX7_castaway 16 = .ok (.invokestatic 54, 3) := by decide +kernel
theorem dX7_castaway_19 : decode cX7_castaway 19 = .ok (.ifCond .eq 16, 3) := by decide +kernel
theorem dX7_castaway_22 : decode cX7_castaway 22 = .ok (.aload_n 0, 1) := by decide +kernel
theorem dX7_castaway_23 : decode cX7_castaway 23 = .ok (.getfield 25, 3) := by decide +kernel
theorem dX7_castaway_26 : decode cX7_castaway 26 = .ok (.iconst 2, 1) := by decide +kernel
theorem dX7_castaway_27 : decode cX7_castaway 27 = .ok (.iload_n 1, 1) := by decide +kernel
theorem dX7_castaway_28 : decode cX7_castaway 28 = .ok (.imul, 1) := by decide +kernel
theorem dX7_castaway_29 : decode cX7_castaway 29 = .ok (.iload_n 2, 1) := by decide +kernel
theorem dX7_castaway_30 : decode cX7_castaway 30 = .ok (.iadd, 1) := by decide +kernel
theorem dX7_castaway_31 : decode cX7_castaway 31 = .ok (.iaload, 1) := by decide +kernel
theorem dX7_castaway_32 : decode cX7_castaway 32 = .ok (.goto 8, 3) := by decide +kernel
theorem dX7_castaway_35 : decode cX7_castaway 35 = .ok (.aload_n 0, 1) := by decide +kernel
theorem dX7_castaway_36 : decode cX7_castaway 36 = .ok (.iconst 1, 1) := by decide +kernel
theorem dX7_castaway_37 : decode cX7_castaway 37 = .ok (.invokevirtual 73, 3) := by decide +kernel
theorem dX7_castaway_40 : decode cX7_castaway 40 = .ok (.ireturn, 1) := by decide +kernel
set_option maxRecDepth 20000 in
theorem ggX7_sumIn_X7_lifts : GoodIn wsX7_sumIn wsX7_lifts := goodIn_r _ [7, 8, 9, 10, 6, 11, 12, 13, 14, 15, 16, 17, 28, 29, 30, 31, 32, 33, 34, 35, 36, 37, 38, 39, 40, 41, 42, 43, 44, 45] (by decide +kernel) (by decide +kernel)
set_option maxRecDepth 20000 in
theorem gX7_sumIn_X7_lifts : GoodIn wsX7_sumIn (wsV RX7 139 RX7 yX7_lifts wsX7_lifts) := goodIn_app (goodIn_of _ (by decide +kernel)) ggX7_sumIn_X7_lifts
set_option maxRecDepth 20000 in
theorem ggX7_sumIn_X7_loadOf : GoodIn wsX7_sumIn wsX7_loadOf := goodIn_r _ [21, 13, 14, 15, 6, 16, 17, 22, 23, 24, 25, 26, 27, 28, 29, 30, 31, 32, 33, 34, 35, 36, 37, 38, 39, 40, 41, 42, 43, 44, 45] (by decide +kernel) (by decide +kernel)
set_option maxRecDepth 20000 in
theorem gX7_sumIn_X7_loadOf : GoodIn wsX7_sumIn (wsV RX7 142 RX7 yX7_loadOf wsX7_loadOf) := goodIn_app (goodIn_of _ (by decide +kernel)) ggX7_sumIn_X7_loadOf
set_option maxRecDepth 20000 in
theorem ggX7_sumIn_X7_crewOn : GoodIn wsX7_sumIn wsX7_crewOn := goodIn_r _ [25, 26, 27, 28, 29, 30, 31, 32, 33, 34, 35, 36, 37, 38, 39, 40, 41, 42, 43, 44, 45] (by decide +kernel) (by decide +kernel)
set_option maxRecDepth 20000 in
theorem gX7_sumIn_X7_crewOn : GoodIn wsX7_sumIn (wsV RX7 130 RX7 yX7_crewOn wsX7_crewOn) := goodIn_app (goodIn_of _ (by decide +kernel)) ggX7_sumIn_X7_crewOn
theorem dX7_sumIn_0 : decode cX7_sumIn 0 = .ok (.iconst 0, 1) := by decide +kernel
theorem dX7_sumIn_1 : decode cX7_sumIn 1 = .ok (.istore_n 3, 1) := by decide +kernel
theorem dX7_sumIn_2 : decode cX7_sumIn 2 = .ok (.iconst 0, 1) := by decide +kernel
theorem dX7_sumIn_3 : decode cX7_sumIn 3 = .ok (.istore 4, 2) := by decide +kernel
theorem dX7_sumIn_5 : decode cX7_sumIn 5 = .ok (.iload 4, 2) := by decide +kernel
theorem dX7_sumIn_7 : decode cX7_sumIn 7 = .ok (.aload_n 0, 1) := by decide +kernel
theorem dX7_sumIn_8 : decode cX7_sumIn 8 = .ok (.getfield 51, 3) := by decide +kernel
theorem dX7_sumIn_11 : decode cX7_sumIn 11 = .ok (.if_icmp .ge 65, 3) := by decide +kernel
theorem dX7_sumIn_14 : decode cX7_sumIn 14 = .ok (.aload_n 0, 1) := by decide +kernel
theorem dX7_sumIn_15 : decode cX7_sumIn 15 = .ok (.getfield 31, 3) := by decide +kernel
theorem dX7_sumIn_18 : decode cX7_sumIn 18 = .ok (.iload 4, 2) := by decide +kernel
theorem dX7_sumIn_20 : decode cX7_sumIn 20 = .ok (.iaload, 1) := by decide +kernel
theorem dX7_sumIn_21 : decode cX7_sumIn 21 = .ok (.iload_n 1, 1) := by decide +kernel
theorem dX7_sumIn_22 : decode cX7_sumIn 22 = .ok (.if_icmp .ne 48, 3) := by decide +kernel
theorem dX7_sumIn_25 : decode cX7_sumIn 25 = .ok (.iload_n 3, 1) := by decide +kernel
theorem dX7_sumIn_26 : decode cX7_sumIn 26 = .ok (.iload_n 2, 1) := by decide +kernel
theorem dX7_sumIn_27 : decode cX7_sumIn 27 = .ok (.ifCond .ne 7, 3) := by decide +kernel
theorem dX7_sumIn_30 : decode cX7_sumIn 30 = .ok (.iconst 1, 1) := by decide +kernel
theorem dX7_sumIn_31 : decode cX7_sumIn 31 = .ok (.goto 37, 3) := by decide +kernel
theorem dX7_sumIn_34 : decode cX7_sumIn 34 = .ok (.iload_n 2, 1) := by decide +kernel
theorem dX7_sumIn_35 : decode cX7_sumIn 35 = .ok (.iconst 1, 1) := by decide +kernel
theorem dX7_sumIn_36 : decode cX7_sumIn 36 = .ok (.if_icmp .ne 12, 3) := by decide +kernel
theorem dX7_sumIn_39 : decode cX7_sumIn 39 = .ok (.aload_n 0, 1) := by decide +kernel
theorem dX7_sumIn_40 : decode cX7_sumIn 40 = .ok (.iload 4, 2) := by decide +kernel
theorem dX7_sumIn_42 : decode cX7_sumIn 42 = .ok (.invokevirtual 139, 3) := by decide +kernel
theorem dX7_sumIn_45 : decode cX7_sumIn 45 = .ok (.goto 23, 3) := by decide +kernel
theorem dX7_sumIn_48 : decode cX7_sumIn 48 = .ok (.iload_n 2, 1) := by decide +kernel
theorem dX7_sumIn_49 : decode cX7_sumIn 49 = .ok (.iconst 2, 1) := by decide +kernel
theorem dX7_sumIn_50 : decode cX7_sumIn 50 = .ok (.if_icmp .ne 12, 3) := by decide +kernel
theorem dX7_sumIn_53 : decode cX7_sumIn 53 = .ok (.aload_n 0, 1) := by decide +kernel
theorem dX7_sumIn_54 : decode cX7_sumIn 54 = .ok (.iload 4, 2) := by decide +kernel
theorem dX7_sumIn_56 : decode cX7_sumIn 56 = .ok (.invokevirtual 142, 3) := by decide +kernel
theorem dX7_sumIn_59 : decode cX7_sumIn 59 = .ok (.goto 9, 3) := by decide +kernel
theorem dX7_sumIn_62 : decode cX7_sumIn 62 = .ok (.aload_n 0, 1) := by decide +kernel
theorem dX7_sumIn_63 : decode cX7_sumIn 63 = .ok (.iload 4, 2) := by decide +kernel
theorem dX7_sumIn_65 : decode cX7_sumIn 65 = .ok (.invokevirtual 130, 3) := by decide +kernel
theorem dX7_sumIn_68 : decode cX7_sumIn 68 = .ok (.iadd, 1) := by decide +kernel
theorem dX7_sumIn_69 : decode cX7_sumIn 69 = .ok (.istore_n 3, 1) := by decide +kernel
theorem dX7_sumIn_70 : decode cX7_sumIn 70 = .ok (.iinc 4 1, 3) := by decide +kernel
theorem dX7_sumIn_73 : decode cX7_sumIn 73 = .ok (.goto (-68), 3) := by decide +kernel
theorem dX7_sumIn_76 : decode cX7_sumIn 76 = .ok (.iload_n 3, 1) := by decide +kernel
theorem dX7_sumIn_77 : decode cX7_sumIn 77 = .ok (.ireturn, 1) := by decide +kernel
set_option maxRecDepth 20000 in
theorem ggX7_end_X7_set : GoodIn wsX7_end wsX7_set := goodIn_r _ [9, 10, 27, 28, 29, 30, 31, 32, 33, 34, 35, 36, 37, 38, 39, 40, 41, 42, 43, 44] (by decide +kernel) (by decide +kernel)
set_option maxRecDepth 20000 in
theorem gX7_end_X7_set : GoodIn wsX7_end (wsV RX7 123 RX7 yX7_set wsX7_set) := goodIn_app (goodIn_of _ (by decide +kernel)) ggX7_end_X7_set
set_option maxRecDepth 20000 in
theorem ggX7_end_X7_untie : GoodIn wsX7_end wsX7_untie := goodIn_r _ [14, 15, 16, 17, 18, 8, 19, 20, 21, 22, 23, 24, 25, 26, 27, 28, 29, 30, 31, 32, 33, 34, 35, 36, 37, 38, 39, 40, 41, 42, 43, 44] (by decide +kernel) (by decide +kernel)
set_option maxRecDepth 20000 in
theorem gX7_end_X7_untie : GoodIn wsX7_end (wsV RX7 119 RX7 yX7_untie wsX7_untie) := goodIn_app (goodIn_of _ (by decide +kernel)) ggX7_end_X7_untie
theorem dX7_end_0 : decode cX7_end 0 = .ok (.iconst 0, 1) := by decide +kernel
theorem dX7_end_1 : decode cX7_end 1 = .ok (.istore_n 3, 1) := by decide +kernel
theorem dX7_end_2 : decode cX7_end 2 = .ok (.iload_n 3, 1) := by decide +kernel
theorem dX7_end_3 : decode cX7_end 3 = .ok (.aload_n 0, 1) := by decide +kernel
theorem dX7_end_4 : decode cX7_end 4 = .ok (.getfield 51, 3) := by decide +kernel
theorem dX7_end_7 : decode cX7_end 7 = .ok (.if_icmp .ge 128, 3) := by decide +kernel
theorem dX7_end_10 : decode cX7_end 10 = .ok (.aload_n 0, 1) := by decide +kernel
theorem dX7_end_11 : decode cX7_end 11 = .ok (.getfield 31, 3) := by decide +kernel
theorem dX7_end_14 : decode cX7_end 14 = .ok (.iload_n 3, 1) := by decide +kernel
theorem dX7_end_15 : decode cX7_end 15 = .ok (.iaload, 1) := by decide +kernel
theorem dX7_end_16 : decode cX7_end 16 = .ok (.iload_n 1, 1) := by decide +kernel
theorem dX7_end_17 : decode cX7_end 17 = .ok (.if_icmp .eq 6, 3) := by decide +kernel
theorem dX7_end_20 : decode cX7_end 20 = .ok (.goto 109, 3) := by decide +kernel
theorem dX7_end_23 : decode cX7_end 23 = .ok (.aload_n 0, 1) := by decide +kernel
theorem dX7_end_24 : decode cX7_end 24 = .ok (.iload_n 3, 1) := by decide +kernel
theorem dX7_end_25 : decode cX7_end 25 = .ok (.iconst 2, 1) := by decide +kernel
theorem dX7_end_26 : decode cX7_end 26 = .ok (.iload_n 2, 1) := by decide +kernel
theorem dX7_end_27 : decode cX7_end 27 = .ok (.invokevirtual 123, 3) := by decide +kernel
theorem dX7_end_30 : decode cX7_end 30 = .ok (.iload_n 2, 1) := by decide +kernel
theorem dX7_end_31 : decode cX7_end 31 = .ok (.iconst 1, 1) := by decide +kernel
theorem dX7_end_32 : decode cX7_end 32 = .ok (.if_icmp .ne 10, 3) := by decide +kernel
theorem dX7_end_35 : decode cX7_end 35 = .ok (.aload_n 0, 1) := by decide +kernel
theorem dX7_end_36 : decode cX7_end 36 = .ok (.iload_n 3, 1) := by decide +kernel
theorem dX7_end_37 : decode cX7_end 37 = .ok (.iconst 1, 1) := by decide +kernel
theorem dX7_end_38 : decode cX7_end 38 = .ok (.iconst 0, 1) := by decide +kernel
theorem dX7_end_39 : decode cX7_end 39 = .ok (.invokevirtual 123, 3) := by decide +kernel
theorem dX7_end_42 : decode cX7_end 42 = .ok (.iconst 0, 1) := by decide +kernel
theorem dX7_end_43 : decode cX7_end 43 = .ok (.istore 4, 2) := by decide +kernel
theorem dX7_end_45 : decode cX7_end 45 = .ok (.iload 4, 2) := by decide +kernel
theorem dX7_end_47 : decode cX7_end 47 = .ok (.aload_n 0, 1) := by decide +kernel
theorem dX7_end_48 : decode cX7_end 48 = .ok (.getfield 51, 3) := by decide +kernel
theorem dX7_end_51 : decode cX7_end 51 = .ok (.if_icmp .ge 22, 3) := by decide +kernel
theorem dX7_end_54 : decode cX7_end 54 = .ok (.iload 4, 2) := by decide +kernel
theorem dX7_end_56 : decode cX7_end 56 = .ok (.iload_n 3, 1) := by decide +kernel
theorem dX7_end_57 : decode cX7_end 57 = .ok (.if_icmp .eq 10, 3) := by decide +kernel
theorem dX7_end_60 : decode cX7_end 60 = .ok (.aload_n 0, 1) := by decide +kernel
theorem dX7_end_61 : decode cX7_end 61 = .ok (.iload_n 3, 1) := by decide +kernel
theorem dX7_end_62 : decode cX7_end 62 = .ok (.iload 4, 2) := by decide +kernel
theorem dX7_end_64 : decode cX7_end 64 = .ok (.invokevirtual 119, 3) := by decide +kernel
theorem dX7_end_67 : decode cX7_end 67 = .ok (.iinc 4 1, 3) := by decide +kernel
theorem dX7_end_70 : decode cX7_end 70 = .ok (.goto (-25), 3) := by decide +kernel
theorem dX7_end_73 : decode cX7_end 73 = .ok (.iconst 0, 1) := by decide +kernel
theorem dX7_end_74 : decode cX7_end 74 = .ok (.istore 4, 2) := by decide +kernel
theorem dX7_end_76 : decode cX7_end 76 = .ok (.iload 4, 2) := by decide +kernel
theorem dX7_end_78 : decode cX7_end 78 = .ok (.aload_n 0, 1) := by decide +kernel
theorem dX7_end_79 : decode cX7_end 79 = .ok (.getfield 127, 3) := by decide +kernel
theorem dX7_end_82 : decode cX7_end 82 = .ok (.if_icmp .ge 47, 3) := by decide +kernel
theorem dX7_end_85 : decode cX7_end 85 = .ok (.aload_n 0, 1) := by decide +kernel
theorem dX7_end_86 : decode cX7_end 86 = .ok (.getfield 25, 3) := by decide +kernel
theorem dX7_end_89 : decode cX7_end 89 = .ok (.iconst 2, 1) := by decide +kernel
theorem dX7_end_90 : decode cX7_end 90 = .ok (.iload 4, 2) := by decide +kernel
theorem dX7_end_92 : decode cX7_end 92 = .ok (.imul, 1) := by decide +kernel
theorem dX7_end_93 : decode cX7_end 93 = .ok (.iaload, 1) := by decide +kernel
theorem dX7_end_94 : decode cX7_end 94 = .ok (.iload_n 3, 1) := by decide +kernel
theorem dX7_end_95 : decode cX7_end 95 = .ok (.if_icmp .eq 6, 3) := by decide +kernel
theorem dX7_end_98 : decode cX7_end 98 = .ok (.goto 25, 3) := by decide +kernel
theorem dX7_end_101 : decode cX7_end 101 = .ok (.aload_n 0, 1) := by decide +kernel
theorem dX7_end_102 : decode cX7_end 102 = .ok (.getfield 25, 3) := by decide +kernel
theorem dX7_end_105 : decode cX7_end 105 = .ok (.iconst 2, 1) := by decide +kernel
theorem dX7_end_106 : decode cX7_end 106 = .ok (.iload 4, 2) := by decide +kernel
theorem dX7_end_108 : decode cX7_end 108 = .ok (.imul, 1) := by decide +kernel
theorem dX7_end_109 : decode cX7_end 109 = .ok (.iconst (-1), 1) := by decide +kernel
theorem dX7_end_110 : decode cX7_end 110 = .ok (.iastore, 1) := by decide +kernel
theorem dX7_end_111 : decode cX7_end 111 = .ok (.aload_n 0, 1) := by decide +kernel
theorem dX7_end_112 : decode cX7_end 112 = .ok (.getfield 25, 3) := by decide +kernel
theorem dX7_end_115 : decode cX7_end 115 = .ok (.iconst 2, 1) := by decide +kernel
theorem dX7_end_116 : decode cX7_end 116 = .ok (.iload 4, 2) := by decide +kernel
theorem dX7_end_118 : decode cX7_end 118 = .ok (.imul, 1) := by decide +kernel
theorem dX7_end_119 : decode cX7_end 119 = .ok (.iconst 1, 1) := by decide +kernel
theorem dX7_end_120 : decode cX7_end 120 = .ok (.iadd, 1) := by decide +kernel
theorem dX7_end_121 : decode cX7_end 121 = .ok (.iload_n 2, 1) := by decide +kernel
theorem dX7_end_122 : decode cX7_end 122 = .ok (.iastore, 1) := by decide +kernel
theorem dX7_end_123 : decode cX7_end 123 = .ok (.iinc 4 1, 3) := by decide +kernel
theorem dX7_end_126 : decode cX7_end 126 = .ok (.goto (-50), 3) := by decide +kernel
theorem dX7_end_129 : decode cX7_end 129 = .ok (.iinc 3 1, 3) := by decide +kernel
theorem dX7_end_132 : decode cX7_end 132 = .ok (.goto (-130), 3) := by decide +kernel
theorem dX7_end_135 : decode cX7_end 135 = .ok (.return_, 1) := by decide +kernel
set_option maxRecDepth 20000 in
theorem ggX7_hourOn_X7_floats : GoodIn wsX7_hourOn wsX7_floats := goodIn_r _ [19, 20, 21, 22, 18, 23, 24, 91, 92, 93, 94, 95, 96, 97, 98, 99, 100, 101, 102, 103, 104, 105, 106, 107, 108] (by decide +kernel) (by decide +kernel)
set_option maxRecDepth 20000 in
theorem gX7_hourOn_X7_floats : GoodIn wsX7_hourOn (wsV RX7 93 RX7 yX7_floats wsX7_floats) := goodIn_app (goodIn_of _ (by decide +kernel)) ggX7_hourOn_X7_floats
set_option maxRecDepth 20000 in
theorem ggX7_hourOn_X7_ba : GoodIn wsX7_hourOn wsX7_ba := goodIn_r _ [23, 24, 91, 92, 93, 94, 95, 96, 97, 98, 99, 100, 101, 102, 103, 104, 105, 106, 107, 108] (by decide +kernel) (by decide +kernel)
set_option maxRecDepth 20000 in
theorem gX7_hourOn_X7_ba : GoodIn wsX7_hourOn (wsV RX7 58 RX7 yX7_ba wsX7_ba) := goodIn_app (goodIn_of _ (by decide +kernel)) ggX7_hourOn_X7_ba
set_option maxRecDepth 20000 in
theorem ggX7_hourOn_X7_fx : GoodIn wsX7_hourOn wsX7_fx := goodIn_r _ [28, 29, 91, 92, 93, 94, 95, 96, 97, 98, 99, 100, 101, 102, 103, 104, 105, 106, 107, 108] (by decide +kernel) (by decide +kernel)
set_option maxRecDepth 20000 in
theorem gX7_hourOn_X7_fx : GoodIn wsX7_hourOn (wsV RX7 103 RX7 yX7_fx wsX7_fx) := goodIn_app (goodIn_of _ (by decide +kernel)) ggX7_hourOn_X7_fx
set_option maxRecDepth 20000 in
theorem ggX7_hourOn_X7_set : GoodIn wsX7_hourOn wsX7_set := goodIn_r _ [33, 24, 91, 92, 93, 94, 95, 96, 97, 98, 99, 100, 101, 102, 103, 104, 105, 106, 107, 108] (by decide +kernel) (by decide +kernel)
set_option maxRecDepth 20000 in
theorem gX7_hourOn_X7_set : GoodIn wsX7_hourOn (wsV RX7 123 RX7 yX7_set wsX7_set) := goodIn_app (goodIn_of _ (by decide +kernel)) ggX7_hourOn_X7_set
set_option maxRecDepth 20000 in
theorem ggX7_hourOn_X7_name : GoodIn wsX7_hourOn wsX7_name := goodIn_r _ [37, 1, 6, 2, 3, 4, 5, 15, 16, 17, 18, 19, 20, 21, 22, 23, 24, 38, 39, 40, 41, 7, 42, 43, 44, 10, 11, 12, 91, 92, 93, 94, 95, 96, 97, 98, 99, 100, 101, 102, 103, 104, 105, 106, 107, 108] (by decide +kernel) (by decide +kernel)
set_option maxRecDepth 20000 in
theorem gX7_hourOn_X7_name : GoodIn wsX7_hourOn (wsV RX7 133 RX7 yX7_name wsX7_name) := goodIn_app (goodIn_of _ (by decide +kernel)) ggX7_hourOn_X7_name
set_option maxRecDepth 20000 in
theorem ggX7_hourOn_X7_sumIn : GoodIn wsX7_hourOn wsX7_sumIn := goodIn_r _ [48, 1, 6, 49, 50, 51, 18, 52, 25, 26, 27, 28, 29, 20, 21, 22, 23, 24, 53, 54, 55, 56, 57, 58, 59, 60, 61, 62, 91, 92, 93, 94, 95, 96, 97, 98, 99, 100, 101, 102, 103, 104, 105, 106, 107, 108] (by decide +kernel) (by decide +kernel)
set_option maxRecDepth 20000 in
theorem gX7_hourOn_X7_sumIn : GoodIn wsX7_hourOn (wsV RX7 154 RX7 yX7_sumIn wsX7_sumIn) := goodIn_app (goodIn_of _ (by decide +kernel)) ggX7_hourOn_X7_sumIn
set_option maxRecDepth 20000 in
theorem ggX7_hourOn_X7_end : GoodIn wsX7_hourOn wsX7_end := goodIn_r _ [66, 1, 6, 61, 62, 30, 31, 32, 18, 33, 24, 67, 68, 69, 70, 7, 8, 42, 43, 44, 2, 3, 4, 5, 10, 11, 12, 91, 92, 93, 94, 95, 96, 97, 98, 99, 100, 101, 102, 103, 104, 105, 106, 107, 108] (by decide +kernel) (by decide +kernel)
set_option maxRecDepth 20000 in
theorem gX7_hourOn_X7_end : GoodIn wsX7_hourOn (wsV RX7 157 RX7 yX7_end wsX7_end) := goodIn_app (goodIn_of _ (by decide +kernel)) ggX7_hourOn_X7_end
set_option maxRecDepth 20000 in
theorem ggX7_hourOn_X7_isTied : GoodIn wsX7_hourOn wsX7_isTied := goodIn_r _ [41, 7, 42, 43, 18, 44, 2, 3, 4, 5, 10, 11, 12, 91, 92, 93, 94, 95, 96, 97, 98, 99, 100, 101, 102, 103, 104, 105, 106, 107, 108] (by decide +kernel) (by decide +kernel)
set_option maxRecDepth 20000 in
theorem gX7_hourOn_X7_isTied : GoodIn wsX7_hourOn (wsV RX7 116 RX7 yX7_isTied wsX7_isTied) := goodIn_app (goodIn_of _ (by decide +kernel)) ggX7_hourOn_X7_isTied
set_option maxRecDepth 20000 in
theorem ggX7_hourOn_X7_stress : GoodIn wsX7_hourOn wsX7_stress := goodIn_r _ [74, 75, 76, 4, 77, 20, 21, 22, 18, 23, 24, 78, 79, 80, 81, 82, 83, 84, 85, 86, 87, 88, 89, 90, 53, 54, 55, 56, 57, 58, 59, 60, 61, 62, 91, 92, 93, 94, 95, 96, 97, 98, 99, 100, 101, 102, 103, 104, 105, 106, 107, 108] (by decide +kernel) (by decide +kernel)
set_option maxRecDepth 20000 in
theorem gX7_hourOn_X7_stress : GoodIn wsX7_hourOn (wsV RX7 148 RX7 yX7_stress wsX7_stress) := goodIn_app (goodIn_of _ (by decide +kernel)) ggX7_hourOn_X7_stress
set_option maxRecDepth 20000 in
theorem ggX7_hourOn_X7_pair : GoodIn wsX7_hourOn wsX7_pair := goodIn_r _ [44, 2, 3, 4, 5, 10, 11, 12] (by decide +kernel) (by decide +kernel)
set_option maxRecDepth 20000 in
theorem gX7_hourOn_X7_pair : GoodIn wsX7_hourOn (va_wsS RX7 70 yX7_pair wsX7_pair) := goodIn_app (goodIn_of _ (by decide +kernel)) ggX7_hourOn_X7_pair
set_option maxRecDepth 20000 in
theorem ggX7_hourOn_X7_untie : GoodIn wsX7_hourOn wsX7_untie := goodIn_r _ [70, 7, 8, 42, 43, 18, 44, 2, 3, 4, 5, 10, 11, 12, 91, 92, 93, 94, 95, 96, 97, 98, 99, 100, 101, 102, 103, 104, 105, 106, 107, 108] (by decide +kernel) (by decide +kernel)
set_option maxRecDepth 20000 in
theorem gX7_hourOn_X7_untie : GoodIn wsX7_hourOn (wsV RX7 119 RX7 yX7_untie wsX7_untie) := goodIn_app (goodIn_of _ (by decide +kernel)) ggX7_hourOn_X7_untie
set_option maxRecDepth 20000 in
theorem ggX7_hourOn_X7_seaTold : GoodIn wsX7_hourOn wsX7_seaTold := goodIn_r _ [81, 82, 83, 84, 85, 18, 86, 87, 88, 89, 90, 91, 92, 93, 94, 95, 96, 97, 98, 99, 100, 101, 102, 103, 104, 105, 106, 107, 108] (by decide +kernel) (by decide +kernel)
set_option maxRecDepth 20000 in
theorem gX7_hourOn_X7_seaTold : GoodIn wsX7_hourOn (wsV RX7 89 RX7 yX7_seaTold wsX7_seaTold) := goodIn_app (goodIn_of _ (by decide +kernel)) ggX7_hourOn_X7_seaTold
theorem dX7_hourOn_0 : decode cX7_hourOn 0 = .ok (.iconst 0, 1) := by decide +kernel
theorem dX7_hourOn_1 : decode cX7_hourOn 1 = .ok (.istore_n 1, 1) := by decide +kernel
theorem dX7_hourOn_2 : decode cX7_hourOn 2 = .ok (.iconst 0, 1) := by decide +kernel
theorem dX7_hourOn_3 : decode cX7_hourOn 3 = .ok (.istore_n 2, 1) := by decide +kernel
theorem dX7_hourOn_4 : decode cX7_hourOn 4 = .ok (.iload_n 2, 1) := by decide +kernel
theorem dX7_hourOn_5 : decode cX7_hourOn 5 = .ok (.aload_n 0, 1) := by decide +kernel
theorem dX7_hourOn_6 : decode cX7_hourOn 6 = .ok (.getfield 51, 3) := by decide +kernel
theorem dX7_hourOn_9 : decode cX7_hourOn 9 = .ok (.if_icmp .ge 41, 3) := by decide +kernel
theorem dX7_hourOn_12 : decode cX7_hourOn 12 = .ok (.aload_n 0, 1) := by decide +kernel
theorem dX7_hourOn_13 : decode cX7_hourOn 13 = .ok (.iload_n 2, 1) := by decide +kernel
theorem dX7_hourOn_14 : decode cX7_hourOn 14 = .ok (.invokevirtual 93, 3) := by decide +kernel
theorem dX7_hourOn_17 : decode cX7_hourOn 17 = .ok (.ifCond .eq 27, 3) := by decide +kernel
theorem dX7_hourOn_20 : decode cX7_hourOn 20 = .ok (.aload_n 0, 1) := by decide +kernel
theorem dX7_hourOn_21 : decode cX7_hourOn 21 = .ok (.iload_n 2, 1) := by decide +kernel
theorem dX7_hourOn_22 : decode cX7_hourOn 22 = .ok (.iconst 0, 1) := by decide +kernel
theorem dX7_hourOn_23 : decode cX7_hourOn 23 = .ok (.bipush 100, 2) := by decide +kernel
theorem dX7_hourOn_25 : decode cX7_hourOn 25 = .ok (.aload_n 0, 1) := by decide +kernel
theorem dX7_hourOn_26 : decode cX7_hourOn 26 = .ok (.iload_n 2, 1) := by decide +kernel
theorem dX7_hourOn_27 : decode cX7_hourOn 27 = .ok (.iconst 0, 1) := by decide +kernel
theorem dX7_hourOn_28 : decode cX7_hourOn 28 = .ok (.invokevirtual 58, 3) := by decide +kernel
theorem dX7_hourOn_31 : decode cX7_hourOn 31 = .ok (.aload_n 0, 1) := by decide +kernel
theorem dX7_hourOn_32 : decode cX7_hourOn 32 = .ok (.iload_n 2, 1) := by decide +kernel
theorem dX7_hourOn_33 : decode cX7_hourOn 33 = .ok (.iconst 2, 1) := by decide +kernel
theorem dX7_hourOn_34 : decode cX7_hourOn 34 = .ok (.invokevirtual 103, 3) := by decide +kernel
theorem dX7_hourOn_37 : decode cX7_hourOn 37 = .ok (.iadd, 1) := by decide +kernel
theorem dX7_hourOn_38 : decode cX7_hourOn 38 = .ok (.invokestatic 62, 3) := by decide +kernel
theorem dX7_hourOn_41 : decode cX7_hourOn 41 = .ok (.invokevirtual 123, 3) := by decide +kernel
theorem dX7_hourOn_44 : decode cX7_hourOn 44 = .ok (.iinc 2 1, 3) := by decide +kernel
theorem dX7_hourOn_47 : decode cX7_hourOn 47 = .ok (.goto (-43), 3) := by decide +kernel
theorem dX7_hourOn_50 : decode cX7_hourOn 50 = .ok (.aload_n 0, 1) := by decide +kernel
theorem dX7_hourOn_51 : decode cX7_hourOn 51 = .ok (.invokevirtual 133, 3) := by decide +kernel
theorem dX7_hourOn_54 : decode cX7_hourOn 54 = .ok (.iconst 0, 1) := by decide +kernel
theorem dX7_hourOn_55 : decode cX7_hourOn 55 = .ok (.istore_n 2, 1) := by decide +kernel
theorem dX7_hourOn_56 : decode cX7_hourOn 56 = .ok (.iload_n 2, 1) := by decide +kernel
theorem dX7_hourOn_57 : decode cX7_hourOn 57 = .ok (.aload_n 0, 1) := by decide +kernel
theorem dX7_hourOn_58 : decode cX7_hourOn 58 = .ok (.getfield 51, 3) := by decide +kernel
theorem dX7_hourOn_61 : decode cX7_hourOn 61 = .ok (.if_icmp .ge 40, 3) := by decide +kernel
theorem dX7_hourOn_64 : decode cX7_hourOn 64 = .ok (.aload_n 0, 1) := by decide +kernel
theorem dX7_hourOn_65 : decode cX7_hourOn 65 = .ok (.getfield 31, 3) := by decide +kernel
theorem dX7_hourOn_68 : decode cX7_hourOn 68 = .ok (.iload_n 2, 1) := by decide +kernel
theorem dX7_hourOn_69 : decode cX7_hourOn 69 = .ok (.iaload, 1) := by decide +kernel
theorem dX7_hourOn_70 : decode cX7_hourOn 70 = .ok (.iload_n 2, 1) := by decide +kernel
theorem dX7_hourOn_71 : decode cX7_hourOn 71 = .ok (.if_icmp .ne 24, 3) := by decide +kernel
theorem dX7_hourOn_74 : decode cX7_hourOn 74 = .ok (.aload_n 0, 1) := by decide +kernel
theorem dX7_hourOn_75 : decode cX7_hourOn 75 = .ok (.iload_n 2, 1) := by decide +kernel
theorem dX7_hourOn_76 : decode cX7_hourOn 76 = .ok (.iconst 2, 1) := by decide +kernel
theorem dX7_hourOn_77 : decode cX7_hourOn 77 = .ok (.invokevirtual 154, 3) := by decide +kernel
theorem dX7_hourOn_80 : decode cX7_hourOn 80 = .ok (.aload_n 0, 1) := by decide +kernel
theorem dX7_hourOn_81 : decode cX7_hourOn 81 = .ok (.iload_n 2, 1) := by decide +kernel
theorem dX7_hourOn_82 : decode cX7_hourOn 82 = .ok (.iconst 1, 1) := by decide +kernel
theorem dX7_hourOn_83 : decode cX7_hourOn 83 = .ok (.invokevirtual 154, 3) := by decide +kernel
theorem dX7_hourOn_86 : decode cX7_hourOn 86 = .ok (.if_icmp .le 9, 3) := by decide +kernel
theorem dX7_hourOn_89 : decode cX7_hourOn 89 = .ok (.aload_n 0, 1) := by decide +kernel
theorem dX7_hourOn_90 : decode cX7_hourOn 90 = .ok (.iload_n 2, 1) := by decide +kernel
theorem dX7_hourOn_91 : decode cX7_hourOn 91 = .ok (.iconst 1, 1) := by decide +kernel
theorem dX7_hourOn_92 : decode cX7_hourOn 92 = .ok (.invokevirtual 157, 3) := by decide +kernel
theorem dX7_hourOn_95 : decode cX7_hourOn 95 = .ok (.iinc 2 1, 3) := by decide +kernel
theorem dX7_hourOn_98 : decode cX7_hourOn 98 = .ok (.goto (-42), 3) := by decide +kernel
theorem dX7_hourOn_101 : decode cX7_hourOn 101 = .ok (.iconst 0, 1) := by decide +kernel
theorem dX7_hourOn_102 : decode cX7_hourOn 102 = .ok (.istore_n 2, 1) := by decide +kernel
theorem dX7_hourOn_103 : decode cX7_hourOn 103 = .ok (.iload_n 2, 1) := by decide +kernel
theorem dX7_hourOn_104 : decode cX7_hourOn 104 = .ok (.aload_n 0, 1) := by decide +kernel
theorem dX7_hourOn_105 : decode cX7_hourOn 105 = .ok (.getfield 51, 3) := by decide +kernel
theorem dX7_hourOn_108 : decode cX7_hourOn 108 = .ok (.if_icmp .ge 102, 3) := by decide +kernel
theorem dX7_hourOn_111 : decode cX7_hourOn 111 = .ok (.iload_n 2, 1) := by decide +kernel
theorem dX7_hourOn_112 : decode cX7_hourOn 112 = .ok (.iconst 1, 1) := by decide +kernel
theorem dX7_hourOn_113 : decode cX7_hourOn 113 = .ok (.iadd, 1) := by decide +kernel
theorem dX7_hourOn_114 : decode cX7_hourOn 114 = .ok (.istore_n 3, 1) := by decide +kernel
theorem dX7_hourOn_115 : decode cX7_hourOn 115 = .ok (.iload_n 3, 1) := by decide +kernel
theorem dX7_hourOn_116 : decode cX7_hourOn 116 = .ok (.aload_n 0, 1) := by decide +kernel
theorem dX7_hourOn_117 : decode cX7_hourOn 117 = .ok (.getfield 51, 3) := by decide +kernel
theorem dX7_hourOn_120 : decode cX7_hourOn 120 = .ok (.if_icmp .ge 84, 3) := by decide +kernel
theorem dX7_hourOn_123 : decode cX7_hourOn 123 = .ok (.aload_n 0, 1) := by decide +kernel
theorem dX7_hourOn_124 : decode cX7_hourOn 124 = .ok (.iload_n 2, 1) := by decide +kernel
theorem dX7_hourOn_125 : decode cX7_hourOn 125 = .ok (.iload_n 3, 1) := by decide +kernel
theorem dX7_hourOn_126 : decode cX7_hourOn 126 = .ok (.invokevirtual 116, 3) := by decide +kernel
theorem dX7_hourOn_129 : decode cX7_hourOn 129 = .ok (.ifCond .ne 6, 3) := by decide +kernel
theorem dX7_hourOn_132 : decode cX7_hourOn 132 = .ok (.goto 66, 3) := by decide +kernel
theorem dX7_hourOn_135 : decode cX7_hourOn 135 = .ok (.aload_n 0, 1) := by decide +kernel
theorem dX7_hourOn_136 : decode cX7_hourOn 136 = .ok (.iload_n 2, 1) := by decide +kernel
theorem dX7_hourOn_137 : decode cX7_hourOn 137 = .ok (.iload_n 3, 1) := by decide +kernel
theorem dX7_hourOn_138 : decode cX7_hourOn 138 = .ok (.invokevirtual 148, 3) := by decide +kernel
theorem dX7_hourOn_141 : decode cX7_hourOn 141 = .ok (.istore 4, 2) := by decide +kernel
theorem dX7_hourOn_143 : decode cX7_hourOn 143 = .ok (.iload 4, 2) := by decide +kernel
theorem dX7_hourOn_145 : decode cX7_hourOn 145 = .ok (.aload_n 0, 1) := by decide +kernel
theorem dX7_hourOn_146 : decode cX7_hourOn 146 = .ok (.getfield 19, 3) := by decide +kernel
theorem dX7_hourOn_149 : decode cX7_hourOn 149 = .ok (.iload_n 2, 1) := by decide +kernel
theorem dX7_hourOn_150 : decode cX7_hourOn 150 = .ok (.iload_n 3, 1) := by decide +kernel
theorem dX7_hourOn_151 : decode cX7_hourOn 151 = .ok (.invokestatic 70, 3) := by decide +kernel
theorem dX7_hourOn_154 : decode cX7_hourOn 154 = .ok (.iaload, 1) := by decide +kernel
theorem dX7_hourOn_155 : decode cX7_hourOn 155 = .ok (.aload_n 0, 1) := by decide +kernel
theorem dX7_hourOn_156 : decode cX7_hourOn 156 = .ok (.getfield 22, 3) := by decide +kernel
theorem dX7_hourOn_159 : decode cX7_hourOn 159 = .ok (.iload_n 2, 1) := by decide +kernel
theorem dX7_hourOn_160 : decode cX7_hourOn 160 = .ok (.iload_n 3, 1) := by decide +kernel
theorem dX7_hourOn_161 : decode cX7_hourOn 161 = .ok (.invokestatic 70, 3) := by decide +kernel
theorem dX7_hourOn_164 : decode cX7_hourOn 164 = .ok (.iaload, 1) := by decide +kernel
theorem dX7_hourOn_165 : decode cX7_hourOn 165 = .ok (.isub, 1) := by decide +kernel
theorem dX7_hourOn_166 : decode cX7_hourOn 166 = .ok (.if_icmp .le 15, 3) := by decide +kernel
theorem dX7_hourOn_169 : decode cX7_hourOn 169 = .ok (.aload_n 0, 1) := by decide +kernel
theorem dX7_hourOn_170 : decode cX7_hourOn 170 = .ok (.iload_n 2, 1) := by decide +kernel
theorem dX7_hourOn_171 : decode cX7_hourOn 171 = .ok (.iload_n 3, 1) := by decide +kernel
theorem dX7_hourOn_172 : decode cX7_hourOn 172 = .ok (.invokevirtual 119, 3) := by decide +kernel
theorem dX7_hourOn_175 : decode cX7_hourOn 175 = .ok (.iinc 1 1, 3) := by decide +kernel
theorem dX7_hourOn_178 : decode cX7_hourOn 178 = .ok (.goto 20, 3) := by decide +kernel
theorem dX7_hourOn_181 : decode cX7_hourOn 181 = .ok (.aload_n 0, 1) := by decide +kernel
theorem dX7_hourOn_182 : decode cX7_hourOn 182 = .ok (.getfield 22, 3) := by decide +kernel
theorem dX7_hourOn_185 : decode cX7_hourOn 185 = .ok (.iload_n 2, 1) := by decide +kernel
theorem dX7_hourOn_186 : decode cX7_hourOn 186 = .ok (.iload_n 3, 1) := by decide +kernel
theorem dX7_hourOn_187 : decode cX7_hourOn 187 = .ok (.invokestatic 70, 3) := by decide +kernel
theorem dX7_hourOn_190 : decode cX7_hourOn 190 = .ok (.dup2, 1) := by decide +kernel
theorem dX7_hourOn_191 : decode cX7_hourOn 191 = .ok (.iaload, 1) := by decide +kernel
theorem dX7_hourOn_192 : decode cX7_hourOn 192 = .ok (.iload 4, 2) := by decide +kernel
theorem dX7_hourOn_194 : decode cX7_hourOn 194 = .ok (.iconst 4, 1) := by decide +kernel
theorem dX7_hourOn_195 : decode cX7_hourOn 195 = .ok (.idiv, 1) := by decide +kernel
theorem dX7_hourOn_196 : decode cX7_hourOn 196 = .ok (.iadd, 1) := by decide +kernel
theorem dX7_hourOn_197 : decode cX7_hourOn 197 = .ok (.iastore, 1) := by decide +kernel
theorem dX7_hourOn_198 : decode cX7_hourOn 198 = .ok (.iinc 3 1, 3) := by decide +kernel
theorem dX7_hourOn_201 : decode cX7_hourOn 201 = .ok (.goto (-86), 3) := by decide +kernel
theorem dX7_hourOn_204 : decode cX7_hourOn 204 = .ok (.iinc 2 1, 3) := by decide +kernel
theorem dX7_hourOn_207 : decode cX7_hourOn 207 = .ok (.goto (-104), 3) := by decide +kernel
theorem dX7_hourOn_210 : decode cX7_hourOn 210 = .ok (.aload_n 0, 1) := by decide +kernel
theorem dX7_hourOn_211 : decode cX7_hourOn 211 = .ok (.invokevirtual 133, 3) := by decide +kernel
theorem dX7_hourOn_214 : decode cX7_hourOn 214 = .ok (.iconst 0, 1) := by decide +kernel
theorem dX7_hourOn_215 : decode cX7_hourOn 215 = .ok (.istore_n 2, 1) := by decide +kernel
theorem dX7_hourOn_216 : decode cX7_hourOn 216 = .ok (.iload_n 2, 1) := by decide +kernel
theorem dX7_hourOn_217 : decode cX7_hourOn 217 = .ok (.aload_n 0, 1) := by decide +kernel
theorem dX7_hourOn_218 : decode cX7_hourOn 218 = .ok (.getfield 51, 3) := by decide +kernel
theorem dX7_hourOn_221 : decode cX7_hourOn 221 = .ok (.if_icmp .ge 183, 3) := by decide +kernel
theorem dX7_hourOn_224 : decode cX7_hourOn 224 = .ok (.aload_n 0, 1) := by decide +kernel
theorem dX7_hourOn_225 : decode cX7_hourOn 225 = .ok (.getfield 31, 3) := by decide +kernel
theorem dX7_hourOn_228 : decode cX7_hourOn 228 = .ok (.iload_n 2, 1) := by decide +kernel
theorem dX7_hourOn_229 : decode cX7_hourOn 229 = .ok (.iaload, 1) := by decide +kernel
theorem dX7_hourOn_230 : decode cX7_hourOn 230 = .ok (.iload_n 2, 1) := by decide +kernel
theorem dX7_hourOn_231 : decode cX7_hourOn 231 = .ok (.if_icmp .eq 6, 3) := by decide +kernel
theorem dX7_hourOn_234 : decode cX7_hourOn 234 = .ok (.goto 164, 3) := by decide +kernel
theorem dX7_hourOn_237 : decode cX7_hourOn 237 = .ok (.iconst 2, 1) := by decide +kernel
theorem dX7_hourOn_238 : decode cX7_hourOn 238 = .ok (.aload_n 0, 1) := by decide +kernel
theorem dX7_hourOn_239 : decode cX7_hourOn 239 = .ok (.iload_n 2, 1) := by decide +kernel
theorem dX7_hourOn_240 : decode cX7_hourOn 240 = .ok (.iconst 2, 1) := by decide +kernel
theorem dX7_hourOn_241 : decode cX7_hourOn 241 = .ok (.invokevirtual 154, 3) := by decide +kernel
theorem dX7_hourOn_244 : decode cX7_hourOn 244 = .ok (.imul, 1) := by decide +kernel
theorem dX7_hourOn_245 : decode cX7_hourOn 245 = .ok (.aload_n 0, 1) := by decide +kernel
theorem dX7_hourOn_246 : decode cX7_hourOn 246 = .ok (.iload_n 2, 1) := by decide +kernel
theorem dX7_hourOn_247 : decode cX7_hourOn 247 = .ok (.iconst 1, 1) := by decide +kernel
theorem dX7_hourOn_248 : decode cX7_hourOn 248 = .ok (.invokevirtual 154, 3) := by decide +kernel
theorem dX7_hourOn_251 : decode cX7_hourOn 251 = .ok (.if_icmp .ge 7, 3) := by decide +kernel
theorem dX7_hourOn_254 : decode cX7_hourOn 254 = .ok (.iconst 1, 1) := by decide +kernel
theorem dX7_hourOn_255 : decode cX7_hourOn 255 = .ok (.goto 4, 3) := by decide +kernel
theorem dX7_hourOn_258 : decode cX7_hourOn 258 = .ok (.iconst 0, 1) := by decide +kernel
theorem dX7_hourOn_259 : decode cX7_hourOn 259 = .ok (.istore_n 3, 1) := by decide +kernel
theorem dX7_hourOn_260 : decode cX7_hourOn 260 = .ok (.aload_n 0, 1) := by decide +kernel
theorem dX7_hourOn_261 : decode cX7_hourOn 261 = .ok (.iload_n 2, 1) := by decide +kernel
theorem dX7_hourOn_262 : decode cX7_hourOn 262 = .ok (.iconst 3, 1) := by decide +kernel
theorem dX7_hourOn_263 : decode cX7_hourOn 263 = .ok (.invokevirtual 58, 3) := by decide +kernel
theorem dX7_hourOn_266 : decode cX7_hourOn 266 = .ok (.istore 4, 2) := by decide +kernel
theorem dX7_hourOn_268 : decode cX7_hourOn 268 = .ok (.aload_n 0, 1) := by decide +kernel
theorem dX7_hourOn_269 : decode cX7_hourOn 269 = .ok (.iload_n 2, 1) := by decide +kernel
theorem dX7_hourOn_270 : decode cX7_hourOn 270 = .ok (.iconst 4, 1) := by decide +kernel
theorem dX7_hourOn_271 : decode cX7_hourOn 271 = .ok (.invokevirtual 58, 3) := by decide +kernel
theorem dX7_hourOn_274 : decode cX7_hourOn 274 = .ok (.istore 5, 2) := by decide +kernel
theorem dX7_hourOn_276 : decode cX7_hourOn 276 = .ok (.iconst 0, 1) := by decide +kernel
theorem dX7_hourOn_277 : decode cX7_hourOn 277 = .ok (.bipush 29, 2) := by decide +kernel
theorem dX7_hourOn_279 : decode cX7_hourOn 279 = .ok (.iload 4, 2) := by decide +kernel
theorem dX7_hourOn_281 : decode cX7_hourOn 281 = .ok (.aload_n 0, 1) := by decide +kernel
theorem dX7_hourOn_282 : decode cX7_hourOn 282 = .ok (.iload 4, 2) := by decide +kernel
theorem dX7_hourOn_284 : decode cX7_hourOn 284 = .ok (.iload 5, 2) := by decide +kernel
theorem dX7_hourOn_286 : decode cX7_hourOn 286 = .ok (.iconst 0, 1) := by decide +kernel
theorem dX7_hourOn_287 : decode cX7_hourOn 287 = .ok (.invokevirtual 89, 3) := by decide +kernel
theorem dX7_hourOn_290 : decode cX7_hourOn 290 = .ok (.iadd, 1) := by decide +kernel
theorem dX7_hourOn_291 : decode cX7_hourOn 291 = .ok (.iload_n 3, 1) := by decide +kernel
theorem dX7_hourOn_292 : decode cX7_hourOn 292 = .ok (.ifCond .eq 10, 3) := by decide +kernel
theorem dX7_hourOn_295 : decode cX7_hourOn 295 = .ok (.aload_n 0, 1) := by decide +kernel
theorem dX7_hourOn_296 : decode cX7_hourOn 296 = .ok (.getfield 97, 3) := by decide +kernel
theorem dX7_hourOn_299 : decode cX7_hourOn 299 = .ok (.goto 4, 3) := by decide +kernel
theorem dX7_hourOn_302 : decode cX7_hourOn 302 = .ok (.iconst 0, 1) := by decide +kernel
theorem dX7_hourOn_303 : decode cX7_hourOn 303 = .ok (.iadd, 1) := by decide +kernel
theorem dX7_hourOn_304 : decode cX7_hourOn 304 = .ok (.invokestatic 62, 3) := by decide +kernel
theorem dX7_hourOn_307 : decode cX7_hourOn 307 = .ok (.invokestatic 67, 3) := by decide +kernel
theorem dX7_hourOn_310 : decode cX7_hourOn 310 = .ok (.istore 6, 2) := by decide +kernel
theorem dX7_hourOn_312 : decode cX7_hourOn 312 = .ok (.iconst 0, 1) := by decide +kernel
theorem dX7_hourOn_313 : decode cX7_hourOn 313 = .ok (.bipush 19, 2) := by decide +kernel
theorem dX7_hourOn_315 : decode cX7_hourOn 315 = .ok (.iload 5, 2) := by decide +kernel
theorem dX7_hourOn_317 : decode cX7_hourOn 317 = .ok (.aload_n 0, 1) := by decide +kernel
theorem dX7_hourOn_318 : decode cX7_hourOn 318 = .ok (.iload 4, 2) := by decide +kernel
theorem dX7_hourOn_320 : decode cX7_hourOn 320 = .ok (.iload 5, 2) := by decide +kernel
theorem dX7_hourOn_322 : decode cX7_hourOn 322 = .ok (.iconst 1, 1) := by decide +kernel
theorem dX7_hourOn_323 : decode cX7_hourOn 323 = .ok (.invokevirtual 89, 3) := by decide +kernel
theorem dX7_hourOn_326 : decode cX7_hourOn 326 = .ok (.iadd, 1) := by decide +kernel
theorem dX7_hourOn_327 : decode cX7_hourOn 327 = .ok (.iload_n 3, 1) := by decide +kernel
theorem dX7_hourOn_328 : decode cX7_hourOn 328 = .ok (.ifCond .eq 10, 3) := by decide +kernel
theorem dX7_hourOn_331 : decode cX7_hourOn 331 = .ok (.aload_n 0, 1) := by decide +kernel
theorem dX7_hourOn_332 : decode cX7_hourOn 332 = .ok (.getfield 100, 3) := by decide +kernel
theorem dX7_hourOn_335 : decode cX7_hourOn 335 = .ok (.goto 4, 3) := by decide +kernel
theorem dX7_hourOn_338 : decode cX7_hourOn 338 = .ok (.iconst 0, 1) := by decide +kernel
theorem dX7_hourOn_339 : decode cX7_hourOn 339 = .ok (.iadd, 1) := by decide +kernel
theorem dX7_hourOn_340 : decode cX7_hourOn 340 = .ok (.invokestatic 62, 3) := by decide +kernel
theorem dX7_hourOn_343 : decode cX7_hourOn 343 = .ok (.invokestatic 67, 3) := by decide +kernel
theorem dX7_hourOn_346 : decode cX7_hourOn 346 = .ok (.istore 7, 2) := by decide +kernel
theorem dX7_hourOn_348 : decode cX7_hourOn 348 = .ok (.iconst 0, 1) := by decide +kernel
theorem dX7_hourOn_349 : decode cX7_hourOn 349 = .ok (.istore 8, 2) := by decide +kernel
theorem dX7_hourOn_351 : decode cX7_hourOn 351 = .ok (.iload 8, 2) := by decide +kernel
theorem dX7_hourOn_353 : decode cX7_hourOn 353 = .ok (.aload_n 0, 1) := by decide +kernel
theorem dX7_hourOn_354 : decode cX7_hourOn 354 = .ok (.getfield 51, 3) := by decide +kernel
theorem dX7_hourOn_357 : decode cX7_hourOn 357 = .ok (.if_icmp .ge 41, 3) := by decide +kernel
theorem dX7_hourOn_360 : decode cX7_hourOn 360 = .ok (.aload_n 0, 1) := by decide +kernel
theorem dX7_hourOn_361 : decode cX7_hourOn 361 = .ok (.getfield 31, 3) := by decide +kernel
theorem dX7_hourOn_364 : decode cX7_hourOn 364 = .ok (.iload 8, 2) := by decide +kernel
theorem dX7_hourOn_366 : decode cX7_hourOn 366 = .ok (.iaload, 1) := by decide +kernel
theorem dX7_hourOn_367 : decode cX7_hourOn 367 = .ok (.iload_n 2, 1) := by decide +kernel
theorem dX7_hourOn_368 : decode cX7_hourOn 368 = .ok (.if_icmp .eq 6, 3) := by decide +kernel
theorem dX7_hourOn_371 : decode cX7_hourOn 371 = .ok (.goto 21, 3) := by decide +kernel
theorem dX7_hourOn_374 : decode cX7_hourOn 374 = .ok (.aload_n 0, 1) := by decide +kernel
theorem dX7_hourOn_375 : decode cX7_hourOn 375 = .ok (.iload 8, 2) := by decide +kernel
theorem dX7_hourOn_377 : decode cX7_hourOn 377 = .ok (.iconst 3, 1) := by decide +kernel
theorem dX7_hourOn_378 : decode cX7_hourOn 378 = .ok (.iload 6, 2) := by decide +kernel
theorem dX7_hourOn_380 : decode cX7_hourOn 380 = .ok (.invokevirtual 123, 3) := by decide +kernel
theorem dX7_hourOn_383 : decode cX7_hourOn 383 = .ok (.aload_n 0, 1) := by decide +kernel
theorem dX7_hourOn_384 : decode cX7_hourOn 384 = .ok (.iload 8, 2) := by decide +kernel
theorem dX7_hourOn_386 : decode cX7_hourOn 386 = .ok (.iconst 4, 1) := by decide +kernel
theorem dX7_hourOn_387 : decode cX7_hourOn 387 = .ok (.iload 7, 2) := by decide +kernel
theorem dX7_hourOn_389 : decode cX7_hourOn 389 = .ok (.invokevirtual 123, 3) := by decide +kernel
theorem dX7_hourOn_392 : decode cX7_hourOn 392 = .ok (.iinc 8 1, 3) := by decide +kernel
theorem dX7_hourOn_395 : decode cX7_hourOn 395 = .ok (.goto (-44), 3) := by decide +kernel
theorem dX7_hourOn_398 : decode cX7_hourOn 398 = .ok (.iinc 2 1, 3) := by decide +kernel
theorem dX7_hourOn_401 : decode cX7_hourOn 401 = .ok (.goto (-185), 3) := by decide +kernel
theorem dX7_hourOn_404 : decode cX7_hourOn 404 = .ok (.iconst 0, 1) := by decide +kernel
theorem dX7_hourOn_405 : decode cX7_hourOn 405 = .ok (.istore_n 2, 1) := by decide +kernel
theorem dX7_hourOn_406 : decode cX7_hourOn 406 = .ok (.iload_n 2, 1) := by decide +kernel
theorem dX7_hourOn_407 : decode cX7_hourOn 407 = .ok (.aload_n 0, 1) := by decide +kernel
theorem dX7_hourOn_408 : decode cX7_hourOn 408 = .ok (.getfield 51, 3) := by decide +kernel
theorem dX7_hourOn_411 : decode cX7_hourOn 411 = .ok (.if_icmp .ge 36, 3) := by decide +kernel
theorem dX7_hourOn_414 : decode cX7_hourOn 414 = .ok (.aload_n 0, 1) := by decide +kernel
theorem dX7_hourOn_415 : decode cX7_hourOn 415 = .ok (.getfield 31, 3) := by decide +kernel
theorem dX7_hourOn_418 : decode cX7_hourOn 418 = .ok (.iload_n 2, 1) := by decide +kernel
theorem dX7_hourOn_419 : decode cX7_hourOn 419 = .ok (.iaload, 1) := by decide +kernel
theorem dX7_hourOn_420 : decode cX7_hourOn 420 = .ok (.iload_n 2, 1) := by decide +kernel
theorem dX7_hourOn_421 : decode cX7_hourOn 421 = .ok (.if_icmp .ne 20, 3) := by decide +kernel
theorem dX7_hourOn_424 : decode cX7_hourOn 424 = .ok (.aload_n 0, 1) := by decide +kernel
theorem dX7_hourOn_425 : decode cX7_hourOn 425 = .ok (.iload_n 2, 1) := by decide +kernel
theorem dX7_hourOn_426 : decode cX7_hourOn 426 = .ok (.iconst 3, 1) := by decide +kernel
theorem dX7_hourOn_427 : decode cX7_hourOn 427 = .ok (.invokevirtual 58, 3) := by decide +kernel
theorem dX7_hourOn_430 : decode cX7_hourOn 430 = .ok (.bipush 29, 2) := by decide +kernel
theorem dX7_hourOn_432 : decode cX7_hourOn 432 = .ok (.if_icmp .ne 9, 3) := by decide +kernel
theorem dX7_hourOn_435 : decode cX7_hourOn 435 = .ok (.aload_n 0, 1) := by decide +kernel
theorem dX7_hourOn_436 : decode cX7_hourOn 436 = .ok (.iload_n 2, 1) := by decide +kernel
theorem dX7_hourOn_437 : decode cX7_hourOn 437 = .ok (.iconst 2, 1) := by decide +kernel
theorem dX7_hourOn_438 : decode cX7_hourOn 438 = .ok (.invokevirtual 157, 3) := by decide +kernel
theorem dX7_hourOn_441 : decode cX7_hourOn 441 = .ok (.iinc 2 1, 3) := by decide +kernel
theorem dX7_hourOn_444 : decode cX7_hourOn 444 = .ok (.goto (-38), 3) := by decide +kernel
theorem dX7_hourOn_447 : decode cX7_hourOn 447 = .ok (.aload_n 0, 1) := by decide +kernel
theorem dX7_hourOn_448 : decode cX7_hourOn 448 = .ok (.getfield 28, 3) := by decide +kernel
theorem dX7_hourOn_451 : decode cX7_hourOn 451 = .ok (.iconst 0, 1) := by decide +kernel
theorem dX7_hourOn_452 : decode cX7_hourOn 452 = .ok (.dup2, 1) := by decide +kernel
theorem dX7_hourOn_453 : decode cX7_hourOn 453 = .ok (.iaload, 1) := by decide +kernel
theorem dX7_hourOn_454 : decode cX7_hourOn 454 = .ok (.iconst 1, 1) := by decide +kernel
theorem dX7_hourOn_455 : decode cX7_hourOn 455 = .ok (.iadd, 1) := by decide +kernel
theorem dX7_hourOn_456 : decode cX7_hourOn 456 = .ok (.iastore, 1) := by decide +kernel
theorem dX7_hourOn_457 : decode cX7_hourOn 457 = .ok (.aload_n 0, 1) := by decide +kernel
theorem dX7_hourOn_458 : decode cX7_hourOn 458 = .ok (.getfield 28, 3) := by decide +kernel
theorem dX7_hourOn_461 : decode cX7_hourOn 461 = .ok (.iconst 2, 1) := by decide +kernel
theorem dX7_hourOn_462 : decode cX7_hourOn 462 = .ok (.dup2, 1) := by decide +kernel
theorem dX7_hourOn_463 : decode cX7_hourOn 463 = .ok (.iaload, 1) := by decide +kernel
theorem dX7_hourOn_464 : decode cX7_hourOn 464 = .ok (.iload_n 1, 1) := by decide +kernel
theorem dX7_hourOn_465 : decode cX7_hourOn 465 = .ok (.iadd, 1) := by decide +kernel
theorem dX7_hourOn_466 : decode cX7_hourOn 466 = .ok (.iastore, 1) := by decide +kernel
theorem dX7_hourOn_467 : decode cX7_hourOn 467 = .ok (.iload_n 1, 1) := by decide +kernel
theorem dX7_hourOn_468 : decode cX7_hourOn 468 = .ok (.ireturn, 1) := by decide +kernel
set_option maxRecDepth 20000 in
theorem ggX7_pass_X7_isIn : GoodIn wsX7_pass wsX7_isIn := goodIn_r _ [5] (by decide +kernel) (by decide +kernel)
set_option maxRecDepth 20000 in
theorem gX7_pass_X7_isIn : GoodIn wsX7_pass (va_wsS RX7 54 yX7_isIn wsX7_isIn) := goodIn_app (goodIn_of _ (by decide +kernel)) ggX7_pass_X7_isIn
set_option maxRecDepth 20000 in
theorem ggX7_pass_X7_fail : GoodIn wsX7_pass wsX7_fail := goodIn_r _ [9, 1, 100, 101, 102, 103, 104, 105, 106, 107, 108, 109, 110, 111, 112, 113, 114, 115, 116, 117] (by decide +kernel) (by decide +kernel)
set_option maxRecDepth 20000 in
theorem gX7_pass_X7_fail : GoodIn wsX7_pass (wsV RX7 73 RX7 yX7_fail wsX7_fail) := goodIn_app (goodIn_of _ (by decide +kernel)) ggX7_pass_X7_fail
set_option maxRecDepth 20000 in
theorem ggX7_pass_X7_hourOn : GoodIn wsX7_pass wsX7_hourOn := goodIn_r _ [13, 14, 15, 16, 17, 18, 19, 20, 21, 22, 23, 24, 25, 26, 27, 28, 29, 30, 4, 31, 32, 33, 34, 35, 36, 37, 38, 39, 40, 41, 42, 43, 44, 45, 46, 47, 48, 49, 50, 51, 52, 53, 54, 55, 56, 57, 58, 59, 60, 61, 62, 63, 64, 65, 66, 67, 68, 69, 70, 71, 72, 73, 74, 75, 76, 77, 78, 79, 80, 81, 82, 83, 84, 85, 86, 87, 88, 89, 90, 91, 92, 93, 94, 95, 96, 97, 98, 99, 2, 3, 5, 100, 101, 102, 103, 104, 105, 106, 107, 108, 109, 110, 111, 112, 113, 114, 115, 116, 117] (by decide +kernel) (by decide +kernel)
set_option maxRecDepth 20000 in
theorem gX7_pass_X7_hourOn : GoodIn wsX7_pass (wsV RX7 160 RX7 yX7_hourOn wsX7_hourOn) := goodIn_app (goodIn_of _ (by decide +kernel)) ggX7_pass_X7_hourOn
theorem dX7_pass_0 : decode cX7_pass 0 = .ok (.aload_n 0, 1) := by decide +kernel
theorem dX7_pass_1 : decode cX7_pass 1 = .ok (.iconst 0, 1) := by decide +kernel
theorem dX7_pass_2 : decode cX7_pass 2 = .ok (.putfield 47, 3) := by decide +kernel
theorem dX7_pass_5 : decode cX7_pass 5 = .ok (.iload_n 1, 1) := by decide +kernel
theorem dX7_pass_6 : decode cX7_pass 6 = .ok (.iconst 1, 1) := by decide +kernel
theorem dX7_pass_7 : decode cX7_pass 7 = .ok (.bipush 100, 2) := by decide +kernel
theorem dX7_pass_9 : decode cX7_pass 9 = .ok (.invokestatic 54, 3) := by decide +kernel
theorem dX7_pass_12 : decode cX7_pass 12 = .ok (.ifCond .ne 9, 3) := by decide +kernel
theorem dX7_pass_15 : decode cX7_pass 15 = .ok (.aload_n 0, 1) := by decide +kernel
theorem dX7_pass_16 : decode cX7_pass 16 = .ok (.iconst 1, 1) := by decide +kernel
theorem dX7_pass_17 : decode cX7_pass 17 = .ok (.invokevirtual 73, 3) := by decide +kernel
theorem dX7_pass_20 : decode cX7_pass 20 = .ok (.ireturn, 1) := by decide +kernel
theorem dX7_pass_21 : decode cX7_pass 21 = .ok (.iconst 0, 1) := by decide +kernel
theorem dX7_pass_22 : decode cX7_pass 22 = .ok (.istore_n 2, 1) := by decide +kernel
theorem dX7_pass_23 : decode cX7_pass 23 = .ok (.iconst 0, 1) := by decide +kernel
theorem dX7_pass_24 : decode cX7_pass 24 = .ok (.istore_n 3, 1) := by decide +kernel
theorem dX7_pass_25 : decode cX7_pass 25 = .ok (.iload_n 3, 1) := by decide +kernel
theorem dX7_pass_26 : decode cX7_pass 26 = .ok (.iload_n 1, 1) := by decide +kernel
theorem dX7_pass_27 : decode cX7_pass 27 = .ok (.if_icmp .ge 16, 3) := by decide +kernel
theorem dX7_pass_30 : decode cX7_pass 30 = .ok (.iload_n 2, 1) := by decide +kernel
theorem dX7_pass_31 : decode cX7_pass 31 = .ok (.aload_n 0, 1) := by decide +kernel
theorem dX7_pass_32 : decode cX7_pass 32 = .ok (.invokevirtual 160, 3) := by decide +kernel
theorem dX7_pass_35 : decode cX7_pass 35 = .ok (.iadd, 1) := by decide +kernel
theorem dX7_pass_36 : decode cX7_pass 36 = .ok (.istore_n 2, 1) := by decide +kernel
theorem dX7_pass_37 : decode cX7_pass 37 = .ok (.iinc 3 1, 3) := by decide +kernel
theorem dX7_pass_40 : decode cX7_pass 40 = .ok (.goto (-15), 3) := by decide +kernel
theorem dX7_pass_43 : decode cX7_pass 43 = .ok (.iload_n 2, 1) := by decide +kernel
theorem dX7_pass_44 : decode cX7_pass 44 = .ok (.ireturn, 1) := by decide +kernel
set_option maxRecDepth 20000 in
theorem ggX7_withState_X7_ba : GoodIn wsX7_withState wsX7_ba := goodIn_r _ [6, 7, 8, 9, 10, 11, 12, 13, 14, 15, 16, 17, 18, 19, 20, 21, 22, 23, 24, 25] (by decide +kernel) (by decide +kernel)
set_option maxRecDepth 20000 in
theorem gX7_withState_X7_ba : GoodIn wsX7_withState (wsV RX7 58 RX7 yX7_ba wsX7_ba) := goodIn_app (goodIn_of _ (by decide +kernel)) ggX7_withState_X7_ba
theorem dX7_withState_0 : decode cX7_withState 0 = .ok (.iconst 0, 1) := by decide +kernel
theorem dX7_withState_1 : decode cX7_withState 1 = .ok (.istore_n 2, 1) := by decide +kernel
theorem dX7_withState_2 : decode cX7_withState 2 = .ok (.iconst 0, 1) := by decide +kernel
theorem dX7_withState_3 : decode cX7_withState 3 = .ok (.istore_n 3, 1) := by decide +kernel
theorem dX7_withState_4 : decode cX7_withState 4 = .ok (.iload_n 3, 1) := by decide +kernel
theorem dX7_withState_5 : decode cX7_withState 5 = .ok (.aload_n 0, 1) := by decide +kernel
theorem dX7_withState_6 : decode cX7_withState 6 = .ok (.getfield 51, 3) := by decide +kernel
theorem dX7_withState_9 : decode cX7_withState 9 = .ok (.if_icmp .ge 27, 3) := by decide +kernel
theorem dX7_withState_12 : decode cX7_withState 12 = .ok (.iload_n 2, 1) := by decide +kernel
theorem dX7_withState_13 : decode cX7_withState 13 = .ok (.aload_n 0, 1) := by decide +kernel
theorem dX7_withState_14 : decode cX7_withState 14 = .ok (.iload_n 3, 1) := by decide +kernel
theorem dX7_withState_15 : decode cX7_withState 15 = .ok (.iconst 2, 1) := by decide +kernel
theorem dX7_withState_16 : decode cX7_withState 16 = .ok (.invokevirtual 58, 3) := by decide +kernel
theorem dX7_withState_19 : decode cX7_withState 19 = .ok (.iload_n 1, 1) := by decide +kernel
theorem dX7_withState_20 : decode cX7_withState 20 = .ok (.if_icmp .ne 7, 3) := by decide +kernel
theorem dX7_withState_23 : decode cX7_withState 23 = .ok (.iconst 1, 1) := by decide +kernel
theorem dX7_withState_24 : decode cX7_withState 24 = .ok (.goto 4, 3) := by decide +kernel
theorem dX7_withState_27 : decode cX7_withState 27 = .ok (.iconst 0, 1) := by decide +kernel
theorem dX7_withState_28 : decode cX7_withState 28 = .ok (.iadd, 1) := by decide +kernel
theorem dX7_withState_29 : decode cX7_withState 29 = .ok (.istore_n 2, 1) := by decide +kernel
theorem dX7_withState_30 : decode cX7_withState 30 = .ok (.iinc 3 1, 3) := by decide +kernel
theorem dX7_withState_33 : decode cX7_withState 33 = .ok (.goto (-29), 3) := by decide +kernel
theorem dX7_withState_36 : decode cX7_withState 36 = .ok (.iload_n 2, 1) := by decide +kernel
theorem dX7_withState_37 : decode cX7_withState 37 = .ok (.ireturn, 1) := by decide +kernel
theorem dX7_crewWith_0 : decode cX7_crewWith 0 = .ok (.iconst 0, 1) := by decide +kernel
theorem dX7_crewWith_1 : decode cX7_crewWith 1 = .ok (.istore_n 2, 1) := by decide +kernel
theorem dX7_crewWith_2 : decode cX7_crewWith 2 = .ok (.iconst 0, 1) := by decide +kernel
theorem dX7_crewWith_3 : decode cX7_crewWith 3 = .ok (.istore_n 3, 1) := by decide +kernel
theorem dX7_crewWith_4 : decode cX7_crewWith 4 = .ok (.iload_n 3, 1) := by decide +kernel
theorem dX7_crewWith_5 : decode cX7_crewWith 5 = .ok (.aload_n 0, 1) := by decide +kernel
theorem dX7_crewWith_6 : decode cX7_crewWith 6 = .ok (.getfield 127, 3) := by decide +kernel
theorem dX7_crewWith_9 : decode cX7_crewWith 9 = .ok (.if_icmp .ge 31, 3) := by decide +kernel
theorem dX7_crewWith_12 : decode cX7_crewWith 12 = .ok (.iload_n 2, 1) := by decide +kernel
theorem dX7_crewWith_13 : decode cX7_crewWith 13 = .ok (.aload_n 0, 1) := by decide +kernel
theorem dX7_crewWith_14 : decode cX7_crewWith 14 = .ok (.getfield 25, 3) := by decide +kernel
theorem dX7_crewWith_17 : decode cX7_crewWith 17 = .ok (.iconst 2, 1) := by decide +kernel
theorem dX7_crewWith_18 : decode cX7_crewWith 18 = .ok (.iload_n 3, 1) := by decide +kernel
theorem dX7_crewWith_19 : decode cX7_crewWith 19 = .ok (.imul, 1) := by decide +kernel
theorem dX7_crewWith_20 : decode cX7_crewWith 20 = .ok (.iconst 1, 1) := by decide +kernel
theorem dX7_crewWith_21 : decode cX7_crewWith 21 = .ok (.iadd, 1) := by decide +kernel
theorem dX7_crewWith_22 : decode cX7_crewWith 22 = .ok (.iaload, 1) := by decide +kernel
theorem dX7_crewWith_23 : decode cX7_crewWith 23 = .ok (.iload_n 1, 1) := by decide +kernel
theorem dX7_crewWith_24 : decode cX7_crewWith 24 = .ok (.if_icmp .ne 7, 3) := by decide +kernel
theorem dX7_crewWith_27 : decode cX7_crewWith 27 = .ok (.iconst 1, 1) := by decide +kernel
theorem dX7_crewWith_28 : decode cX7_crewWith 28 = .ok (.goto 4, 3) := by decide +kernel
theorem dX7_crewWith_31 : decode cX7_crewWith 31 = .ok (.iconst 0, 1) := by decide +kernel
theorem dX7_crewWith_32 : decode cX7_crewWith 32 = .ok (.iadd, 1) := by decide +kernel
theorem dX7_crewWith_33 : decode cX7_crewWith 33 = .ok (.istore_n 2, 1) := by decide +kernel
theorem dX7_crewWith_34 : decode cX7_crewWith 34 = .ok (.iinc 3 1, 3) := by decide +kernel
theorem dX7_crewWith_37 : decode cX7_crewWith 37 = .ok (.goto (-33), 3) := by decide +kernel
theorem dX7_crewWith_40 : decode cX7_crewWith 40 = .ok (.iload_n 2, 1) := by decide +kernel
theorem dX7_crewWith_41 : decode cX7_crewWith 41 = .ok (.ireturn, 1) := by decide +kernel
set_option maxRecDepth 20000 in
theorem ggX7_counted_X7_withState : GoodIn wsX7_counted wsX7_withState := goodIn_r _ [9, 2, 10, 11, 12, 8, 13, 14, 47, 48, 49, 50, 51, 52, 53, 54, 55, 56, 57, 58, 59, 60, 61, 62, 63, 64] (by decide +kernel) (by decide +kernel)
set_option maxRecDepth 20000 in
theorem gX7_counted_X7_withState : GoodIn wsX7_counted (wsV RX7 164 RX7 yX7_withState wsX7_withState) := goodIn_app (goodIn_of _ (by decide +kernel)) ggX7_counted_X7_withState
set_option maxRecDepth 20000 in
theorem ggX7_counted_X7_crewWith : GoodIn wsX7_counted wsX7_crewWith := goodIn_r _ [18, 3, 19, 47, 48, 49, 50, 51, 52, 53, 54, 55, 56, 57, 58, 59, 60, 61, 62, 63, 64] (by decide +kernel) (by decide +kernel)
set_option maxRecDepth 20000 in
theorem gX7_counted_X7_crewWith : GoodIn wsX7_counted (wsV RX7 167 RX7 yX7_crewWith wsX7_crewWith) := goodIn_app (goodIn_of _ (by decide +kernel)) ggX7_counted_X7_crewWith
set_option maxRecDepth 20000 in
theorem ggX7_counted_X7_tiesOf : GoodIn wsX7_counted wsX7_tiesOf := goodIn_r _ [23, 2, 24, 25, 26, 8, 27, 28, 29, 30, 31, 32, 33, 34, 35, 36, 37, 38, 47, 48, 49, 50, 51, 52, 53, 54, 55, 56, 57, 58, 59, 60, 61, 62, 63, 64] (by decide +kernel) (by decide +kernel)
set_option maxRecDepth 20000 in
theorem gX7_counted_X7_tiesOf : GoodIn wsX7_counted (wsV RX7 136 RX7 yX7_tiesOf wsX7_tiesOf) := goodIn_app (goodIn_of _ (by decide +kernel)) ggX7_counted_X7_tiesOf
set_option maxRecDepth 20000 in
theorem ggX7_counted_X7_name : GoodIn wsX7_counted wsX7_name := goodIn_r _ [42, 2, 4, 32, 33, 34, 35, 43, 44, 45, 8, 46, 10, 11, 12, 13, 14, 24, 25, 26, 27, 28, 29, 30, 31, 36, 37, 38, 47, 48, 49, 50, 51, 52, 53, 54, 55, 56, 57, 58, 59, 60, 61, 62, 63, 64] (by decide +kernel) (by decide +kernel)
set_option maxRecDepth 20000 in
theorem gX7_counted_X7_name : GoodIn wsX7_counted (wsV RX7 133 RX7 yX7_name wsX7_name) := goodIn_app (goodIn_of _ (by decide +kernel)) ggX7_counted_X7_name
set_option maxRecDepth 20000 in
theorem ggX7_counted_X7_ba : GoodIn wsX7_counted wsX7_ba := goodIn_r _ [13, 14, 47, 48, 49, 50, 51, 52, 53, 54, 55, 56, 57, 58, 59, 60, 61, 62, 63, 64] (by decide +kernel) (by decide +kernel)
set_option maxRecDepth 20000 in
theorem gX7_counted_X7_ba : GoodIn wsX7_counted (wsV RX7 58 RX7 yX7_ba wsX7_ba) := goodIn_app (goodIn_of _ (by decide +kernel)) ggX7_counted_X7_ba
theorem dX7_counted_0 : decode cX7_counted 0 = .ok (.iconst 0, 1) := by decide +kernel
theorem dX7_counted_1 : decode cX7_counted 1 = .ok (.istore_n 2, 1) := by decide +kernel
theorem dX7_counted_2 : decode cX7_counted 2 = .ok (.iload_n 1, 1) := by decide +kernel
theorem dX7_counted_3 : decode cX7_counted 3 = .ok (.tableswitch 180 0 10 #[57, 64, 69, 75, 81, 86, 92, 98, 126, 166, 173], 57) := by decide +kernel
theorem dX7_counted_60 : decode cX7_counted 60 = .ok (.aload_n 0, 1) := by decide +kernel
theorem dX7_counted_61 : decode cX7_counted 61 = .ok (.getfield 28, 3) := by decide +kernel
theorem dX7_counted_64 : decode cX7_counted 64 = .ok (.iconst 0, 1) := by decide +kernel
theorem dX7_counted_65 : decode cX7_counted 65 = .ok (.iaload, 1) := by decide +kernel
theorem dX7_counted_66 : decode cX7_counted 66 = .ok (.ireturn, 1) := by decide +kernel
theorem dX7_counted_67 : decode cX7_counted 67 = .ok (.aload_n 0, 1) := by decide +kernel
theorem dX7_counted_68 : decode cX7_counted 68 = .ok (.getfield 51, 3) := by decide +kernel
theorem dX7_counted_71 : decode cX7_counted 71 = .ok (.ireturn, 1) := by decide +kernel
theorem dX7_counted_72 : decode cX7_counted 72 = .ok (.aload_n 0, 1) := by decide +kernel
theorem dX7_counted_73 : decode cX7_counted 73 = .ok (.iconst 0, 1) := by decide +kernel
theorem dX7_counted_74 : decode cX7_counted 74 = .ok (.invokevirtual 164, 3) := by decide +kernel
theorem dX7_counted_77 : decode cX7_counted 77 = .ok (.ireturn, 1) := by decide +kernel
theorem dX7_counted_78 : decode cX7_counted 78 = .ok (.aload_n 0, 1) := by decide +kernel
theorem dX7_counted_79 : decode cX7_counted 79 = .ok (.iconst 2, 1) := by decide +kernel
theorem dX7_counted_80 : decode cX7_counted 80 = .ok (.invokevirtual 164, 3) := by decide +kernel
theorem dX7_counted_83 : decode cX7_counted 83 = .ok (.ireturn, 1) := by decide +kernel
theorem dX7_counted_84 : decode cX7_counted 84 = .ok (.aload_n 0, 1) := by decide +kernel
theorem dX7_counted_85 : decode cX7_counted 85 = .ok (.getfield 127, 3) := by decide +kernel
theorem dX7_counted_88 : decode cX7_counted 88 = .ok (.ireturn, 1) := by decide +kernel
theorem dX7_counted_89 : decode cX7_counted 89 = .ok (.aload_n 0, 1) := by decide +kernel
theorem dX7_counted_90 : decode cX7_counted 90 = .ok (.iconst 0, 1) := by decide +kernel
theorem dX7_counted_91 : decode cX7_counted 91 = .ok (.invokevirtual 167, 3) := by decide +kernel
theorem dX7_counted_94 : decode cX7_counted 94 = .ok (.ireturn, 1) := by decide +kernel
theorem dX7_counted_95 : decode cX7_counted 95 = .ok (.aload_n 0, 1) := by decide +kernel
theorem dX7_counted_96 : decode cX7_counted 96 = .ok (.iconst 2, 1) := by decide +kernel
theorem dX7_counted_97 : decode cX7_counted 97 = .ok (.invokevirtual 167, 3) := by decide +kernel
theorem dX7_counted_100 : decode cX7_counted 100 = .ok (.ireturn, 1) := by decide +kernel
theorem dX7_counted_101 : decode cX7_counted 101 = .ok (.iconst 0, 1) := by decide +kernel
theorem dX7_counted_102 : decode cX7_counted 102 = .ok (.istore_n 3, 1) := by decide +kernel
theorem dX7_counted_103 : decode cX7_counted 103 = .ok (.iload_n 3, 1) := by decide +kernel
theorem dX7_counted_104 : decode cX7_counted 104 = .ok (.aload_n 0, 1) := by decide +kernel
theorem dX7_counted_105 : decode cX7_counted 105 = .ok (.getfield 51, 3) := by decide +kernel
theorem dX7_counted_108 : decode cX7_counted 108 = .ok (.if_icmp .ge 17, 3) := by decide +kernel
theorem dX7_counted_111 : decode cX7_counted 111 = .ok (.iload_n 2, 1) := by decide +kernel
theorem dX7_counted_112 : decode cX7_counted 112 = .ok (.aload_n 0, 1) := by decide +kernel
theorem dX7_counted_113 : decode cX7_counted 113 = .ok (.iload_n 3, 1) := by decide +kernel
theorem dX7_counted_114 : decode cX7_counted 114 = .ok (.invokevirtual 136, 3) := by decide +kernel
theorem dX7_counted_117 : decode cX7_counted 117 = .ok (.iadd, 1) := by decide +kernel
theorem dX7_counted_118 : decode cX7_counted 118 = .ok (.istore_n 2, 1) := by decide +kernel
theorem dX7_counted_119 : decode cX7_counted 119 = .ok (.iinc 3 1, 3) := by decide +kernel
theorem dX7_counted_122 : decode cX7_counted 122 = .ok (.goto (-19), 3) := by decide +kernel
theorem dX7_counted_125 : decode cX7_counted 125 = .ok (.iload_n 2, 1) := by decide +kernel
theorem dX7_counted_126 : decode cX7_counted 126 = .ok (.iconst 2, 1) := by decide +kernel
theorem dX7_counted_127 : decode cX7_counted 127 = .ok (.idiv, 1) := by decide +kernel
theorem dX7_counted_128 : decode cX7_counted 128 = .ok (.ireturn, 1) := by decide +kernel
theorem dX7_counted_129 : decode cX7_counted 129 = .ok (.aload_n 0, 1) := by decide +kernel
theorem dX7_counted_130 : decode cX7_counted 130 = .ok (.invokevirtual 133, 3) := by decide +kernel
theorem dX7_counted_133 : decode cX7_counted 133 = .ok (.iconst 0, 1) := by decide +kernel
theorem dX7_counted_134 : decode cX7_counted 134 = .ok (.istore_n 3, 1) := by decide +kernel
theorem dX7_counted_135 : decode cX7_counted 135 = .ok (.iload_n 3, 1) := by decide +kernel
theorem dX7_counted_136 : decode cX7_counted 136 = .ok (.aload_n 0, 1) := by decide +kernel
theorem dX7_counted_137 : decode cX7_counted 137 = .ok (.getfield 51, 3) := by decide +kernel
theorem dX7_counted_140 : decode cX7_counted 140 = .ok (.if_icmp .ge 27, 3) := by decide +kernel
theorem dX7_counted_143 : decode cX7_counted 143 = .ok (.iload_n 2, 1) := by decide +kernel
theorem dX7_counted_144 : decode cX7_counted 144 = .ok (.aload_n 0, 1) := by decide +kernel
theorem dX7_counted_145 : decode cX7_counted 145 = .ok (.getfield 31, 3) := by decide +kernel
theorem dX7_counted_148 : decode cX7_counted 148 = .ok (.iload_n 3, 1) := by decide +kernel
theorem dX7_counted_149 : decode cX7_counted 149 = .ok (.iaload, 1) := by decide +kernel
theorem dX7_counted_150 : decode cX7_counted 150 = .ok (.iload_n 3, 1) := by decide +kernel
theorem dX7_counted_151 : decode cX7_counted 151 = .ok (.if_icmp .ne 7, 3) := by decide +kernel
theorem dX7_counted_154 : decode cX7_counted 154 = .ok (.iconst 1, 1) := by decide +kernel
theorem dX7_counted_155 : decode cX7_counted 155 = .ok (.goto 4, 3) := by decide +kernel
theorem dX7_counted_158 : decode cX7_counted 158 = .ok (.iconst 0, 1) := by decide +kernel
theorem dX7_counted_159 : decode cX7_counted 159 = .ok (.iadd, 1) := by decide +kernel
theorem dX7_counted_160 : decode cX7_counted 160 = .ok (.istore_n 2, 1) := by decide +kernel
theorem dX7_counted_161 : decode cX7_counted 161 = .ok (.iinc 3 1, 3) := by decide +kernel
theorem dX7_counted_164 : decode cX7_counted 164 = .ok (.goto (-29), 3) := by decide +kernel
theorem dX7_counted_167 : decode cX7_counted 167 = .ok (.iload_n 2, 1) := by decide +kernel
theorem dX7_counted_168 : decode cX7_counted 168 = .ok (.ireturn, 1) := by decide +kernel
theorem dX7_counted_169 : decode cX7_counted 169 = .ok (.aload_n 0, 1) := by decide +kernel
theorem dX7_counted_170 : decode cX7_counted 170 = .ok (.getfield 28, 3) := by decide +kernel
theorem dX7_counted_173 : decode cX7_counted 173 = .ok (.iconst 1, 1) := by decide +kernel
theorem dX7_counted_174 : decode cX7_counted 174 = .ok (.iaload, 1) := by decide +kernel
theorem dX7_counted_175 : decode cX7_counted 175 = .ok (.ireturn, 1) := by decide +kernel
theorem dX7_counted_176 : decode cX7_counted 176 = .ok (.aload_n 0, 1) := by decide +kernel
theorem dX7_counted_177 : decode cX7_counted 177 = .ok (.getfield 28, 3) := by decide +kernel
theorem dX7_counted_180 : decode cX7_counted 180 = .ok (.iconst 2, 1) := by decide +kernel
theorem dX7_counted_181 : decode cX7_counted 181 = .ok (.iaload, 1) := by decide +kernel
theorem dX7_counted_182 : decode cX7_counted 182 = .ok (.ireturn, 1) := by decide +kernel
theorem dX7_counted_183 : decode cX7_counted 183 = .ok (.iconst 0, 1) := by decide +kernel
theorem dX7_counted_184 : decode cX7_counted 184 = .ok (.istore_n 3, 1) := by decide +kernel
theorem dX7_counted_185 : decode cX7_counted 185 = .ok (.iload_n 3, 1) := by decide +kernel
theorem dX7_counted_186 : decode cX7_counted 186 = .ok (.aload_n 0, 1) := by decide +kernel
theorem dX7_counted_187 : decode cX7_counted 187 = .ok (.getfield 51, 3) := by decide +kernel
theorem dX7_counted_190 : decode cX7_counted 190 = .ok (.if_icmp .ge 32, 3) := by decide +kernel
theorem dX7_counted_193 : decode cX7_counted 193 = .ok (.iload_n 2, 1) := by decide +kernel
theorem dX7_counted_194 : decode cX7_counted 194 = .ok (.aload_n 0, 1) := by decide +kernel
theorem dX7_counted_195 : decode cX7_counted 195 = .ok (.iload_n 3, 1) := by decide +kernel
theorem dX7_counted_196 : decode cX7_counted 196 = .ok (.iconst 2, 1) := by decide +kernel
theorem dX7_counted_197 : decode cX7_counted 197 = .ok (.invokevirtual 58, 3) := by decide +kernel
theorem dX7_counted_200 : decode cX7_counted 200 = .ok (.iconst 2, 1) := by decide +kernel
theorem dX7_counted_201 : decode cX7_counted 201 = .ok (.if_icmp .ne 12, 3) := by decide +kernel
theorem dX7_counted_204 : decode cX7_counted 204 = .ok (.aload_n 0, 1) := by decide +kernel
theorem dX7_counted_205 : decode cX7_counted 205 = .ok (.iload_n 3, 1) := by decide +kernel
theorem dX7_counted_206 : decode cX7_counted 206 = .ok (.iconst 1, 1) := by decide +kernel
theorem dX7_counted_207 : decode cX7_counted 207 = .ok (.invokevirtual 58, 3) := by decide +kernel
theorem dX7_counted_210 : decode cX7_counted 210 = .ok (.goto 4, 3) := by decide +kernel
theorem dX7_counted_213 : decode cX7_counted 213 = .ok (.iconst 0, 1) := by decide +kernel
theorem dX7_counted_214 : decode cX7_counted 214 = .ok (.iadd, 1) := by decide +kernel
theorem dX7_counted_215 : decode cX7_counted 215 = .ok (.istore_n 2, 1) := by decide +kernel
theorem dX7_counted_216 : decode cX7_counted 216 = .ok (.iinc 3 1, 3) := by decide +kernel
theorem dX7_counted_219 : decode cX7_counted 219 = .ok (.goto (-34), 3) := by decide +kernel
theorem dX7_counted_222 : decode cX7_counted 222 = .ok (.iload_n 2, 1) := by decide +kernel
theorem dX7_counted_223 : decode cX7_counted 223 = .ok (.ireturn, 1) := by decide +kernel
set_option maxRecDepth 20000 in
theorem ggX7_count_X7_isIn : GoodIn wsX7_count wsX7_isIn := goodIn_r _ [5] (by decide +kernel) (by decide +kernel)
set_option maxRecDepth 20000 in
theorem gX7_count_X7_isIn : GoodIn wsX7_count (va_wsS RX7 54 yX7_isIn wsX7_isIn) := goodIn_app (goodIn_of _ (by decide +kernel)) ggX7_count_X7_isIn
set_option maxRecDepth 20000 in
theorem ggX7_count_X7_counted : GoodIn wsX7_count wsX7_counted := goodIn_r _ [9, 10, 11, 12, 13, 14, 15, 16, 4, 17, 18, 19, 20, 21, 22, 23, 24, 25, 26, 27, 28, 29, 30, 31, 32, 33, 34, 35, 36, 37, 38, 39, 40, 41, 42, 43, 44, 45, 46, 47, 48, 49, 50, 51, 52, 53, 54, 59, 60, 61, 62, 63, 64, 65, 66, 67, 68, 69, 70, 71, 72, 73, 74, 75, 76] (by decide +kernel) (by decide +kernel)
set_option maxRecDepth 20000 in
theorem gX7_count_X7_counted : GoodIn wsX7_count (wsV RX7 170 RX7 yX7_counted wsX7_counted) := goodIn_app (goodIn_of _ (by decide +kernel)) ggX7_count_X7_counted
set_option maxRecDepth 20000 in
theorem ggX7_count_X7_fail : GoodIn wsX7_count wsX7_fail := goodIn_r _ [58, 1, 59, 60, 61, 62, 63, 64, 65, 66, 67, 68, 69, 70, 71, 72, 73, 74, 75, 76] (by decide +kernel) (by decide +kernel)
set_option maxRecDepth 20000 in
theorem gX7_count_X7_fail : GoodIn wsX7_count (wsV RX7 73 RX7 yX7_fail wsX7_fail) := goodIn_app (goodIn_of _ (by decide +kernel)) ggX7_count_X7_fail
theorem dX7_count_0 : decode cX7_count 0 = .ok (.aload_n 0, 1) := by decide +kernel
theorem dX7_count_1 : decode cX7_count 1 = .ok (.iconst 0, 1) := by decide +kernel
theorem dX7_count_2 : decode cX7_count 2 = .ok (.putfield 47, 3) := by decide +kernel
theorem dX7_count_5 : decode cX7_count 5 = .ok (.iload_n 1, 1) := by decide +kernel
theorem dX7_count_6 : decode cX7_count 6 = .ok (.iconst 0, 1) := by decide +kernel
theorem dX7_count_7 : decode cX7_count 7 = .ok (.bipush 11, 2) := by decide +kernel
theorem dX7_count_9 : decode cX7_count 9 = .ok (.invokestatic 54, 3) := by decide +kernel
theorem dX7_count_12 : decode cX7_count 12 = .ok (.ifCond .eq 11, 3) := by decide +kernel
theorem dX7_count_15 : decode cX7_count 15 = .ok (.aload_n 0, 1) := by decide +kernel
theorem dX7_count_16 : decode cX7_count 16 = .ok (.iload_n 1, 1) := by decide +kernel
theorem dX7_count_17 : decode cX7_count 17 = .ok (.invokevirtual 170, 3) := by decide +kernel
theorem dX7_count_20 : decode cX7_count 20 = .ok (.goto 8, 3) := by decide +kernel
theorem dX7_count_23 : decode cX7_count 23 = .ok (.aload_n 0, 1) := by decide +kernel
theorem dX7_count_24 : decode cX7_count 24 = .ok (.iconst 1, 1) := by decide +kernel
theorem dX7_count_25 : decode cX7_count 25 = .ok (.invokevirtual 73, 3) := by decide +kernel
theorem dX7_count_28 : decode cX7_count 28 = .ok (.ireturn, 1) := by decide +kernel
set_option maxRecDepth 20000 in
theorem ggX7_ways_X7_isTied : GoodIn wsX7_ways wsX7_isTied := goodIn_r _ [9, 10, 11, 12, 8, 13, 14, 15, 16, 17, 18, 19, 20, 21, 22, 23, 24, 25, 26, 27, 28, 29, 30, 31, 32, 33, 34, 35, 36, 37, 38] (by decide +kernel) (by decide +kernel)
set_option maxRecDepth 20000 in
theorem gX7_ways_X7_isTied : GoodIn wsX7_ways (wsV RX7 116 RX7 yX7_isTied wsX7_isTied) := goodIn_app (goodIn_of _ (by decide +kernel)) ggX7_ways_X7_isTied
theorem dX7_ways_0 : decode cX7_ways 0 = .ok (.iconst 0, 1) := by decide +kernel
theorem dX7_ways_1 : decode cX7_ways 1 = .ok (.istore_n 3, 1) := by decide +kernel
theorem dX7_ways_2 : decode cX7_ways 2 = .ok (.iconst 0, 1) := by decide +kernel
theorem dX7_ways_3 : decode cX7_ways 3 = .ok (.istore 4, 2) := by decide +kernel
theorem dX7_ways_5 : decode cX7_ways 5 = .ok (.iload 4, 2) := by decide +kernel
theorem dX7_ways_7 : decode cX7_ways 7 = .ok (.sipush 576, 3) := by decide +kernel
theorem dX7_ways_10 : decode cX7_ways 10 = .ok (.if_icmp .ge 17, 3) := by decide +kernel
theorem dX7_ways_13 : decode cX7_ways 13 = .ok (.aload_n 0, 1) := by decide +kernel
theorem dX7_ways_14 : decode cX7_ways 14 = .ok (.getfield 34, 3) := by decide +kernel
theorem dX7_ways_17 : decode cX7_ways 17 = .ok (.iload 4, 2) := by decide +kernel
theorem dX7_ways_19 : decode cX7_ways 19 = .ok (.iconst 0, 1) := by decide +kernel
theorem dX7_ways_20 : decode cX7_ways 20 = .ok (.bastore, 1) := by decide +kernel
theorem dX7_ways_21 : decode cX7_ways 21 = .ok (.iinc 4 1, 3) := by decide +kernel
theorem dX7_ways_24 : decode cX7_ways 24 = .ok (.goto (-19), 3) := by decide +kernel
theorem dX7_ways_27 : decode cX7_ways 27 = .ok (.iconst 0, 1) := by decide +kernel
theorem dX7_ways_28 : decode cX7_ways 28 = .ok (.istore 4, 2) := by decide +kernel
theorem dX7_ways_30 : decode cX7_ways 30 = .ok (.iload 4, 2) := by decide +kernel
theorem dX7_ways_32 : decode cX7_ways 32 = .ok (.bipush 24, 2) := by decide +kernel
theorem dX7_ways_34 : decode cX7_ways 34 = .ok (.if_icmp .ge 17, 3) := by decide +kernel
theorem dX7_ways_37 : decode cX7_ways 37 = .ok (.aload_n 0, 1) := by decide +kernel
theorem dX7_ways_38 : decode cX7_ways 38 = .ok (.getfield 38, 3) := by decide +kernel
theorem dX7_ways_41 : decode cX7_ways 41 = .ok (.iload 4, 2) := by decide +kernel
theorem dX7_ways_43 : decode cX7_ways 43 = .ok (.iconst (-1), 1) := by decide +kernel
theorem dX7_ways_44 : decode cX7_ways 44 = .ok (.iastore, 1) := by decide +kernel
theorem dX7_ways_45 : decode cX7_ways 45 = .ok (.iinc 4 1, 3) := by decide +kernel
theorem dX7_ways_48 : decode cX7_ways 48 = .ok (.goto (-18), 3) := by decide +kernel
theorem dX7_ways_51 : decode cX7_ways 51 = .ok (.aload_n 0, 1) := by decide +kernel
theorem dX7_ways_52 : decode cX7_ways 52 = .ok (.getfield 38, 3) := by decide +kernel
theorem dX7_ways_55 : decode cX7_ways 55 = .ok (.iload_n 1, 1) := by decide +kernel
theorem dX7_ways_56 : decode cX7_ways 56 = .ok (.iload_n 1, 1) := by decide +kernel
theorem dX7_ways_57 : decode cX7_ways 57 = .ok (.iastore, 1) := by decide +kernel
theorem dX7_ways_58 : decode cX7_ways 58 = .ok (.aload_n 0, 1) := by decide +kernel
theorem dX7_ways_59 : decode cX7_ways 59 = .ok (.getfield 41, 3) := by decide +kernel
theorem dX7_ways_62 : decode cX7_ways 62 = .ok (.iconst 0, 1) := by decide +kernel
theorem dX7_ways_63 : decode cX7_ways 63 = .ok (.iload_n 1, 1) := by decide +kernel
theorem dX7_ways_64 : decode cX7_ways 64 = .ok (.iastore, 1) := by decide +kernel
theorem dX7_ways_65 : decode cX7_ways 65 = .ok (.iconst 1, 1) := by decide +kernel
theorem dX7_ways_66 : decode cX7_ways 66 = .ok (.istore 4, 2) := by decide +kernel
theorem dX7_ways_68 : decode cX7_ways 68 = .ok (.iconst 0, 1) := by decide +kernel
theorem dX7_ways_69 : decode cX7_ways 69 = .ok (.istore 5, 2) := by decide +kernel
theorem dX7_ways_71 : decode cX7_ways 71 = .ok (.iload 5, 2) := by decide +kernel
theorem dX7_ways_73 : decode cX7_ways 73 = .ok (.iload 4, 2) := by decide +kernel
theorem dX7_ways_75 : decode cX7_ways 75 = .ok (.if_icmp .ge 115, 3) := by decide +kernel
theorem dX7_ways_78 : decode cX7_ways 78 = .ok (.aload_n 0, 1) := by decide +kernel
theorem dX7_ways_79 : decode cX7_ways 79 = .ok (.getfield 38, 3) := by decide +kernel
theorem dX7_ways_82 : decode cX7_ways 82 = .ok (.iload_n 2, 1) := by decide +kernel
theorem dX7_ways_83 : decode cX7_ways 83 = .ok (.iaload, 1) := by decide +kernel
theorem dX7_ways_84 : decode cX7_ways 84 = .ok (.iconst (-1), 1) := by decide +kernel
theorem dX7_ways_85 : decode cX7_ways 85 = .ok (.if_icmp .ne 105, 3) := by decide +kernel
theorem dX7_ways_88 : decode cX7_ways 88 = .ok (.aload_n 0, 1) := by decide +kernel
theorem dX7_ways_89 : decode cX7_ways 89 = .ok (.getfield 41, 3) := by decide +kernel
theorem dX7_ways_92 : decode cX7_ways 92 = .ok (.iload 5, 2) := by decide +kernel
theorem dX7_ways_94 : decode cX7_ways 94 = .ok (.iaload, 1) := by decide +kernel
theorem dX7_ways_95 : decode cX7_ways 95 = .ok (.istore 6, 2) := by decide +kernel
theorem dX7_ways_97 : decode cX7_ways 97 = .ok (.iconst 0, 1) := by decide +kernel
theorem dX7_ways_98 : decode cX7_ways 98 = .ok (.istore 7, 2) := by decide +kernel
theorem dX7_ways_100 : decode cX7_ways 100 = .ok (.iload 7, 2) := by decide +kernel
theorem dX7_ways_102 : decode cX7_ways 102 = .ok (.aload_n 0, 1) := by decide +kernel
theorem dX7_ways_103 : decode cX7_ways 103 = .ok (.getfield 51, 3) := by decide +kernel
theorem dX7_ways_106 : decode cX7_ways 106 = .ok (.if_icmp .ge 78, 3) := by decide +kernel
theorem dX7_ways_109 : decode cX7_ways 109 = .ok (.iload 7, 2) := by decide +kernel
theorem dX7_ways_111 : decode cX7_ways 111 = .ok (.iload 6, 2) := by decide +kernel
theorem dX7_ways_113 : decode cX7_ways 113 = .ok (.if_icmp .eq 65, 3) := by decide +kernel
theorem dX7_ways_116 : decode cX7_ways 116 = .ok (.aload_n 0, 1) := by decide +kernel
theorem dX7_ways_117 : decode cX7_ways 117 = .ok (.getfield 38, 3) := by decide +kernel
theorem dX7_ways_120 : decode cX7_ways 120 = .ok (.iload 7, 2) := by decide +kernel
theorem dX7_ways_122 : decode cX7_ways 122 = .ok (.iaload, 1) := by decide +kernel
theorem dX7_ways_123 : decode cX7_ways 123 = .ok (.iconst (-1), 1) := by decide +kernel
theorem dX7_ways_124 : decode cX7_ways 124 = .ok (.if_icmp .ne 54, 3) := by decide +kernel
theorem dX7_ways_127 : decode cX7_ways 127 = .ok (.aload_n 0, 1) := by decide +kernel
theorem dX7_ways_128 : decode cX7_ways 128 = .ok (.iload 6, 2) := by decide +kernel
theorem dX7_ways_130 : decode cX7_ways 130 = .ok (.iload 7, 2) := by decide +kernel
theorem dX7_ways_132 : decode cX7_ways 132 = .ok (.invokevirtual 116, 3) := by decide +kernel
theorem dX7_ways_135 : decode cX7_ways 135 = .ok (.ifCond .eq 43, 3) := by decide +kernel
theorem dX7_ways_138 : decode cX7_ways 138 = .ok (.aload_n 0, 1) := by decide +kernel
theorem dX7_ways_139 : decode cX7_ways 139 = .ok (.getfield 34, 3) := by decide +kernel
theorem dX7_ways_142 : decode cX7_ways 142 = .ok (.bipush 24, 2) := by decide +kernel
theorem dX7_ways_144 : decode cX7_ways 144 = .ok (.iload 6, 2) := by decide +kernel
theorem dX7_ways_146 : decode cX7_ways 146 = .ok (.imul, 1) := by decide +kernel
theorem dX7_ways_147 : decode cX7_ways 147 = .ok (.iload 7, 2) := by decide +kernel
theorem dX7_ways_149 : decode cX7_ways 149 = .ok (.iadd, 1) := by decide +kernel
theorem dX7_ways_150 : decode cX7_ways 150 = .ok (.baload, 1) := by decide +kernel
theorem dX7_ways_151 : decode cX7_ways 151 = .ok (.ifCond .eq 6, 3) := by decide +kernel
theorem dX7_ways_154 : decode cX7_ways 154 = .ok (.goto 24, 3) := by decide +kernel
theorem dX7_ways_157 : decode cX7_ways 157 = .ok (.aload_n 0, 1) := by decide +kernel
theorem dX7_ways_158 : decode cX7_ways 158 = .ok (.getfield 38, 3) := by decide +kernel
theorem dX7_ways_161 : decode cX7_ways 161 = .ok (.iload 7, 2) := by decide +kernel
theorem dX7_ways_163 : decode cX7_ways 163 = .ok (.iload 6, 2) := by decide +kernel
theorem dX7_ways_165 : decode cX7_ways 165 = .ok (.iastore, 1) := by decide +kernel
theorem dX7_ways_166 : decode cX7_ways 166 = .ok (.aload_n 0, 1) := by decide +kernel
theorem dX7_ways_167 : decode cX7_ways 167 = .ok (.getfield 41, 3) := by decide +kernel
theorem dX7_ways_170 : decode cX7_ways 170 = .ok (.iload 4, 2) := by decide +kernel
theorem dX7_ways_172 : decode cX7_ways 172 = .ok (.iload 7, 2) := by decide +kernel
theorem dX7_ways_174 : decode cX7_ways 174 = .ok (.iastore, 1) := by decide +kernel
theorem dX7_ways_175 : decode cX7_ways 175 = .ok (.iinc 4 1, 3) := by decide +kernel
theorem dX7_ways_178 : decode cX7_ways 178 = .ok (.iinc 7 1, 3) := by decide +kernel
theorem dX7_ways_181 : decode cX7_ways 181 = .ok (.goto (-81), 3) := by decide +kernel
theorem dX7_ways_184 : decode cX7_ways 184 = .ok (.iinc 5 1, 3) := by decide +kernel
theorem dX7_ways_187 : decode cX7_ways 187 = .ok (.goto (-116), 3) := by decide +kernel
theorem dX7_ways_190 : decode cX7_ways 190 = .ok (.aload_n 0, 1) := by decide +kernel
theorem dX7_ways_191 : decode cX7_ways 191 = .ok (.getfield 38, 3) := by decide +kernel
theorem dX7_ways_194 : decode cX7_ways 194 = .ok (.iload_n 2, 1) := by decide +kernel
theorem dX7_ways_195 : decode cX7_ways 195 = .ok (.iaload, 1) := by decide +kernel
theorem dX7_ways_196 : decode cX7_ways 196 = .ok (.iconst (-1), 1) := by decide +kernel
theorem dX7_ways_197 : decode cX7_ways 197 = .ok (.if_icmp .ne 5, 3) := by decide +kernel
theorem dX7_ways_200 : decode cX7_ways 200 = .ok (.iload_n 3, 1) := by decide +kernel
theorem dX7_ways_201 : decode cX7_ways 201 = .ok (.ireturn, 1) := by decide +kernel
theorem dX7_ways_202 : decode cX7_ways 202 = .ok (.iload_n 2, 1) := by decide +kernel
theorem dX7_ways_203 : decode cX7_ways 203 = .ok (.istore 5, 2) := by decide +kernel
theorem dX7_ways_205 : decode cX7_ways 205 = .ok (.iload 5, 2) := by decide +kernel
theorem dX7_ways_207 : decode cX7_ways 207 = .ok (.iload_n 1, 1) := by decide +kernel
theorem dX7_ways_208 : decode cX7_ways 208 = .ok (.if_icmp .eq 77, 3) := by decide +kernel
theorem dX7_ways_211 : decode cX7_ways 211 = .ok (.aload_n 0, 1) := by decide +kernel
theorem dX7_ways_212 : decode cX7_ways 212 = .ok (.getfield 34, 3) := by decide +kernel
theorem dX7_ways_215 : decode cX7_ways 215 = .ok (.bipush 24, 2) := by decide +kernel
theorem dX7_ways_217 : decode cX7_ways 217 = .ok (.iload 5, 2) := by decide +kernel
theorem dX7_ways_219 : decode cX7_ways 219 = .ok (.imul, 1) := by decide +kernel
theorem dX7_ways_220 : decode cX7_ways 220 = .ok (.aload_n 0, 1) := by decide +kernel
theorem dX7_ways_221 : decode cX7_ways 221 = .ok (.getfield 38, 3) := by decide +kernel
theorem dX7_ways_224 : decode cX7_ways 224 = .ok (.iload 5, 2) := by decide +kernel
theorem dX7_ways_226 : decode cX7_ways 226 = .ok (.iaload, 1) := by decide +kernel
theorem dX7_ways_227 : decode cX7_ways 227 = .ok (.iadd, 1) := by decide +kernel
theorem dX7_ways_228 : decode cX7_ways 228 = .ok (.baload, 1) := by decide +kernel
theorem dX7_ways_229 : decode cX7_ways 229 = .ok (.ifCond .eq 25, 3) := by decide +kernel
theorem dX7_ways_232 : decode cX7_ways 232 = .ok (.aload_n 0, 1) := by decide +kernel
theorem dX7_ways_233 : decode cX7_ways 233 = .ok (.getfield 34, 3) := by decide +kernel
theorem dX7_ways_236 : decode cX7_ways 236 = .ok (.bipush 24, 2) := by decide +kernel
theorem dX7_ways_238 : decode cX7_ways 238 = .ok (.iload 5, 2) := by decide +kernel
theorem dX7_ways_240 : decode cX7_ways 240 = .ok (.imul, 1) := by decide +kernel
theorem dX7_ways_241 : decode cX7_ways 241 = .ok (.aload_n 0, 1) := by decide +kernel
theorem dX7_ways_242 : decode cX7_ways 242 = .ok (.getfield 38, 3) := by decide +kernel
theorem dX7_ways_245 : decode cX7_ways 245 = .ok (.iload 5, 2) := by decide +kernel
theorem dX7_ways_247 : decode cX7_ways 247 = .ok (.iaload, 1) := by decide +kernel
theorem dX7_ways_248 : decode cX7_ways 248 = .ok (.iadd, 1) := by decide +kernel
theorem dX7_ways_249 : decode cX7_ways 249 = .ok (.iconst 0, 1) := by decide +kernel
theorem dX7_ways_250 : decode cX7_ways 250 = .ok (.bastore, 1) := by decide +kernel
theorem dX7_ways_251 : decode cX7_ways 251 = .ok (.goto 22, 3) := by decide +kernel
theorem dX7_ways_254 : decode cX7_ways 254 = .ok (.aload_n 0, 1) := by decide +kernel
theorem dX7_ways_255 : decode cX7_ways 255 = .ok (.getfield 34, 3) := by decide +kernel
theorem dX7_ways_258 : decode cX7_ways 258 = .ok (.bipush 24, 2) := by decide +kernel
theorem dX7_ways_260 : decode cX7_ways 260 = .ok (.aload_n 0, 1) := by decide +kernel
theorem dX7_ways_261 : decode cX7_ways 261 = .ok (.getfield 38, 3) := by decide +kernel
theorem dX7_ways_264 : decode cX7_ways 264 = .ok (.iload 5, 2) := by decide +kernel
theorem dX7_ways_266 : decode cX7_ways 266 = .ok (.iaload, 1) := by decide +kernel
theorem dX7_ways_267 : decode cX7_ways 267 = .ok (.imul, 1) := by decide +kernel
theorem dX7_ways_268 : decode cX7_ways 268 = .ok (.iload 5, 2) := by decide +kernel
theorem dX7_ways_270 : decode cX7_ways 270 = .ok (.iadd, 1) := by decide +kernel
theorem dX7_ways_271 : decode cX7_ways 271 = .ok (.iconst 1, 1) := by decide +kernel
theorem dX7_ways_272 : decode cX7_ways 272 = .ok (.bastore, 1) := by decide +kernel
theorem dX7_ways_273 : decode cX7_ways 273 = .ok (.aload_n 0, 1) := by decide +kernel
theorem dX7_ways_274 : decode cX7_ways 274 = .ok (.getfield 38, 3) := by decide +kernel
theorem dX7_ways_277 : decode cX7_ways 277 = .ok (.iload 5, 2) := by decide +kernel
theorem dX7_ways_279 : decode cX7_ways 279 = .ok (.iaload, 1) := by decide +kernel
theorem dX7_ways_280 : decode cX7_ways 280 = .ok (.istore 5, 2) := by decide +kernel
theorem dX7_ways_282 : decode cX7_ways 282 = .ok (.goto (-77), 3) := by decide +kernel
theorem dX7_ways_285 : decode cX7_ways 285 = .ok (.iinc 3 1, 3) := by decide +kernel
theorem dX7_ways_288 : decode cX7_ways 288 = .ok (.goto (-261), 3) := by decide +kernel
set_option maxRecDepth 20000 in
theorem ggX7_firm_X7_isBarrel : GoodIn wsX7_firm wsX7_isBarrel := goodIn_r _ [6, 7, 8, 9, 5, 10, 37, 38, 39, 40, 41, 42, 43, 44, 45, 46, 47, 48, 49, 50, 51, 52, 53, 54] (by decide +kernel) (by decide +kernel)
set_option maxRecDepth 20000 in
theorem gX7_firm_X7_isBarrel : GoodIn wsX7_firm (wsV RX7 109 RX7 yX7_isBarrel wsX7_isBarrel) := goodIn_app (goodIn_of _ (by decide +kernel)) ggX7_firm_X7_isBarrel
set_option maxRecDepth 20000 in
theorem ggX7_firm_X7_fail : GoodIn wsX7_firm wsX7_fail := goodIn_r _ [14, 1, 37, 38, 39, 40, 41, 42, 43, 44, 45, 46, 47, 48, 49, 50, 51, 52, 53, 54] (by decide +kernel) (by decide +kernel)
set_option maxRecDepth 20000 in
theorem gX7_firm_X7_fail : GoodIn wsX7_firm (wsV RX7 73 RX7 yX7_fail wsX7_fail) := goodIn_app (goodIn_of _ (by decide +kernel)) ggX7_firm_X7_fail
set_option maxRecDepth 20000 in
theorem ggX7_firm_X7_ways : GoodIn wsX7_firm wsX7_ways := goodIn_r _ [18, 19, 20, 21, 7, 22, 23, 24, 5, 25, 26, 27, 28, 29, 30, 31, 32, 33, 34, 35, 36, 37, 38, 39, 40, 41, 42, 43, 44, 45, 46, 47, 48, 49, 50, 51, 52, 53, 54] (by decide +kernel) (by decide +kernel)
set_option maxRecDepth 20000 in
theorem gX7_firm_X7_ways : GoodIn wsX7_firm (wsV RX7 173 RX7 yX7_ways wsX7_ways) := goodIn_app (goodIn_of _ (by decide +kernel)) ggX7_firm_X7_ways
theorem dX7_firm_0 : decode cX7_firm 0 = .ok (.aload_n 0, 1) := by decide +kernel
theorem dX7_firm_1 : decode cX7_firm 1 = .ok (.iconst 0, 1) := by decide +kernel
theorem dX7_firm_2 : decode cX7_firm 2 = .ok (.putfield 47, 3) := by decide +kernel
theorem dX7_firm_5 : decode cX7_firm 5 = .ok (.aload_n 0, 1) := by decide +kernel
theorem dX7_firm_6 : decode cX7_firm 6 = .ok (.iload_n 1, 1) := by decide +kernel
theorem dX7_firm_7 : decode cX7_firm 7 = .ok (.invokevirtual 109, 3) := by decide +kernel
theorem dX7_firm_10 : decode cX7_firm 10 = .ok (.ifCond .eq 11, 3) := by decide +kernel
theorem dX7_firm_13 : decode cX7_firm 13 = .ok (.aload_n 0, 1) := by decide +kernel
theorem dX7_firm_14 : decode cX7_firm 14 = .ok (.iload_n 2, 1) := by decide +kernel
theorem dX7_firm_15 : decode cX7_firm 15 = .ok (.invokevirtual 109, 3) := by decide +kernel
theorem dX7_firm_18 : decode cX7_firm 18 = .ok (.ifCond .ne 9, 3) := by decide +kernel
theorem dX7_firm_21 : decode cX7_firm 21 = .ok (.aload_n 0, 1) := by decide +kernel
theorem dX7_firm_22 : decode cX7_firm 22 = .ok (.iconst 1, 1) := by decide +kernel
theorem dX7_firm_23 : decode cX7_firm 23 = .ok (.invokevirtual 73, 3) := by decide +kernel
theorem dX7_firm_26 : decode cX7_firm 26 = .ok (.ireturn, 1) := by decide +kernel
theorem dX7_firm_27 : decode cX7_firm 27 = .ok (.iload_n 1, 1) := by decide +kernel
theorem dX7_firm_28 : decode cX7_firm 28 = .ok (.iload_n 2, 1) := by decide +kernel
theorem dX7_firm_29 : decode cX7_firm 29 = .ok (.if_icmp .ne 7, 3) := by decide +kernel
theorem dX7_firm_32 : decode cX7_firm 32 = .ok (.iconst (-1), 1) := by decide +kernel
theorem dX7_firm_33 : decode cX7_firm 33 = .ok (.goto 9, 3) := by decide +kernel
theorem dX7_firm_36 : decode cX7_firm 36 = .ok (.aload_n 0, 1) := by decide +kernel
theorem dX7_firm_37 : decode cX7_firm 37 = .ok (.iload_n 1, 1) := by decide +kernel
theorem dX7_firm_38 : decode cX7_firm 38 = .ok (.iload_n 2, 1) := by decide +kernel
theorem dX7_firm_39 : decode cX7_firm 39 = .ok (.invokevirtual 173, 3) := by decide +kernel
theorem dX7_firm_42 : decode cX7_firm 42 = .ok (.ireturn, 1) := by decide +kernel
set_option maxRecDepth 20000 in
theorem ggX7_isReached_X7_pair : GoodIn wsX7_isReached wsX7_pair := goodIn_r _ [8, 9, 10, 11, 12, 13, 14, 15] (by decide +kernel) (by decide +kernel)
