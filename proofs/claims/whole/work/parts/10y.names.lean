set_option maxRecDepth 20000 in
theorem gX7_isReached_X7_pair : GoodIn wsX7_isReached (va_wsS RX7 70 yX7_pair wsX7_pair) := goodIn_app (goodIn_of _ (by decide +kernel)) ggX7_isReached_X7_pair
set_option maxRecDepth 20000 in
theorem ggX7_isReached_X7_isTied : GoodIn wsX7_isReached wsX7_isTied := goodIn_r _ [19, 3, 5, 6, 7, 8, 9, 10, 11, 12, 13, 14, 15, 20, 21, 22, 23, 24, 25, 26, 27, 28, 29, 30, 31, 32, 33, 34, 35, 36, 37] (by decide +kernel) (by decide +kernel)
set_option maxRecDepth 20000 in
theorem gX7_isReached_X7_isTied : GoodIn wsX7_isReached (wsV RX7 116 RX7 yX7_isTied wsX7_isTied) := goodIn_app (goodIn_of _ (by decide +kernel)) ggX7_isReached_X7_isTied
theorem dX7_isReached_0 : decode cX7_isReached 0 = .ok (.iconst 0, 1) := by decide +kernel
theorem dX7_isReached_1 : decode cX7_isReached 1 = .ok (.istore 5, 2) := by decide +kernel
theorem dX7_isReached_3 : decode cX7_isReached 3 = .ok (.iload 5, 2) := by decide +kernel
theorem dX7_isReached_5 : decode cX7_isReached 5 = .ok (.bipush 24, 2) := by decide +kernel
theorem dX7_isReached_7 : decode cX7_isReached 7 = .ok (.if_icmp .ge 27, 3) := by decide +kernel
theorem dX7_isReached_10 : decode cX7_isReached 10 = .ok (.aload_n 0, 1) := by decide +kernel
theorem dX7_isReached_11 : decode cX7_isReached 11 = .ok (.getfield 44, 3) := by decide +kernel
theorem dX7_isReached_14 : decode cX7_isReached 14 = .ok (.iload 5, 2) := by decide +kernel
theorem dX7_isReached_16 : decode cX7_isReached 16 = .ok (.iload 5, 2) := by decide +kernel
theorem dX7_isReached_18 : decode cX7_isReached 18 = .ok (.iload_n 1, 1) := by decide +kernel
theorem dX7_isReached_19 : decode cX7_isReached 19 = .ok (.if_icmp .ne 7, 3) := by decide +kernel
theorem dX7_isReached_22 : decode cX7_isReached 22 = .ok (.iconst 1, 1) := by decide +kernel
theorem dX7_isReached_23 : decode cX7_isReached 23 = .ok (.goto 4, 3) := by decide +kernel
theorem dX7_isReached_26 : decode cX7_isReached 26 = .ok (.iconst 0, 1) := by decide +kernel
theorem dX7_isReached_27 : decode cX7_isReached 27 = .ok (.bastore, 1) := by decide +kernel
theorem dX7_isReached_28 : decode cX7_isReached 28 = .ok (.iinc 5 1, 3) := by decide +kernel
theorem dX7_isReached_31 : decode cX7_isReached 31 = .ok (.goto (-28), 3) := by decide +kernel
theorem dX7_isReached_34 : decode cX7_isReached 34 = .ok (.iconst 1, 1) := by decide +kernel
theorem dX7_isReached_35 : decode cX7_isReached 35 = .ok (.istore 5, 2) := by decide +kernel
theorem dX7_isReached_37 : decode cX7_isReached 37 = .ok (.iload 5, 2) := by decide +kernel
theorem dX7_isReached_39 : decode cX7_isReached 39 = .ok (.ifCond .eq 132, 3) := by decide +kernel
theorem dX7_isReached_42 : decode cX7_isReached 42 = .ok (.iconst 0, 1) := by decide +kernel
theorem dX7_isReached_43 : decode cX7_isReached 43 = .ok (.istore 5, 2) := by decide +kernel
theorem dX7_isReached_45 : decode cX7_isReached 45 = .ok (.iconst 0, 1) := by decide +kernel
theorem dX7_isReached_46 : decode cX7_isReached 46 = .ok (.istore 6, 2) := by decide +kernel
theorem dX7_isReached_48 : decode cX7_isReached 48 = .ok (.iload 6, 2) := by decide +kernel
theorem dX7_isReached_50 : decode cX7_isReached 50 = .ok (.aload_n 0, 1) := by decide +kernel
theorem dX7_isReached_51 : decode cX7_isReached 51 = .ok (.getfield 51, 3) := by decide +kernel
theorem dX7_isReached_54 : decode cX7_isReached 54 = .ok (.if_icmp .ge 114, 3) := by decide +kernel
theorem dX7_isReached_57 : decode cX7_isReached 57 = .ok (.iconst 0, 1) := by decide +kernel
theorem dX7_isReached_58 : decode cX7_isReached 58 = .ok (.istore 7, 2) := by decide +kernel
theorem dX7_isReached_60 : decode cX7_isReached 60 = .ok (.iload 7, 2) := by decide +kernel
theorem dX7_isReached_62 : decode cX7_isReached 62 = .ok (.aload_n 0, 1) := by decide +kernel
theorem dX7_isReached_63 : decode cX7_isReached 63 = .ok (.getfield 51, 3) := by decide +kernel
theorem dX7_isReached_66 : decode cX7_isReached 66 = .ok (.if_icmp .ge 96, 3) := by decide +kernel
theorem dX7_isReached_69 : decode cX7_isReached 69 = .ok (.aload_n 0, 1) := by decide +kernel
theorem dX7_isReached_70 : decode cX7_isReached 70 = .ok (.getfield 44, 3) := by decide +kernel
theorem dX7_isReached_73 : decode cX7_isReached 73 = .ok (.iload 6, 2) := by decide +kernel
theorem dX7_isReached_75 : decode cX7_isReached 75 = .ok (.baload, 1) := by decide +kernel
theorem dX7_isReached_76 : decode cX7_isReached 76 = .ok (.ifCond .eq 86, 3) := by decide +kernel
theorem dX7_isReached_79 : decode cX7_isReached 79 = .ok (.iload 6, 2) := by decide +kernel
theorem dX7_isReached_81 : decode cX7_isReached 81 = .ok (.iload 7, 2) := by decide +kernel
theorem dX7_isReached_83 : decode cX7_isReached 83 = .ok (.invokestatic 70, 3) := by decide +kernel
theorem dX7_isReached_86 : decode cX7_isReached 86 = .ok (.istore 8, 2) := by decide +kernel
theorem dX7_isReached_88 : decode cX7_isReached 88 = .ok (.iload 7, 2) := by decide +kernel
theorem dX7_isReached_90 : decode cX7_isReached 90 = .ok (.iload 6, 2) := by decide +kernel
theorem dX7_isReached_92 : decode cX7_isReached 92 = .ok (.if_icmp .eq 64, 3) := by decide +kernel
theorem dX7_isReached_95 : decode cX7_isReached 95 = .ok (.aload_n 0, 1) := by decide +kernel
theorem dX7_isReached_96 : decode cX7_isReached 96 = .ok (.getfield 44, 3) := by decide +kernel
theorem dX7_isReached_99 : decode cX7_isReached 99 = .ok (.iload 7, 2) := by decide +kernel
theorem dX7_isReached_101 : decode cX7_isReached 101 = .ok (.baload, 1) := by decide +kernel
theorem dX7_isReached_102 : decode cX7_isReached 102 = .ok (.ifCond .ne 54, 3) := by decide +kernel
theorem dX7_isReached_105 : decode cX7_isReached 105 = .ok (.aload_n 0, 1) := by decide +kernel
theorem dX7_isReached_106 : decode cX7_isReached 106 = .ok (.iload 6, 2) := by decide +kernel
theorem dX7_isReached_108 : decode cX7_isReached 108 = .ok (.iload 7, 2) := by decide +kernel
theorem dX7_isReached_110 : decode cX7_isReached 110 = .ok (.invokevirtual 116, 3) := by decide +kernel
theorem dX7_isReached_113 : decode cX7_isReached 113 = .ok (.ifCond .eq 43, 3) := by decide +kernel
theorem dX7_isReached_116 : decode cX7_isReached 116 = .ok (.iload 8, 2) := by decide +kernel
theorem dX7_isReached_118 : decode cX7_isReached 118 = .ok (.iload 4, 2) := by decide +kernel
theorem dX7_isReached_120 : decode cX7_isReached 120 = .ok (.if_icmp .eq 36, 3) := by decide +kernel
theorem dX7_isReached_123 : decode cX7_isReached 123 = .ok (.aload_n 0, 1) := by decide +kernel
theorem dX7_isReached_124 : decode cX7_isReached 124 = .ok (.getfield 19, 3) := by decide +kernel
theorem dX7_isReached_127 : decode cX7_isReached 127 = .ok (.iload 8, 2) := by decide +kernel
theorem dX7_isReached_129 : decode cX7_isReached 129 = .ok (.iaload, 1) := by decide +kernel
theorem dX7_isReached_130 : decode cX7_isReached 130 = .ok (.aload_n 0, 1) := by decide +kernel
theorem dX7_isReached_131 : decode cX7_isReached 131 = .ok (.getfield 22, 3) := by decide +kernel
theorem dX7_isReached_134 : decode cX7_isReached 134 = .ok (.iload 8, 2) := by decide +kernel
theorem dX7_isReached_136 : decode cX7_isReached 136 = .ok (.iaload, 1) := by decide +kernel
theorem dX7_isReached_137 : decode cX7_isReached 137 = .ok (.isub, 1) := by decide +kernel
theorem dX7_isReached_138 : decode cX7_isReached 138 = .ok (.iload_n 3, 1) := by decide +kernel
theorem dX7_isReached_139 : decode cX7_isReached 139 = .ok (.if_icmp .ge 6, 3) := by decide +kernel
theorem dX7_isReached_142 : decode cX7_isReached 142 = .ok (.goto 14, 3) := by decide +kernel
theorem dX7_isReached_145 : decode cX7_isReached 145 = .ok (.aload_n 0, 1) := by decide +kernel
theorem dX7_isReached_146 : decode cX7_isReached 146 = .ok (.getfield 44, 3) := by decide +kernel
theorem dX7_isReached_149 : decode cX7_isReached 149 = .ok (.iload 7, 2) := by decide +kernel
theorem dX7_isReached_151 : decode cX7_isReached 151 = .ok (.iconst 1, 1) := by decide +kernel
theorem dX7_isReached_152 : decode cX7_isReached 152 = .ok (.bastore, 1) := by decide +kernel
theorem dX7_isReached_153 : decode cX7_isReached 153 = .ok (.iconst 1, 1) := by decide +kernel
theorem dX7_isReached_154 : decode cX7_isReached 154 = .ok (.istore 5, 2) := by decide +kernel
theorem dX7_isReached_156 : decode cX7_isReached 156 = .ok (.iinc 7 1, 3) := by decide +kernel
theorem dX7_isReached_159 : decode cX7_isReached 159 = .ok (.goto (-99), 3) := by decide +kernel
theorem dX7_isReached_162 : decode cX7_isReached 162 = .ok (.iinc 6 1, 3) := by decide +kernel
theorem dX7_isReached_165 : decode cX7_isReached 165 = .ok (.goto (-117), 3) := by decide +kernel
theorem dX7_isReached_168 : decode cX7_isReached 168 = .ok (.goto (-131), 3) := by decide +kernel
theorem dX7_isReached_171 : decode cX7_isReached 171 = .ok (.aload_n 0, 1) := by decide +kernel
theorem dX7_isReached_172 : decode cX7_isReached 172 = .ok (.getfield 44, 3) := by decide +kernel
theorem dX7_isReached_175 : decode cX7_isReached 175 = .ok (.iload_n 2, 1) := by decide +kernel
theorem dX7_isReached_176 : decode cX7_isReached 176 = .ok (.baload, 1) := by decide +kernel
theorem dX7_isReached_177 : decode cX7_isReached 177 = .ok (.ireturn, 1) := by decide +kernel
set_option maxRecDepth 20000 in
theorem ggX7_hold_X7_isBarrel : GoodIn wsX7_hold wsX7_isBarrel := goodIn_r _ [6, 7, 8, 9, 5, 10, 36, 37, 38, 39, 40, 41, 42, 43, 44, 45, 46, 47, 48, 49, 50, 51, 52, 53] (by decide +kernel) (by decide +kernel)
set_option maxRecDepth 20000 in
theorem gX7_hold_X7_isBarrel : GoodIn wsX7_hold (wsV RX7 109 RX7 yX7_isBarrel wsX7_isBarrel) := goodIn_app (goodIn_of _ (by decide +kernel)) ggX7_hold_X7_isBarrel
set_option maxRecDepth 20000 in
theorem ggX7_hold_X7_fail : GoodIn wsX7_hold wsX7_fail := goodIn_r _ [14, 1, 36, 37, 38, 39, 40, 41, 42, 43, 44, 45, 46, 47, 48, 49, 50, 51, 52, 53] (by decide +kernel) (by decide +kernel)
set_option maxRecDepth 20000 in
theorem gX7_hold_X7_fail : GoodIn wsX7_hold (wsV RX7 73 RX7 yX7_fail wsX7_fail) := goodIn_app (goodIn_of _ (by decide +kernel)) ggX7_hold_X7_fail
set_option maxRecDepth 20000 in
theorem ggX7_hold_X7_isReached : GoodIn wsX7_hold wsX7_isReached := goodIn_r _ [18, 19, 7, 20, 21, 22, 23, 5, 24, 25, 26, 27, 28, 29, 30, 31, 32, 33, 34, 35, 36, 37, 38, 39, 40, 41, 42, 43, 44, 45, 46, 47, 48, 49, 50, 51, 52, 53] (by decide +kernel) (by decide +kernel)
set_option maxRecDepth 20000 in
theorem gX7_hold_X7_isReached : GoodIn wsX7_hold (wsV RX7 176 RX7 yX7_isReached wsX7_isReached) := goodIn_app (goodIn_of _ (by decide +kernel)) ggX7_hold_X7_isReached
theorem dX7_hold_0 : decode cX7_hold 0 = .ok (.aload_n 0, 1) := by decide +kernel
theorem dX7_hold_1 : decode cX7_hold 1 = .ok (.iconst 0, 1) := by decide +kernel
theorem dX7_hold_2 : decode cX7_hold 2 = .ok (.putfield 47, 3) := by decide +kernel
theorem dX7_hold_5 : decode cX7_hold 5 = .ok (.aload_n 0, 1) := by decide +kernel
theorem dX7_hold_6 : decode cX7_hold 6 = .ok (.iload_n 1, 1) := by decide +kernel
theorem dX7_hold_7 : decode cX7_hold 7 = .ok (.invokevirtual 109, 3) := by decide +kernel
theorem dX7_hold_10 : decode cX7_hold 10 = .ok (.ifCond .eq 11, 3) := by decide +kernel
theorem dX7_hold_13 : decode cX7_hold 13 = .ok (.aload_n 0, 1) := by decide +kernel
theorem dX7_hold_14 : decode cX7_hold 14 = .ok (.iload_n 2, 1) := by decide +kernel
theorem dX7_hold_15 : decode cX7_hold 15 = .ok (.invokevirtual 109, 3) := by decide +kernel
theorem dX7_hold_18 : decode cX7_hold 18 = .ok (.ifCond .ne 9, 3) := by decide +kernel
theorem dX7_hold_21 : decode cX7_hold 21 = .ok (.aload_n 0, 1) := by decide +kernel
theorem dX7_hold_22 : decode cX7_hold 22 = .ok (.iconst 1, 1) := by decide +kernel
theorem dX7_hold_23 : decode cX7_hold 23 = .ok (.invokevirtual 73, 3) := by decide +kernel
theorem dX7_hold_26 : decode cX7_hold 26 = .ok (.ireturn, 1) := by decide +kernel
theorem dX7_hold_27 : decode cX7_hold 27 = .ok (.iconst 0, 1) := by decide +kernel
theorem dX7_hold_28 : decode cX7_hold 28 = .ok (.istore_n 3, 1) := by decide +kernel
theorem dX7_hold_29 : decode cX7_hold 29 = .ok (.iload_n 1, 1) := by decide +kernel
theorem dX7_hold_30 : decode cX7_hold 30 = .ok (.iload_n 2, 1) := by decide +kernel
theorem dX7_hold_31 : decode cX7_hold 31 = .ok (.if_icmp .eq 28, 3) := by decide +kernel
theorem dX7_hold_34 : decode cX7_hold 34 = .ok (.iload_n 3, 1) := by decide +kernel
theorem dX7_hold_35 : decode cX7_hold 35 = .ok (.bipush 50, 2) := by decide +kernel
theorem dX7_hold_37 : decode cX7_hold 37 = .ok (.if_icmp .ge 22, 3) := by decide +kernel
theorem dX7_hold_40 : decode cX7_hold 40 = .ok (.aload_n 0, 1) := by decide +kernel
theorem dX7_hold_41 : decode cX7_hold 41 = .ok (.iload_n 1, 1) := by decide +kernel
theorem dX7_hold_42 : decode cX7_hold 42 = .ok (.iload_n 2, 1) := by decide +kernel
theorem dX7_hold_43 : decode cX7_hold 43 = .ok (.iload_n 3, 1) := by decide +kernel
theorem dX7_hold_44 : decode cX7_hold 44 = .ok (.iconst 1, 1) := by decide +kernel
theorem dX7_hold_45 : decode cX7_hold 45 = .ok (.iadd, 1) := by decide +kernel
theorem dX7_hold_46 : decode cX7_hold 46 = .ok (.iconst (-1), 1) := by decide +kernel
theorem dX7_hold_47 : decode cX7_hold 47 = .ok (.invokevirtual 176, 3) := by decide +kernel
theorem dX7_hold_50 : decode cX7_hold 50 = .ok (.ifCond .eq 9, 3) := by decide +kernel
theorem dX7_hold_53 : decode cX7_hold 53 = .ok (.iinc 3 1, 3) := by decide +kernel
theorem dX7_hold_56 : decode cX7_hold 56 = .ok (.goto (-27), 3) := by decide +kernel
theorem dX7_hold_59 : decode cX7_hold 59 = .ok (.iload_n 3, 1) := by decide +kernel
theorem dX7_hold_60 : decode cX7_hold 60 = .ok (.ireturn, 1) := by decide +kernel
set_option maxRecDepth 20000 in
theorem ggX7_piece_X7_isBarrel : GoodIn wsX7_piece wsX7_isBarrel := goodIn_r _ [8, 3, 9, 10, 7, 11, 73, 74, 75, 76, 77, 78, 79, 80, 81, 82, 83, 84, 85, 86, 87, 88, 89, 90] (by decide +kernel) (by decide +kernel)
set_option maxRecDepth 20000 in
theorem gX7_piece_X7_isBarrel : GoodIn wsX7_piece (wsV RX7 109 RX7 yX7_isBarrel wsX7_isBarrel) := goodIn_app (goodIn_of _ (by decide +kernel)) ggX7_piece_X7_isBarrel
set_option maxRecDepth 20000 in
theorem ggX7_piece_X7_isIn : GoodIn wsX7_piece wsX7_isIn := goodIn_r _ [11] (by decide +kernel) (by decide +kernel)
set_option maxRecDepth 20000 in
theorem gX7_piece_X7_isIn : GoodIn wsX7_piece (va_wsS RX7 54 yX7_isIn wsX7_isIn) := goodIn_app (goodIn_of _ (by decide +kernel)) ggX7_piece_X7_isIn
set_option maxRecDepth 20000 in
theorem ggX7_piece_X7_fail : GoodIn wsX7_piece wsX7_fail := goodIn_r _ [15, 1, 73, 74, 75, 76, 77, 78, 79, 80, 81, 82, 83, 84, 85, 86, 87, 88, 89, 90] (by decide +kernel) (by decide +kernel)
set_option maxRecDepth 20000 in
theorem gX7_piece_X7_fail : GoodIn wsX7_piece (wsV RX7 73 RX7 yX7_fail wsX7_fail) := goodIn_app (goodIn_of _ (by decide +kernel)) ggX7_piece_X7_fail
set_option maxRecDepth 20000 in
theorem ggX7_piece_X7_name : GoodIn wsX7_piece wsX7_name := goodIn_r _ [19, 3, 2, 20, 21, 22, 23, 24, 25, 26, 7, 27, 28, 29, 30, 31, 32, 33, 34, 35, 36, 37, 38, 39, 40, 41, 42, 43, 73, 74, 75, 76, 77, 78, 79, 80, 81, 82, 83, 84, 85, 86, 87, 88, 89, 90] (by decide +kernel) (by decide +kernel)
set_option maxRecDepth 20000 in
theorem gX7_piece_X7_name : GoodIn wsX7_piece (wsV RX7 133 RX7 yX7_name wsX7_name) := goodIn_app (goodIn_of _ (by decide +kernel)) ggX7_piece_X7_name
set_option maxRecDepth 20000 in
theorem ggX7_piece_X7_sumIn : GoodIn wsX7_piece wsX7_sumIn := goodIn_r _ [47, 3, 2, 48, 49, 50, 7, 51, 52, 53, 54, 55, 56, 28, 29, 30, 31, 32, 57, 58, 59, 60, 61, 62, 63, 64, 65, 66, 73, 74, 75, 76, 77, 78, 79, 80, 81, 82, 83, 84, 85, 86, 87, 88, 89, 90] (by decide +kernel) (by decide +kernel)
set_option maxRecDepth 20000 in
theorem gX7_piece_X7_sumIn : GoodIn wsX7_piece (wsV RX7 154 RX7 yX7_sumIn wsX7_sumIn) := goodIn_app (goodIn_of _ (by decide +kernel)) ggX7_piece_X7_sumIn
set_option maxRecDepth 20000 in
theorem ggX7_piece_X7_isTied : GoodIn wsX7_piece wsX7_isTied := goodIn_r _ [36, 37, 38, 39, 7, 40, 20, 21, 22, 23, 41, 42, 43, 73, 74, 75, 76, 77, 78, 79, 80, 81, 82, 83, 84, 85, 86, 87, 88, 89, 90] (by decide +kernel) (by decide +kernel)
set_option maxRecDepth 20000 in
theorem gX7_piece_X7_isTied : GoodIn wsX7_piece (wsV RX7 116 RX7 yX7_isTied wsX7_isTied) := goodIn_app (goodIn_of _ (by decide +kernel)) ggX7_piece_X7_isTied
set_option maxRecDepth 20000 in
theorem ggX7_piece_X7_pair : GoodIn wsX7_piece wsX7_pair := goodIn_r _ [40, 20, 21, 22, 23, 41, 42, 43] (by decide +kernel) (by decide +kernel)
set_option maxRecDepth 20000 in
theorem gX7_piece_X7_pair : GoodIn wsX7_piece (va_wsS RX7 70 yX7_pair wsX7_pair) := goodIn_app (goodIn_of _ (by decide +kernel)) ggX7_piece_X7_pair
set_option maxRecDepth 20000 in
theorem ggX7_piece_X7_isReached : GoodIn wsX7_piece wsX7_isReached := goodIn_r _ [70, 71, 3, 37, 72, 38, 39, 7, 40, 20, 21, 22, 23, 41, 42, 43, 33, 34, 35, 36, 73, 74, 75, 76, 77, 78, 79, 80, 81, 82, 83, 84, 85, 86, 87, 88, 89, 90] (by decide +kernel) (by decide +kernel)
set_option maxRecDepth 20000 in
theorem gX7_piece_X7_isReached : GoodIn wsX7_piece (wsV RX7 176 RX7 yX7_isReached wsX7_isReached) := goodIn_app (goodIn_of _ (by decide +kernel)) ggX7_piece_X7_isReached
theorem dX7_piece_0 : decode cX7_piece 0 = .ok (.aload_n 0, 1) := by decide +kernel
theorem dX7_piece_1 : decode cX7_piece 1 = .ok (.iconst 0, 1) := by decide +kernel
theorem dX7_piece_2 : decode cX7_piece 2 = .ok (.putfield 47, 3) := by decide +kernel
theorem dX7_piece_5 : decode cX7_piece 5 = .ok (.aload_n 0, 1) := by decide +kernel
theorem dX7_piece_6 : decode cX7_piece 6 = .ok (.iload_n 1, 1) := by decide +kernel
theorem dX7_piece_7 : decode cX7_piece 7 = .ok (.invokevirtual 109, 3) := by decide +kernel
theorem dX7_piece_10 : decode cX7_piece 10 = .ok (.ifCond .eq 12, 3) := by decide +kernel
theorem dX7_piece_13 : decode cX7_piece 13 = .ok (.iload_n 2, 1) := by decide +kernel
theorem dX7_piece_14 : decode cX7_piece 14 = .ok (.iconst 0, 1) := by decide +kernel
theorem dX7_piece_15 : decode cX7_piece 15 = .ok (.iconst 4, 1) := by decide +kernel
theorem dX7_piece_16 : decode cX7_piece 16 = .ok (.invokestatic 54, 3) := by decide +kernel
theorem dX7_piece_19 : decode cX7_piece 19 = .ok (.ifCond .ne 9, 3) := by decide +kernel
theorem dX7_piece_22 : decode cX7_piece 22 = .ok (.aload_n 0, 1) := by decide +kernel
theorem dX7_piece_23 : decode cX7_piece 23 = .ok (.iconst 1, 1) := by decide +kernel
theorem dX7_piece_24 : decode cX7_piece 24 = .ok (.invokevirtual 73, 3) := by decide +kernel
theorem dX7_piece_27 : decode cX7_piece 27 = .ok (.ireturn, 1) := by decide +kernel
theorem dX7_piece_28 : decode cX7_piece 28 = .ok (.aload_n 0, 1) := by decide +kernel
theorem dX7_piece_29 : decode cX7_piece 29 = .ok (.invokevirtual 133, 3) := by decide +kernel
theorem dX7_piece_32 : decode cX7_piece 32 = .ok (.aload_n 0, 1) := by decide +kernel
theorem dX7_piece_33 : decode cX7_piece 33 = .ok (.getfield 31, 3) := by decide +kernel
theorem dX7_piece_36 : decode cX7_piece 36 = .ok (.iload_n 1, 1) := by decide +kernel
theorem dX7_piece_37 : decode cX7_piece 37 = .ok (.iaload, 1) := by decide +kernel
theorem dX7_piece_38 : decode cX7_piece 38 = .ok (.iconst (-1), 1) := by decide +kernel
theorem dX7_piece_39 : decode cX7_piece 39 = .ok (.if_icmp .ne 5, 3) := by decide +kernel
theorem dX7_piece_42 : decode cX7_piece 42 = .ok (.iconst 0, 1) := by decide +kernel
theorem dX7_piece_43 : decode cX7_piece 43 = .ok (.ireturn, 1) := by decide +kernel
theorem dX7_piece_44 : decode cX7_piece 44 = .ok (.iload_n 2, 1) := by decide +kernel
theorem dX7_piece_45 : decode cX7_piece 45 = .ok (.iconst 4, 1) := by decide +kernel
theorem dX7_piece_46 : decode cX7_piece 46 = .ok (.if_icmp .ge 15, 3) := by decide +kernel
theorem dX7_piece_49 : decode cX7_piece 49 = .ok (.aload_n 0, 1) := by decide +kernel
theorem dX7_piece_50 : decode cX7_piece 50 = .ok (.aload_n 0, 1) := by decide +kernel
theorem dX7_piece_51 : decode cX7_piece 51 = .ok (.getfield 31, 3) := by decide +kernel
theorem dX7_piece_54 : decode cX7_piece 54 = .ok (.iload_n 1, 1) := by decide +kernel
theorem dX7_piece_55 : decode cX7_piece 55 = .ok (.iaload, 1) := by decide +kernel
theorem dX7_piece_56 : decode cX7_piece 56 = .ok (.iload_n 2, 1) := by decide +kernel
theorem dX7_piece_57 : decode cX7_piece 57 = .ok (.invokevirtual 154, 3) := by decide +kernel
theorem dX7_piece_60 : decode cX7_piece 60 = .ok (.ireturn, 1) := by decide +kernel
theorem dX7_piece_61 : decode cX7_piece 61 = .ok (.iconst 0, 1) := by decide +kernel
theorem dX7_piece_62 : decode cX7_piece 62 = .ok (.istore_n 3, 1) := by decide +kernel
theorem dX7_piece_63 : decode cX7_piece 63 = .ok (.iconst 0, 1) := by decide +kernel
theorem dX7_piece_64 : decode cX7_piece 64 = .ok (.istore 4, 2) := by decide +kernel
theorem dX7_piece_66 : decode cX7_piece 66 = .ok (.iload 4, 2) := by decide +kernel
theorem dX7_piece_68 : decode cX7_piece 68 = .ok (.aload_n 0, 1) := by decide +kernel
theorem dX7_piece_69 : decode cX7_piece 69 = .ok (.getfield 51, 3) := by decide +kernel
theorem dX7_piece_72 : decode cX7_piece 72 = .ok (.if_icmp .ge 79, 3) := by decide +kernel
theorem dX7_piece_75 : decode cX7_piece 75 = .ok (.iload 4, 2) := by decide +kernel
theorem dX7_piece_77 : decode cX7_piece 77 = .ok (.iconst 1, 1) := by decide +kernel
theorem dX7_piece_78 : decode cX7_piece 78 = .ok (.iadd, 1) := by decide +kernel
theorem dX7_piece_79 : decode cX7_piece 79 = .ok (.istore 5, 2) := by decide +kernel
theorem dX7_piece_81 : decode cX7_piece 81 = .ok (.iload 5, 2) := by decide +kernel
theorem dX7_piece_83 : decode cX7_piece 83 = .ok (.aload_n 0, 1) := by decide +kernel
theorem dX7_piece_84 : decode cX7_piece 84 = .ok (.getfield 51, 3) := by decide +kernel
theorem dX7_piece_87 : decode cX7_piece 87 = .ok (.if_icmp .ge 58, 3) := by decide +kernel
theorem dX7_piece_90 : decode cX7_piece 90 = .ok (.aload_n 0, 1) := by decide +kernel
theorem dX7_piece_91 : decode cX7_piece 91 = .ok (.getfield 31, 3) := by decide +kernel
theorem dX7_piece_94 : decode cX7_piece 94 = .ok (.iload 4, 2) := by decide +kernel
theorem dX7_piece_96 : decode cX7_piece 96 = .ok (.iaload, 1) := by decide +kernel
theorem dX7_piece_97 : decode cX7_piece 97 = .ok (.aload_n 0, 1) := by decide +kernel
theorem dX7_piece_98 : decode cX7_piece 98 = .ok (.getfield 31, 3) := by decide +kernel
theorem dX7_piece_101 : decode cX7_piece 101 = .ok (.iload_n 1, 1) := by decide +kernel
theorem dX7_piece_102 : decode cX7_piece 102 = .ok (.iaload, 1) := by decide +kernel
theorem dX7_piece_103 : decode cX7_piece 103 = .ok (.if_icmp .ne 36, 3) := by decide +kernel
theorem dX7_piece_106 : decode cX7_piece 106 = .ok (.aload_n 0, 1) := by decide +kernel
theorem dX7_piece_107 : decode cX7_piece 107 = .ok (.iload 4, 2) := by decide +kernel
theorem dX7_piece_109 : decode cX7_piece 109 = .ok (.iload 5, 2) := by decide +kernel
theorem dX7_piece_111 : decode cX7_piece 111 = .ok (.invokevirtual 116, 3) := by decide +kernel
theorem dX7_piece_114 : decode cX7_piece 114 = .ok (.ifCond .eq 25, 3) := by decide +kernel
theorem dX7_piece_117 : decode cX7_piece 117 = .ok (.aload_n 0, 1) := by decide +kernel
theorem dX7_piece_118 : decode cX7_piece 118 = .ok (.iload 4, 2) := by decide +kernel
theorem dX7_piece_120 : decode cX7_piece 120 = .ok (.iload 5, 2) := by decide +kernel
theorem dX7_piece_122 : decode cX7_piece 122 = .ok (.iconst 0, 1) := by decide +kernel
theorem dX7_piece_123 : decode cX7_piece 123 = .ok (.iload 4, 2) := by decide +kernel
theorem dX7_piece_125 : decode cX7_piece 125 = .ok (.iload 5, 2) := by decide +kernel
theorem dX7_piece_127 : decode cX7_piece 127 = .ok (.invokestatic 70, 3) := by decide +kernel
theorem dX7_piece_130 : decode cX7_piece 130 = .ok (.invokevirtual 176, 3) := by decide +kernel
theorem dX7_piece_133 : decode cX7_piece 133 = .ok (.ifCond .ne 6, 3) := by decide +kernel
theorem dX7_piece_136 : decode cX7_piece 136 = .ok (.iinc 3 1, 3) := by decide +kernel
theorem dX7_piece_139 : decode cX7_piece 139 = .ok (.iinc 5 1, 3) := by decide +kernel
theorem dX7_piece_142 : decode cX7_piece 142 = .ok (.goto (-61), 3) := by decide +kernel
theorem dX7_piece_145 : decode cX7_piece 145 = .ok (.iinc 4 1, 3) := by decide +kernel
theorem dX7_piece_148 : decode cX7_piece 148 = .ok (.goto (-82), 3) := by decide +kernel
theorem dX7_piece_151 : decode cX7_piece 151 = .ok (.iload_n 3, 1) := by decide +kernel
theorem dX7_piece_152 : decode cX7_piece 152 = .ok (.ireturn, 1) := by decide +kernel
theorem dX7_kept_0 : decode cX7_kept 0 = .ok (.iconst 5, 1) := by decide +kernel
theorem dX7_kept_1 : decode cX7_kept 1 = .ok (.anewarray 180, 3) := by decide +kernel
theorem dX7_kept_4 : decode cX7_kept 4 = .ok (.dup, 1) := by decide +kernel
theorem dX7_kept_5 : decode cX7_kept 5 = .ok (.iconst 0, 1) := by decide +kernel
theorem dX7_kept_6 : decode cX7_kept 6 = .ok (.aload_n 0, 1) := by decide +kernel
theorem dX7_kept_7 : decode cX7_kept 7 = .ok (.getfield 16, 3) := by decide +kernel
theorem dX7_kept_10 : decode cX7_kept 10 = .ok (.invokevirtual 181, 3) := by decide +kernel
theorem dX7_kept_13 : decode cX7_kept 13 = .ok (.checkcast 180, 3) := by decide +kernel
theorem dX7_kept_16 : decode cX7_kept 16 = .ok (.aastore, 1) := by decide +kernel
theorem dX7_kept_17 : decode cX7_kept 17 = .ok (.dup, 1) := by decide +kernel
theorem dX7_kept_18 : decode cX7_kept 18 = .ok (.iconst 1, 1) := by decide +kernel
theorem dX7_kept_19 : decode cX7_kept 19 = .ok (.aload_n 0, 1) := by decide +kernel
theorem dX7_kept_20 : decode cX7_kept 20 = .ok (.getfield 19, 3) := by decide +kernel
theorem dX7_kept_23 : decode cX7_kept 23 = .ok (.invokevirtual 181, 3) := by decide +kernel
theorem dX7_kept_26 : decode cX7_kept 26 = .ok (.checkcast 180, 3) := by decide +kernel
theorem dX7_kept_29 : decode cX7_kept 29 = .ok (.aastore, 1) := by decide +kernel
theorem dX7_kept_30 : decode cX7_kept 30 = .ok (.dup, 1) := by decide +kernel
theorem dX7_kept_31 : decode cX7_kept 31 = .ok (.iconst 2, 1) := by decide +kernel
theorem dX7_kept_32 : decode cX7_kept 32 = .ok (.aload_n 0, 1) := by decide +kernel
theorem dX7_kept_33 : decode cX7_kept 33 = .ok (.getfield 22, 3) := by decide +kernel
theorem dX7_kept_36 : decode cX7_kept 36 = .ok (.invokevirtual 181, 3) := by decide +kernel
theorem dX7_kept_39 : decode cX7_kept 39 = .ok (.checkcast 180, 3) := by decide +kernel
theorem dX7_kept_42 : decode cX7_kept 42 = .ok (.aastore, 1) := by decide +kernel
theorem dX7_kept_43 : decode cX7_kept 43 = .ok (.dup, 1) := by decide +kernel
theorem dX7_kept_44 : decode cX7_kept 44 = .ok (.iconst 3, 1) := by decide +kernel
theorem dX7_kept_45 : decode cX7_kept 45 = .ok (.aload_n 0, 1) := by decide +kernel
theorem dX7_kept_46 : decode cX7_kept 46 = .ok (.getfield 25, 3) := by decide +kernel
theorem dX7_kept_49 : decode cX7_kept 49 = .ok (.invokevirtual 181, 3) := by decide +kernel
theorem dX7_kept_52 : decode cX7_kept 52 = .ok (.checkcast 180, 3) := by decide +kernel
theorem dX7_kept_55 : decode cX7_kept 55 = .ok (.aastore, 1) := by decide +kernel
theorem dX7_kept_56 : decode cX7_kept 56 = .ok (.dup, 1) := by decide +kernel
theorem dX7_kept_57 : decode cX7_kept 57 = .ok (.iconst 4, 1) := by decide +kernel
theorem dX7_kept_58 : decode cX7_kept 58 = .ok (.aload_n 0, 1) := by decide +kernel
theorem dX7_kept_59 : decode cX7_kept 59 = .ok (.getfield 28, 3) := by decide +kernel
theorem dX7_kept_62 : decode cX7_kept 62 = .ok (.invokevirtual 181, 3) := by decide +kernel
theorem dX7_kept_65 : decode cX7_kept 65 = .ok (.checkcast 180, 3) := by decide +kernel
theorem dX7_kept_68 : decode cX7_kept 68 = .ok (.aastore, 1) := by decide +kernel
theorem dX7_kept_69 : decode cX7_kept 69 = .ok (.areturn, 1) := by decide +kernel
theorem dX7_bringBack_0 : decode cX7_bringBack 0 = .ok (.aload_n 0, 1) := by decide +kernel
theorem dX7_bringBack_1 : decode cX7_bringBack 1 = .ok (.aload_n 1, 1) := by decide +kernel
theorem dX7_bringBack_2 : decode cX7_bringBack 2 = .ok (.iconst 0, 1) := by decide +kernel
theorem dX7_bringBack_3 : decode cX7_bringBack 3 = .ok (.aaload, 1) := by decide +kernel
theorem dX7_bringBack_4 : decode cX7_bringBack 4 = .ok (.putfield 16, 3) := by decide +kernel
theorem dX7_bringBack_7 : decode cX7_bringBack 7 = .ok (.aload_n 0, 1) := by decide +kernel
theorem dX7_bringBack_8 : decode cX7_bringBack 8 = .ok (.aload_n 1, 1) := by decide +kernel
theorem dX7_bringBack_9 : decode cX7_bringBack 9 = .ok (.iconst 1, 1) := by decide +kernel
theorem dX7_bringBack_10 : decode cX7_bringBack 10 = .ok (.aaload, 1) := by decide +kernel
theorem dX7_bringBack_11 : decode cX7_bringBack 11 = .ok (.putfield 19, 3) := by decide +kernel
theorem dX7_bringBack_14 : decode cX7_bringBack 14 = .ok (.aload_n 0, 1) := by decide +kernel
theorem dX7_bringBack_15 : decode cX7_bringBack 15 = .ok (.aload_n 1, 1) := by decide +kernel
theorem dX7_bringBack_16 : decode cX7_bringBack 16 = .ok (.iconst 2, 1) := by decide +kernel
theorem dX7_bringBack_17 : decode cX7_bringBack 17 = .ok (.aaload, 1) := by decide +kernel
theorem dX7_bringBack_18 : decode cX7_bringBack 18 = .ok (.putfield 22, 3) := by decide +kernel
theorem dX7_bringBack_21 : decode cX7_bringBack 21 = .ok (.aload_n 0, 1) := by decide +kernel
theorem dX7_bringBack_22 : decode cX7_bringBack 22 = .ok (.aload_n 1, 1) := by decide +kernel
theorem dX7_bringBack_23 : decode cX7_bringBack 23 = .ok (.iconst 3, 1) := by decide +kernel
theorem dX7_bringBack_24 : decode cX7_bringBack 24 = .ok (.aaload, 1) := by decide +kernel
theorem dX7_bringBack_25 : decode cX7_bringBack 25 = .ok (.putfield 25, 3) := by decide +kernel
theorem dX7_bringBack_28 : decode cX7_bringBack 28 = .ok (.aload_n 0, 1) := by decide +kernel
theorem dX7_bringBack_29 : decode cX7_bringBack 29 = .ok (.aload_n 1, 1) := by decide +kernel
theorem dX7_bringBack_30 : decode cX7_bringBack 30 = .ok (.iconst 4, 1) := by decide +kernel
theorem dX7_bringBack_31 : decode cX7_bringBack 31 = .ok (.aaload, 1) := by decide +kernel
theorem dX7_bringBack_32 : decode cX7_bringBack 32 = .ok (.putfield 28, 3) := by decide +kernel
theorem dX7_bringBack_35 : decode cX7_bringBack 35 = .ok (.return_, 1) := by decide +kernel
set_option maxRecDepth 20000 in
theorem ggX7_look_X7_kept : GoodIn wsX7_look wsX7_kept := goodIn_r _ [5, 6, 7, 8, 9, 10, 11, 12, 13, 14, 15, 16, 125, 126, 127, 128, 129, 130, 131, 132, 133, 134, 135, 136, 137, 138, 139, 140, 141, 142] (by decide +kernel) (by decide +kernel)
set_option maxRecDepth 20000 in
theorem gX7_look_X7_kept : GoodIn wsX7_look (wsV RX7 185 RX7 yX7_kept wsX7_kept) := goodIn_app (goodIn_of _ (by decide +kernel)) ggX7_look_X7_kept
set_option maxRecDepth 20000 in
theorem ggX7_look_X7_hourOn : GoodIn wsX7_look wsX7_hourOn := goodIn_r _ [20, 21, 22, 23, 24, 25, 26, 13, 14, 27, 28, 29, 30, 31, 16, 32, 33, 34, 4, 35, 36, 37, 38, 39, 7, 40, 41, 42, 43, 44, 45, 46, 47, 48, 49, 50, 51, 52, 53, 54, 55, 56, 57, 58, 59, 60, 61, 62, 63, 64, 65, 66, 67, 68, 69, 70, 71, 72, 73, 74, 75, 76, 15, 77, 78, 79, 80, 81, 82, 83, 84, 85, 86, 87, 88, 89, 90, 91, 92, 93, 94, 95, 96, 97, 98, 99, 100, 101, 102, 103, 104, 125, 126, 127, 128, 129, 130, 131, 132, 133, 134, 135, 136, 137, 138, 139, 140, 141, 142] (by decide +kernel) (by decide +kernel)
set_option maxRecDepth 20000 in
theorem gX7_look_X7_hourOn : GoodIn wsX7_look (wsV RX7 160 RX7 yX7_hourOn wsX7_hourOn) := goodIn_app (goodIn_of _ (by decide +kernel)) ggX7_look_X7_hourOn
set_option maxRecDepth 20000 in
theorem ggX7_look_X7_counted : GoodIn wsX7_look wsX7_counted := goodIn_r _ [108, 16, 21, 76, 26, 109, 110, 111, 4, 112, 36, 37, 38, 39, 7, 113, 114, 115, 116, 15, 117, 118, 119, 120, 53, 54, 55, 56, 13, 57, 58, 59, 22, 23, 24, 25, 28, 29, 30, 49, 50, 51, 52, 32, 33, 34, 35, 125, 126, 127, 128, 129, 130, 131, 132, 133, 134, 135, 136, 137, 138, 139, 140, 141, 142] (by decide +kernel) (by decide +kernel)
set_option maxRecDepth 20000 in
theorem gX7_look_X7_counted : GoodIn wsX7_look (wsV RX7 170 RX7 yX7_counted wsX7_counted) := goodIn_app (goodIn_of _ (by decide +kernel)) ggX7_look_X7_counted
set_option maxRecDepth 20000 in
theorem ggX7_look_X7_bringBack : GoodIn wsX7_look wsX7_bringBack := goodIn_r _ [124, 7, 13, 14, 15, 16, 125, 126, 127, 128, 129, 130, 131, 132, 133, 134, 135, 136, 137, 138, 139, 140, 141, 142] (by decide +kernel) (by decide +kernel)
set_option maxRecDepth 20000 in
theorem gX7_look_X7_bringBack : GoodIn wsX7_look (wsV RX7 189 RX7 yX7_bringBack wsX7_bringBack) := goodIn_app (goodIn_of _ (by decide +kernel)) ggX7_look_X7_bringBack
theorem dX7_look_0 : decode cX7_look 0 = .ok (.aload_n 0, 1) := by decide +kernel
theorem dX7_look_1 : decode cX7_look 1 = .ok (.invokevirtual 185, 3) := by decide +kernel
theorem dX7_look_4 : decode cX7_look 4 = .ok (.astore_n 3, 1) := by decide +kernel
theorem dX7_look_5 : decode cX7_look 5 = .ok (.iconst 0, 1) := by decide +kernel
theorem dX7_look_6 : decode cX7_look 6 = .ok (.istore 4, 2) := by decide +kernel
theorem dX7_look_8 : decode cX7_look 8 = .ok (.iload 4, 2) := by decide +kernel
theorem dX7_look_10 : decode cX7_look 10 = .ok (.iload_n 1, 1) := by decide +kernel
theorem dX7_look_11 : decode cX7_look 11 = .ok (.if_icmp .ge 14, 3) := by decide +kernel
theorem dX7_look_14 : decode cX7_look 14 = .ok (.aload_n 0, 1) := by decide +kernel
theorem dX7_look_15 : decode cX7_look 15 = .ok (.invokevirtual 160, 3) := by decide +kernel
theorem dX7_look_18 : decode cX7_look 18 = .ok (.pop, 1) := by decide +kernel
theorem dX7_look_19 : decode cX7_look 19 = .ok (.iinc 4 1, 3) := by decide +kernel
theorem dX7_look_22 : decode cX7_look 22 = .ok (.goto (-14), 3) := by decide +kernel
theorem dX7_look_25 : decode cX7_look 25 = .ok (.aload_n 0, 1) := by decide +kernel
theorem dX7_look_26 : decode cX7_look 26 = .ok (.iload_n 2, 1) := by decide +kernel
theorem dX7_look_27 : decode cX7_look 27 = .ok (.ifCond .ne 7, 3) := by decide +kernel
theorem dX7_look_30 : decode cX7_look 30 = .ok (.iconst 2, 1) := by decide +kernel
theorem dX7_look_31 : decode cX7_look 31 = .ok (.goto 25, 3) := by decide +kernel
theorem dX7_look_34 : decode cX7_look 34 = .ok (.iload_n 2, 1) := by decide +kernel
theorem dX7_look_35 : decode cX7_look 35 = .ok (.iconst 1, 1) := by decide +kernel
theorem dX7_look_36 : decode cX7_look 36 = .ok (.if_icmp .ne 8, 3) := by decide +kernel
theorem dX7_look_39 : decode cX7_look 39 = .ok (.bipush 6, 2) := by decide +kernel
theorem dX7_look_41 : decode cX7_look 41 = .ok (.goto 15, 3) := by decide +kernel
theorem dX7_look_44 : decode cX7_look 44 = .ok (.iload_n 2, 1) := by decide +kernel
theorem dX7_look_45 : decode cX7_look 45 = .ok (.iconst 2, 1) := by decide +kernel
theorem dX7_look_46 : decode cX7_look 46 = .ok (.if_icmp .ne 8, 3) := by decide +kernel
theorem dX7_look_49 : decode cX7_look 49 = .ok (.bipush 8, 2) := by decide +kernel
theorem dX7_look_51 : decode cX7_look 51 = .ok (.goto 5, 3) := by decide +kernel
theorem dX7_look_54 : decode cX7_look 54 = .ok (.bipush 7, 2) := by decide +kernel
theorem dX7_look_56 : decode cX7_look 56 = .ok (.invokevirtual 170, 3) := by decide +kernel
theorem dX7_look_59 : decode cX7_look 59 = .ok (.istore 4, 2) := by decide +kernel
theorem dX7_look_61 : decode cX7_look 61 = .ok (.aload_n 0, 1) := by decide +kernel
theorem dX7_look_62 : decode cX7_look 62 = .ok (.aload_n 3, 1) := by decide +kernel
theorem dX7_look_63 : decode cX7_look 63 = .ok (.invokevirtual 189, 3) := by decide +kernel
theorem dX7_look_66 : decode cX7_look 66 = .ok (.iload 4, 2) := by decide +kernel
theorem dX7_look_68 : decode cX7_look 68 = .ok (.ireturn, 1) := by decide +kernel
set_option maxRecDepth 20000 in
theorem ggX7_foresee_X7_isIn : GoodIn wsX7_foresee wsX7_isIn := goodIn_r _ [5] (by decide +kernel) (by decide +kernel)
set_option maxRecDepth 20000 in
theorem gX7_foresee_X7_isIn : GoodIn wsX7_foresee (va_wsS RX7 54 yX7_isIn wsX7_isIn) := goodIn_app (goodIn_of _ (by decide +kernel)) ggX7_foresee_X7_isIn
set_option maxRecDepth 20000 in
theorem ggX7_foresee_X7_fail : GoodIn wsX7_foresee wsX7_fail := goodIn_r _ [9, 1, 134, 135, 136, 137, 138, 139, 140, 141, 142, 143, 144, 145, 146, 147, 148, 149, 150, 151] (by decide +kernel) (by decide +kernel)
set_option maxRecDepth 20000 in
theorem gX7_foresee_X7_fail : GoodIn wsX7_foresee (wsV RX7 73 RX7 yX7_fail wsX7_fail) := goodIn_app (goodIn_of _ (by decide +kernel)) ggX7_foresee_X7_fail
set_option maxRecDepth 20000 in
theorem ggX7_foresee_X7_look : GoodIn wsX7_foresee wsX7_look := goodIn_r _ [13, 14, 15, 16, 4, 17, 18, 19, 20, 21, 22, 23, 24, 25, 26, 27, 28, 29, 30, 31, 32, 33, 34, 35, 36, 37, 38, 39, 40, 41, 42, 43, 44, 45, 46, 47, 48, 49, 50, 51, 52, 53, 54, 55, 56, 57, 58, 59, 60, 61, 62, 63, 64, 65, 66, 67, 68, 69, 70, 71, 72, 73, 74, 75, 76, 77, 78, 79, 80, 81, 82, 83, 84, 85, 86, 87, 88, 89, 90, 91, 92, 93, 94, 95, 96, 97, 98, 99, 100, 101, 102, 103, 104, 105, 106, 107, 108, 109, 110, 111, 112, 113, 2, 3, 5, 114, 115, 116, 117, 118, 119, 120, 121, 122, 123, 124, 125, 126, 127, 128, 129, 130, 131, 132, 133, 134, 135, 136, 137, 138, 139, 140, 141, 142, 143, 144, 145, 146, 147, 148, 149, 150, 151] (by decide +kernel) (by decide +kernel)
set_option maxRecDepth 20000 in
theorem gX7_foresee_X7_look : GoodIn wsX7_foresee (wsV RX7 193 RX7 yX7_look wsX7_look) := goodIn_app (goodIn_of _ (by decide +kernel)) ggX7_foresee_X7_look
theorem dX7_foresee_0 : decode cX7_foresee 0 = .ok (.aload_n 0, 1) := by decide +kernel
theorem dX7_foresee_1 : decode cX7_foresee 1 = .ok (.iconst 0, 1) := by decide +kernel
theorem dX7_foresee_2 : decode cX7_foresee 2 = .ok (.putfield 47, 3) := by decide +kernel
theorem dX7_foresee_5 : decode cX7_foresee 5 = .ok (.iload_n 1, 1) := by decide +kernel
theorem dX7_foresee_6 : decode cX7_foresee 6 = .ok (.iconst 1, 1) := by decide +kernel
theorem dX7_foresee_7 : decode cX7_foresee 7 = .ok (.bipush 100, 2) := by decide +kernel
theorem dX7_foresee_9 : decode cX7_foresee 9 = .ok (.invokestatic 54, 3) := by decide +kernel
theorem dX7_foresee_12 : decode cX7_foresee 12 = .ok (.ifCond .ne 9, 3) := by decide +kernel
theorem dX7_foresee_15 : decode cX7_foresee 15 = .ok (.aload_n 0, 1) := by decide +kernel
theorem dX7_foresee_16 : decode cX7_foresee 16 = .ok (.iconst 1, 1) := by decide +kernel
theorem dX7_foresee_17 : decode cX7_foresee 17 = .ok (.invokevirtual 73, 3) := by decide +kernel
theorem dX7_foresee_20 : decode cX7_foresee 20 = .ok (.ireturn, 1) := by decide +kernel
theorem dX7_foresee_21 : decode cX7_foresee 21 = .ok (.iload_n 2, 1) := by decide +kernel
theorem dX7_foresee_22 : decode cX7_foresee 22 = .ok (.iconst 0, 1) := by decide +kernel
theorem dX7_foresee_23 : decode cX7_foresee 23 = .ok (.iconst 3, 1) := by decide +kernel
theorem dX7_foresee_24 : decode cX7_foresee 24 = .ok (.invokestatic 54, 3) := by decide +kernel
theorem dX7_foresee_27 : decode cX7_foresee 27 = .ok (.ifCond .eq 12, 3) := by decide +kernel
theorem dX7_foresee_30 : decode cX7_foresee 30 = .ok (.aload_n 0, 1) := by decide +kernel
theorem dX7_foresee_31 : decode cX7_foresee 31 = .ok (.iload_n 1, 1) := by decide +kernel
theorem dX7_foresee_32 : decode cX7_foresee 32 = .ok (.iload_n 2, 1) := by decide +kernel
theorem dX7_foresee_33 : decode cX7_foresee 33 = .ok (.invokevirtual 193, 3) := by decide +kernel
theorem dX7_foresee_36 : decode cX7_foresee 36 = .ok (.goto 8, 3) := by decide +kernel
theorem dX7_foresee_39 : decode cX7_foresee 39 = .ok (.aload_n 0, 1) := by decide +kernel
theorem dX7_foresee_40 : decode cX7_foresee 40 = .ok (.iconst 2, 1) := by decide +kernel
theorem dX7_foresee_41 : decode cX7_foresee 41 = .ok (.invokevirtual 73, 3) := by decide +kernel
theorem dX7_foresee_44 : decode cX7_foresee 44 = .ok (.ireturn, 1) := by decide +kernel
set_option maxRecDepth 20000 in
theorem ggX7_advise_X7_isIn : GoodIn wsX7_advise wsX7_isIn := goodIn_r _ [7] (by decide +kernel) (by decide +kernel)
set_option maxRecDepth 20000 in
theorem gX7_advise_X7_isIn : GoodIn wsX7_advise (va_wsS RX7 54 yX7_isIn wsX7_isIn) := goodIn_app (goodIn_of _ (by decide +kernel)) ggX7_advise_X7_isIn
set_option maxRecDepth 20000 in
theorem ggX7_advise_X7_fail : GoodIn wsX7_advise wsX7_fail := goodIn_r _ [11, 1, 134, 135, 136, 137, 138, 139, 140, 141, 142, 143, 144, 145, 146, 147, 148, 149, 150, 151] (by decide +kernel) (by decide +kernel)
set_option maxRecDepth 20000 in
theorem gX7_advise_X7_fail : GoodIn wsX7_advise (wsV RX7 73 RX7 yX7_fail wsX7_fail) := goodIn_app (goodIn_of _ (by decide +kernel)) ggX7_advise_X7_fail
set_option maxRecDepth 20000 in
theorem ggX7_advise_X7_look : GoodIn wsX7_advise wsX7_look := goodIn_r _ [15, 16, 17, 18, 6, 19, 20, 21, 22, 23, 24, 25, 26, 2, 3, 27, 28, 29, 30, 31, 32, 33, 34, 35, 36, 37, 38, 39, 40, 41, 42, 43, 44, 45, 46, 47, 48, 49, 50, 51, 52, 53, 54, 55, 56, 57, 58, 59, 60, 61, 62, 63, 64, 65, 66, 67, 68, 69, 70, 71, 72, 73, 74, 75, 76, 77, 78, 79, 80, 81, 82, 83, 84, 85, 86, 87, 88, 89, 90, 91, 92, 93, 94, 95, 96, 97, 98, 99, 100, 101, 102, 103, 104, 105, 106, 107, 108, 109, 110, 111, 112, 113, 4, 5, 7, 114, 115, 116, 117, 118, 119, 120, 121, 122, 123, 124, 125, 126, 127, 128, 129, 130, 131, 132, 133, 134, 135, 136, 137, 138, 139, 140, 141, 142, 143, 144, 145, 146, 147, 148, 149, 150, 151] (by decide +kernel) (by decide +kernel)
set_option maxRecDepth 20000 in
theorem gX7_advise_X7_look : GoodIn wsX7_advise (wsV RX7 193 RX7 yX7_look wsX7_look) := goodIn_app (goodIn_of _ (by decide +kernel)) ggX7_advise_X7_look
theorem dX7_advise_0 : decode cX7_advise 0 = .ok (.aload_n 0, 1) := by decide +kernel
theorem dX7_advise_1 : decode cX7_advise 1 = .ok (.iconst 0, 1) := by decide +kernel
theorem dX7_advise_2 : decode cX7_advise 2 = .ok (.putfield 47, 3) := by decide +kernel
theorem dX7_advise_5 : decode cX7_advise 5 = .ok (.iload_n 1, 1) := by decide +kernel
theorem dX7_advise_6 : decode cX7_advise 6 = .ok (.iconst 1, 1) := by decide +kernel
theorem dX7_advise_7 : decode cX7_advise 7 = .ok (.bipush 50, 2) := by decide +kernel
theorem dX7_advise_9 : decode cX7_advise 9 = .ok (.invokestatic 54, 3) := by decide +kernel
theorem dX7_advise_12 : decode cX7_advise 12 = .ok (.ifCond .ne 9, 3) := by decide +kernel
theorem dX7_advise_15 : decode cX7_advise 15 = .ok (.aload_n 0, 1) := by decide +kernel
theorem dX7_advise_16 : decode cX7_advise 16 = .ok (.iconst 1, 1) := by decide +kernel
theorem dX7_advise_17 : decode cX7_advise 17 = .ok (.invokevirtual 73, 3) := by decide +kernel
theorem dX7_advise_20 : decode cX7_advise 20 = .ok (.ireturn, 1) := by decide +kernel
theorem dX7_advise_21 : decode cX7_advise 21 = .ok (.iconst (-1), 1) := by decide +kernel
theorem dX7_advise_22 : decode cX7_advise 22 = .ok (.istore_n 2, 1) := by decide +kernel
theorem dX7_advise_23 : decode cX7_advise 23 = .ok (.aload_n 0, 1) := by decide +kernel
theorem dX7_advise_24 : decode cX7_advise 24 = .ok (.iload_n 1, 1) := by decide +kernel
theorem dX7_advise_25 : decode cX7_advise 25 = .ok (.iconst 1, 1) := by decide +kernel
theorem dX7_advise_26 : decode cX7_advise 26 = .ok (.invokevirtual 193, 3) := by decide +kernel
theorem dX7_advise_29 : decode cX7_advise 29 = .ok (.istore_n 3, 1) := by decide +kernel
theorem dX7_advise_30 : decode cX7_advise 30 = .ok (.iconst 0, 1) := by decide +kernel
theorem dX7_advise_31 : decode cX7_advise 31 = .ok (.istore 4, 2) := by decide +kernel
theorem dX7_advise_33 : decode cX7_advise 33 = .ok (.iload 4, 2) := by decide +kernel
theorem dX7_advise_35 : decode cX7_advise 35 = .ok (.sipush 576, 3) := by decide +kernel
theorem dX7_advise_38 : decode cX7_advise 38 = .ok (.if_icmp .ge 98, 3) := by decide +kernel
theorem dX7_advise_41 : decode cX7_advise 41 = .ok (.aload_n 0, 1) := by decide +kernel
theorem dX7_advise_42 : decode cX7_advise 42 = .ok (.getfield 19, 3) := by decide +kernel
theorem dX7_advise_45 : decode cX7_advise 45 = .ok (.iload 4, 2) := by decide +kernel
theorem dX7_advise_47 : decode cX7_advise 47 = .ok (.iaload, 1) := by decide +kernel
theorem dX7_advise_48 : decode cX7_advise 48 = .ok (.ifCond .ne 6, 3) := by decide +kernel
theorem dX7_advise_51 : decode cX7_advise 51 = .ok (.goto 79, 3) := by decide +kernel
theorem dX7_advise_54 : decode cX7_advise 54 = .ok (.aload_n 0, 1) := by decide +kernel
theorem dX7_advise_55 : decode cX7_advise 55 = .ok (.getfield 19, 3) := by decide +kernel
theorem dX7_advise_58 : decode cX7_advise 58 = .ok (.iload 4, 2) := by decide +kernel
theorem dX7_advise_60 : decode cX7_advise 60 = .ok (.iaload, 1) := by decide +kernel
theorem dX7_advise_61 : decode cX7_advise 61 = .ok (.istore 5, 2) := by decide +kernel
theorem dX7_advise_63 : decode cX7_advise 63 = .ok (.aload_n 0, 1) := by decide +kernel
theorem dX7_advise_64 : decode cX7_advise 64 = .ok (.getfield 22, 3) := by decide +kernel
theorem dX7_advise_67 : decode cX7_advise 67 = .ok (.iload 4, 2) := by decide +kernel
theorem dX7_advise_69 : decode cX7_advise 69 = .ok (.iaload, 1) := by decide +kernel
theorem dX7_advise_70 : decode cX7_advise 70 = .ok (.istore 6, 2) := by decide +kernel
theorem dX7_advise_72 : decode cX7_advise 72 = .ok (.aload_n 0, 1) := by decide +kernel
theorem dX7_advise_73 : decode cX7_advise 73 = .ok (.getfield 19, 3) := by decide +kernel
theorem dX7_advise_76 : decode cX7_advise 76 = .ok (.iload 4, 2) := by decide +kernel
theorem dX7_advise_78 : decode cX7_advise 78 = .ok (.bipush 50, 2) := by decide +kernel
theorem dX7_advise_80 : decode cX7_advise 80 = .ok (.iastore, 1) := by decide +kernel
theorem dX7_advise_81 : decode cX7_advise 81 = .ok (.aload_n 0, 1) := by decide +kernel
theorem dX7_advise_82 : decode cX7_advise 82 = .ok (.getfield 22, 3) := by decide +kernel
theorem dX7_advise_85 : decode cX7_advise 85 = .ok (.iload 4, 2) := by decide +kernel
theorem dX7_advise_87 : decode cX7_advise 87 = .ok (.iconst 0, 1) := by decide +kernel
theorem dX7_advise_88 : decode cX7_advise 88 = .ok (.iastore, 1) := by decide +kernel
theorem dX7_advise_89 : decode cX7_advise 89 = .ok (.aload_n 0, 1) := by decide +kernel
theorem dX7_advise_90 : decode cX7_advise 90 = .ok (.iload_n 1, 1) := by decide +kernel
theorem dX7_advise_91 : decode cX7_advise 91 = .ok (.iconst 1, 1) := by decide +kernel
theorem dX7_advise_92 : decode cX7_advise 92 = .ok (.invokevirtual 193, 3) := by decide +kernel
theorem dX7_advise_95 : decode cX7_advise 95 = .ok (.istore 7, 2) := by decide +kernel
theorem dX7_advise_97 : decode cX7_advise 97 = .ok (.aload_n 0, 1) := by decide +kernel
theorem dX7_advise_98 : decode cX7_advise 98 = .ok (.getfield 19, 3) := by decide +kernel
theorem dX7_advise_101 : decode cX7_advise 101 = .ok (.iload 4, 2) := by decide +kernel
theorem dX7_advise_103 : decode cX7_advise 103 = .ok (.iload 5, 2) := by decide +kernel
theorem dX7_advise_105 : decode cX7_advise 105 = .ok (.iastore, 1) := by decide +kernel
theorem dX7_advise_106 : decode cX7_advise 106 = .ok (.aload_n 0, 1) := by decide +kernel
theorem dX7_advise_107 : decode cX7_advise 107 = .ok (.getfield 22, 3) := by decide +kernel
theorem dX7_advise_110 : decode cX7_advise 110 = .ok (.iload 4, 2) := by decide +kernel
theorem dX7_advise_112 : decode cX7_advise 112 = .ok (.iload 6, 2) := by decide +kernel
theorem dX7_advise_114 : decode cX7_advise 114 = .ok (.iastore, 1) := by decide +kernel
theorem dX7_advise_115 : decode cX7_advise 115 = .ok (.iload 7, 2) := by decide +kernel
theorem dX7_advise_117 : decode cX7_advise 117 = .ok (.iload_n 3, 1) := by decide +kernel
theorem dX7_advise_118 : decode cX7_advise 118 = .ok (.if_icmp .gt 6, 3) := by decide +kernel
theorem dX7_advise_121 : decode cX7_advise 121 = .ok (.goto 9, 3) := by decide +kernel
theorem dX7_advise_124 : decode cX7_advise 124 = .ok (.iload 4, 2) := by decide +kernel
theorem dX7_advise_126 : decode cX7_advise 126 = .ok (.istore_n 2, 1) := by decide +kernel
theorem dX7_advise_127 : decode cX7_advise 127 = .ok (.iload 7, 2) := by decide +kernel
theorem dX7_advise_129 : decode cX7_advise 129 = .ok (.istore_n 3, 1) := by decide +kernel
theorem dX7_advise_130 : decode cX7_advise 130 = .ok (.iinc 4 1, 3) := by decide +kernel
theorem dX7_advise_133 : decode cX7_advise 133 = .ok (.goto (-100), 3) := by decide +kernel
theorem dX7_advise_136 : decode cX7_advise 136 = .ok (.iload_n 2, 1) := by decide +kernel
theorem dX7_advise_137 : decode cX7_advise 137 = .ok (.ireturn, 1) := by decide +kernel
set_option maxRecDepth 20000 in
theorem ggX7_spare_X7_floats : GoodIn wsX7_spare wsX7_floats := goodIn_r _ [7, 8, 9, 10, 6, 11, 12, 36, 37, 38, 39, 40, 41, 42, 43, 44, 45, 46, 47, 48, 49, 50, 51, 52, 53] (by decide +kernel) (by decide +kernel)
set_option maxRecDepth 20000 in
theorem gX7_spare_X7_floats : GoodIn wsX7_spare (wsV RX7 93 RX7 yX7_floats wsX7_floats) := goodIn_app (goodIn_of _ (by decide +kernel)) ggX7_spare_X7_floats
set_option maxRecDepth 20000 in
theorem ggX7_spare_X7_lifts : GoodIn wsX7_spare wsX7_lifts := goodIn_r _ [16, 17, 18, 19, 6, 20, 21, 8, 9, 10, 11, 12, 36, 37, 38, 39, 40, 41, 42, 43, 44, 45, 46, 47, 48, 49, 50, 51, 52, 53] (by decide +kernel) (by decide +kernel)
set_option maxRecDepth 20000 in
theorem gX7_spare_X7_lifts : GoodIn wsX7_spare (wsV RX7 139 RX7 yX7_lifts wsX7_lifts) := goodIn_app (goodIn_of _ (by decide +kernel)) ggX7_spare_X7_lifts
set_option maxRecDepth 20000 in
theorem ggX7_spare_X7_loadOf : GoodIn wsX7_spare wsX7_loadOf := goodIn_r _ [25, 8, 9, 10, 6, 11, 12, 26, 27, 28, 29, 30, 31, 36, 37, 38, 39, 40, 41, 42, 43, 44, 45, 46, 47, 48, 49, 50, 51, 52, 53] (by decide +kernel) (by decide +kernel)
set_option maxRecDepth 20000 in
theorem gX7_spare_X7_loadOf : GoodIn wsX7_spare (wsV RX7 142 RX7 yX7_loadOf wsX7_loadOf) := goodIn_app (goodIn_of _ (by decide +kernel)) ggX7_spare_X7_loadOf
set_option maxRecDepth 20000 in
theorem ggX7_spare_X7_withState : GoodIn wsX7_spare wsX7_withState := goodIn_r _ [35, 2, 8, 9, 10, 6, 11, 12, 36, 37, 38, 39, 40, 41, 42, 43, 44, 45, 46, 47, 48, 49, 50, 51, 52, 53] (by decide +kernel) (by decide +kernel)
set_option maxRecDepth 20000 in
theorem gX7_spare_X7_withState : GoodIn wsX7_spare (wsV RX7 164 RX7 yX7_withState wsX7_withState) := goodIn_app (goodIn_of _ (by decide +kernel)) ggX7_spare_X7_withState
theorem dX7_spare_0 : decode cX7_spare 0 = .ok (.aload_n 0, 1) := by decide +kernel
theorem dX7_spare_1 : decode cX7_spare 1 = .ok (.iconst 0, 1) := by decide +kernel
theorem dX7_spare_2 : decode cX7_spare 2 = .ok (.putfield 47, 3) := by decide +kernel
theorem dX7_spare_5 : decode cX7_spare 5 = .ok (.iconst 0, 1) := by decide +kernel
theorem dX7_spare_6 : decode cX7_spare 6 = .ok (.istore_n 1, 1) := by decide +kernel
theorem dX7_spare_7 : decode cX7_spare 7 = .ok (.iconst 0, 1) := by decide +kernel
theorem dX7_spare_8 : decode cX7_spare 8 = .ok (.istore_n 2, 1) := by decide +kernel
theorem dX7_spare_9 : decode cX7_spare 9 = .ok (.iload_n 2, 1) := by decide +kernel
theorem dX7_spare_10 : decode cX7_spare 10 = .ok (.aload_n 0, 1) := by decide +kernel
theorem dX7_spare_11 : decode cX7_spare 11 = .ok (.getfield 51, 3) := by decide +kernel
theorem dX7_spare_14 : decode cX7_spare 14 = .ok (.if_icmp .ge 35, 3) := by decide +kernel
theorem dX7_spare_17 : decode cX7_spare 17 = .ok (.iload_n 1, 1) := by decide +kernel
theorem dX7_spare_18 : decode cX7_spare 18 = .ok (.aload_n 0, 1) := by decide +kernel
theorem dX7_spare_19 : decode cX7_spare 19 = .ok (.iload_n 2, 1) := by decide +kernel
theorem dX7_spare_20 : decode cX7_spare 20 = .ok (.invokevirtual 93, 3) := by decide +kernel
theorem dX7_spare_23 : decode cX7_spare 23 = .ok (.ifCond .eq 17, 3) := by decide +kernel
theorem dX7_spare_26 : decode cX7_spare 26 = .ok (.aload_n 0, 1) := by decide +kernel
theorem dX7_spare_27 : decode cX7_spare 27 = .ok (.iload_n 2, 1) := by decide +kernel
theorem dX7_spare_28 : decode cX7_spare 28 = .ok (.invokevirtual 139, 3) := by decide +kernel
theorem dX7_spare_31 : decode cX7_spare 31 = .ok (.aload_n 0, 1) := by decide +kernel
theorem dX7_spare_32 : decode cX7_spare 32 = .ok (.iload_n 2, 1) := by decide +kernel
theorem dX7_spare_33 : decode cX7_spare 33 = .ok (.invokevirtual 142, 3) := by decide +kernel
theorem dX7_spare_36 : decode cX7_spare 36 = .ok (.isub, 1) := by decide +kernel
theorem dX7_spare_37 : decode cX7_spare 37 = .ok (.goto 4, 3) := by decide +kernel
theorem dX7_spare_40 : decode cX7_spare 40 = .ok (.iconst 0, 1) := by decide +kernel
theorem dX7_spare_41 : decode cX7_spare 41 = .ok (.iadd, 1) := by decide +kernel
theorem dX7_spare_42 : decode cX7_spare 42 = .ok (.istore_n 1, 1) := by decide +kernel
theorem dX7_spare_43 : decode cX7_spare 43 = .ok (.iinc 2 1, 3) := by decide +kernel
theorem dX7_spare_46 : decode cX7_spare 46 = .ok (.goto (-37), 3) := by decide +kernel
theorem dX7_spare_49 : decode cX7_spare 49 = .ok (.aload_n 0, 1) := by decide +kernel
theorem dX7_spare_50 : decode cX7_spare 50 = .ok (.iconst 0, 1) := by decide +kernel
theorem dX7_spare_51 : decode cX7_spare 51 = .ok (.invokevirtual 164, 3) := by decide +kernel
theorem dX7_spare_54 : decode cX7_spare 54 = .ok (.ifCond .ne 7, 3) := by decide +kernel
theorem dX7_spare_57 : decode cX7_spare 57 = .ok (.dconst 0, 1) := by decide +kernel
theorem dX7_spare_58 : decode cX7_spare 58 = .ok (.goto 12, 3) := by decide +kernel
theorem dX7_spare_61 : decode cX7_spare 61 = .ok (.iload_n 1, 1) := by decide +kernel
theorem dX7_spare_62 : decode cX7_spare 62 = .ok (.i2d, 1) := by decide +kernel
theorem dX7_spare_63 : decode cX7_spare 63 = .ok (.aload_n 0, 1) := by decide +kernel
theorem dX7_spare_64 : decode cX7_spare 64 = .ok (.iconst 0, 1) := by decide +kernel
theorem dX7_spare_65 : decode cX7_spare 65 = .ok (.invokevirtual 164, 3) := by decide +kernel
theorem dX7_spare_68 : decode cX7_spare 68 = .ok (.i2d, 1) := by decide +kernel
theorem dX7_spare_69 : decode cX7_spare 69 = .ok (.ddiv, 1) := by decide +kernel
theorem dX7_spare_70 : decode cX7_spare 70 = .ok (.dreturn, 1) := by decide +kernel
set_option maxRecDepth 20000 in
theorem ggX7_digest_X7_counted : GoodIn wsX7_digest wsX7_counted := goodIn_r _ [13, 14, 4, 7, 15, 16, 17, 18, 12, 19, 20, 21, 22, 23, 24, 25, 26, 27, 28, 8, 29, 30, 31, 32, 33, 34, 35, 36, 5, 37, 38, 39, 40, 41, 42, 43, 44, 45, 46, 47, 48, 49, 50, 51, 52, 53, 54, 76, 77, 78, 79, 80, 81, 82, 83, 84, 85, 86, 87, 88, 89, 90, 91, 92, 93] (by decide +kernel) (by decide +kernel)
set_option maxRecDepth 20000 in
theorem gX7_digest_X7_counted : GoodIn wsX7_digest (wsV RX7 170 RX7 yX7_counted wsX7_counted) := goodIn_app (goodIn_of _ (by decide +kernel)) ggX7_digest_X7_counted
set_option maxRecDepth 20000 in
theorem ggX7_digest_X7_barrelTold : GoodIn wsX7_digest wsX7_barrelTold := goodIn_r _ [58, 15, 59, 60, 61, 12, 62, 63, 20, 21, 22, 23, 24, 47, 48, 49, 50, 4, 40, 41, 42, 43, 51, 52, 53, 54, 33, 34, 35, 36, 5, 37, 38, 39, 44, 45, 46, 29, 30, 31, 32, 64, 65, 66, 67, 68, 69, 70, 71, 72, 73, 74, 75, 7, 8, 76, 77, 78, 79, 80, 81, 82, 83, 84, 85, 86, 87, 88, 89, 90, 91, 92, 93] (by decide +kernel) (by decide +kernel)
set_option maxRecDepth 20000 in
theorem gX7_digest_X7_barrelTold : GoodIn wsX7_digest (wsV RX7 145 RX7 yX7_barrelTold wsX7_barrelTold) := goodIn_app (goodIn_of _ (by decide +kernel)) ggX7_digest_X7_barrelTold
theorem dX7_digest_0 : decode cX7_digest 0 = .ok (.aload_n 0, 1) := by decide +kernel
theorem dX7_digest_1 : decode cX7_digest 1 = .ok (.iconst 0, 1) := by decide +kernel
theorem dX7_digest_2 : decode cX7_digest 2 = .ok (.putfield 47, 3) := by decide +kernel
theorem dX7_digest_5 : decode cX7_digest 5 = .ok (.ldc2_w 196, 3) := by decide +kernel
theorem dX7_digest_8 : decode cX7_digest 8 = .ok (.lstore_n 1, 1) := by decide +kernel
theorem dX7_digest_9 : decode cX7_digest 9 = .ok (.iconst 0, 1) := by decide +kernel
theorem dX7_digest_10 : decode cX7_digest 10 = .ok (.istore_n 3, 1) := by decide +kernel
theorem dX7_digest_11 : decode cX7_digest 11 = .ok (.iload_n 3, 1) := by decide +kernel
theorem dX7_digest_12 : decode cX7_digest 12 = .ok (.bipush 12, 2) := by decide +kernel
theorem dX7_digest_14 : decode cX7_digest 14 = .ok (.if_icmp .ge 22, 3) := by decide +kernel
theorem dX7_digest_17 : decode cX7_digest 17 = .ok (.lload_n 1, 1) := by decide +kernel
theorem dX7_digest_18 : decode cX7_digest 18 = .ok (.ldc2_w 198, 3) := by decide +kernel
theorem dX7_digest_21 : decode cX7_digest 21 = .ok (.lmul, 1) := by decide +kernel
theorem dX7_digest_22 : decode cX7_digest 22 = .ok (.aload_n 0, 1) := by decide +kernel
theorem dX7_digest_23 : decode cX7_digest 23 = .ok (.iload_n 3, 1) := by decide +kernel
theorem dX7_digest_24 : decode cX7_digest 24 = .ok (.invokevirtual 170, 3) := by decide +kernel
theorem dX7_digest_27 : decode cX7_digest 27 = .ok (.i2l, 1) := by decide +kernel
theorem dX7_digest_28 : decode cX7_digest 28 = .ok (.ladd, 1) := by decide +kernel
theorem dX7_digest_29 : decode cX7_digest 29 = .ok (.lstore_n 1, 1) := by decide +kernel
theorem dX7_digest_30 : decode cX7_digest 30 = .ok (.iinc 3 1, 3) := by decide +kernel
theorem dX7_digest_33 : decode cX7_digest 33 = .ok (.goto (-22), 3) := by decide +kernel
theorem dX7_digest_36 : decode cX7_digest 36 = .ok (.iconst 0, 1) := by decide +kernel
theorem dX7_digest_37 : decode cX7_digest 37 = .ok (.istore_n 3, 1) := by decide +kernel
theorem dX7_digest_38 : decode cX7_digest 38 = .ok (.iload_n 3, 1) := by decide +kernel
theorem dX7_digest_39 : decode cX7_digest 39 = .ok (.aload_n 0, 1) := by decide +kernel
theorem dX7_digest_40 : decode cX7_digest 40 = .ok (.getfield 51, 3) := by decide +kernel
theorem dX7_digest_43 : decode cX7_digest 43 = .ok (.if_icmp .ge 40, 3) := by decide +kernel
theorem dX7_digest_46 : decode cX7_digest 46 = .ok (.iconst 0, 1) := by decide +kernel
theorem dX7_digest_47 : decode cX7_digest 47 = .ok (.istore 4, 2) := by decide +kernel
theorem dX7_digest_49 : decode cX7_digest 49 = .ok (.iload 4, 2) := by decide +kernel
theorem dX7_digest_51 : decode cX7_digest 51 = .ok (.bipush 13, 2) := by decide +kernel
theorem dX7_digest_53 : decode cX7_digest 53 = .ok (.if_icmp .ge 24, 3) := by decide +kernel
theorem dX7_digest_56 : decode cX7_digest 56 = .ok (.lload_n 1, 1) := by decide +kernel
theorem dX7_digest_57 : decode cX7_digest 57 = .ok (.ldc2_w 198, 3) := by decide +kernel
theorem dX7_digest_60 : decode cX7_digest 60 = .ok (.lmul, 1) := by decide +kernel
theorem dX7_digest_61 : decode cX7_digest 61 = .ok (.aload_n 0, 1) := by decide +kernel
theorem dX7_digest_62 : decode cX7_digest 62 = .ok (.iload_n 3, 1) := by decide +kernel
theorem dX7_digest_63 : decode cX7_digest 63 = .ok (.iload 4, 2) := by decide +kernel
theorem dX7_digest_65 : decode cX7_digest 65 = .ok (.invokevirtual 145, 3) := by decide +kernel
theorem dX7_digest_68 : decode cX7_digest 68 = .ok (.i2l, 1) := by decide +kernel
theorem dX7_digest_69 : decode cX7_digest 69 = .ok (.ladd, 1) := by decide +kernel
theorem dX7_digest_70 : decode cX7_digest 70 = .ok (.lstore_n 1, 1) := by decide +kernel
theorem dX7_digest_71 : decode cX7_digest 71 = .ok (.iinc 4 1, 3) := by decide +kernel
theorem dX7_digest_74 : decode cX7_digest 74 = .ok (.goto (-25), 3) := by decide +kernel
theorem dX7_digest_77 : decode cX7_digest 77 = .ok (.iinc 3 1, 3) := by decide +kernel
theorem dX7_digest_80 : decode cX7_digest 80 = .ok (.goto (-42), 3) := by decide +kernel
theorem dX7_digest_83 : decode cX7_digest 83 = .ok (.iconst 0, 1) := by decide +kernel
theorem dX7_digest_84 : decode cX7_digest 84 = .ok (.istore_n 3, 1) := by decide +kernel
theorem dX7_digest_85 : decode cX7_digest 85 = .ok (.iload_n 3, 1) := by decide +kernel
theorem dX7_digest_86 : decode cX7_digest 86 = .ok (.sipush 576, 3) := by decide +kernel
theorem dX7_digest_89 : decode cX7_digest 89 = .ok (.if_icmp .ge 64, 3) := by decide +kernel
theorem dX7_digest_92 : decode cX7_digest 92 = .ok (.aload_n 0, 1) := by decide +kernel
theorem dX7_digest_93 : decode cX7_digest 93 = .ok (.getfield 19, 3) := by decide +kernel
theorem dX7_digest_96 : decode cX7_digest 96 = .ok (.iload_n 3, 1) := by decide +kernel
theorem dX7_digest_97 : decode cX7_digest 97 = .ok (.iaload, 1) := by decide +kernel
theorem dX7_digest_98 : decode cX7_digest 98 = .ok (.ifCond .le 49, 3) := by decide +kernel
theorem dX7_digest_101 : decode cX7_digest 101 = .ok (.lload_n 1, 1) := by decide +kernel
theorem dX7_digest_102 : decode cX7_digest 102 = .ok (.ldc2_w 198, 3) := by decide +kernel
theorem dX7_digest_105 : decode cX7_digest 105 = .ok (.lmul, 1) := by decide +kernel
theorem dX7_digest_106 : decode cX7_digest 106 = .ok (.iload_n 3, 1) := by decide +kernel
theorem dX7_digest_107 : decode cX7_digest 107 = .ok (.bipush 24, 2) := by decide +kernel
theorem dX7_digest_109 : decode cX7_digest 109 = .ok (.idiv, 1) := by decide +kernel
theorem dX7_digest_110 : decode cX7_digest 110 = .ok (.i2l, 1) := by decide +kernel
theorem dX7_digest_111 : decode cX7_digest 111 = .ok (.ladd, 1) := by decide +kernel
theorem dX7_digest_112 : decode cX7_digest 112 = .ok (.ldc2_w 198, 3) := by decide +kernel
theorem dX7_digest_115 : decode cX7_digest 115 = .ok (.lmul, 1) := by decide +kernel
theorem dX7_digest_116 : decode cX7_digest 116 = .ok (.iload_n 3, 1) := by decide +kernel
theorem dX7_digest_117 : decode cX7_digest 117 = .ok (.bipush 24, 2) := by decide +kernel
theorem dX7_digest_119 : decode cX7_digest 119 = .ok (.irem, 1) := by decide +kernel
theorem dX7_digest_120 : decode cX7_digest 120 = .ok (.i2l, 1) := by decide +kernel
theorem dX7_digest_121 : decode cX7_digest 121 = .ok (.ladd, 1) := by decide +kernel
theorem dX7_digest_122 : decode cX7_digest 122 = .ok (.ldc2_w 198, 3) := by decide +kernel
theorem dX7_digest_125 : decode cX7_digest 125 = .ok (.lmul, 1) := by decide +kernel
theorem dX7_digest_126 : decode cX7_digest 126 = .ok (.aload_n 0, 1) := by decide +kernel
theorem dX7_digest_127 : decode cX7_digest 127 = .ok (.getfield 19, 3) := by decide +kernel
theorem dX7_digest_130 : decode cX7_digest 130 = .ok (.iload_n 3, 1) := by decide +kernel
theorem dX7_digest_131 : decode cX7_digest 131 = .ok (.iaload, 1) := by decide +kernel
theorem dX7_digest_132 : decode cX7_digest 132 = .ok (.i2l, 1) := by decide +kernel
theorem dX7_digest_133 : decode cX7_digest 133 = .ok (.ladd, 1) := by decide +kernel
theorem dX7_digest_134 : decode cX7_digest 134 = .ok (.ldc2_w 198, 3) := by decide +kernel
theorem dX7_digest_137 : decode cX7_digest 137 = .ok (.lmul, 1) := by decide +kernel
theorem dX7_digest_138 : decode cX7_digest 138 = .ok (.aload_n 0, 1) := by decide +kernel
theorem dX7_digest_139 : decode cX7_digest 139 = .ok (.getfield 22, 3) := by decide +kernel
theorem dX7_digest_142 : decode cX7_digest 142 = .ok (.iload_n 3, 1) := by decide +kernel
theorem dX7_digest_143 : decode cX7_digest 143 = .ok (.iaload, 1) := by decide +kernel
theorem dX7_digest_144 : decode cX7_digest 144 = .ok (.i2l, 1) := by decide +kernel
theorem dX7_digest_145 : decode cX7_digest 145 = .ok (.ladd, 1) := by decide +kernel
theorem dX7_digest_146 : decode cX7_digest 146 = .ok (.lstore_n 1, 1) := by decide +kernel
theorem dX7_digest_147 : decode cX7_digest 147 = .ok (.iinc 3 1, 3) := by decide +kernel
theorem dX7_digest_150 : decode cX7_digest 150 = .ok (.goto (-65), 3) := by decide +kernel
theorem dX7_digest_153 : decode cX7_digest 153 = .ok (.iconst 0, 1) := by decide +kernel
theorem dX7_digest_154 : decode cX7_digest 154 = .ok (.istore_n 3, 1) := by decide +kernel
theorem dX7_digest_155 : decode cX7_digest 155 = .ok (.iload_n 3, 1) := by decide +kernel
theorem dX7_digest_156 : decode cX7_digest 156 = .ok (.aload_n 0, 1) := by decide +kernel
theorem dX7_digest_157 : decode cX7_digest 157 = .ok (.getfield 127, 3) := by decide +kernel
theorem dX7_digest_160 : decode cX7_digest 160 = .ok (.if_icmp .ge 43, 3) := by decide +kernel
theorem dX7_digest_163 : decode cX7_digest 163 = .ok (.iconst 0, 1) := by decide +kernel
theorem dX7_digest_164 : decode cX7_digest 164 = .ok (.istore 4, 2) := by decide +kernel
theorem dX7_digest_166 : decode cX7_digest 166 = .ok (.iload 4, 2) := by decide +kernel
theorem dX7_digest_168 : decode cX7_digest 168 = .ok (.iconst 2, 1) := by decide +kernel
theorem dX7_digest_169 : decode cX7_digest 169 = .ok (.if_icmp .ge 28, 3) := by decide +kernel
theorem dX7_digest_172 : decode cX7_digest 172 = .ok (.lload_n 1, 1) := by decide +kernel
theorem dX7_digest_173 : decode cX7_digest 173 = .ok (.ldc2_w 198, 3) := by decide +kernel
theorem dX7_digest_176 : decode cX7_digest 176 = .ok (.lmul, 1) := by decide +kernel
theorem dX7_digest_177 : decode cX7_digest 177 = .ok (.aload_n 0, 1) := by decide +kernel
theorem dX7_digest_178 : decode cX7_digest 178 = .ok (.getfield 25, 3) := by decide +kernel
theorem dX7_digest_181 : decode cX7_digest 181 = .ok (.iconst 2, 1) := by decide +kernel
theorem dX7_digest_182 : decode cX7_digest 182 = .ok (.iload_n 3, 1) := by decide +kernel
theorem dX7_digest_183 : decode cX7_digest 183 = .ok (.imul, 1) := by decide +kernel
theorem dX7_digest_184 : decode cX7_digest 184 = .ok (.iload 4, 2) := by decide +kernel
theorem dX7_digest_186 : decode cX7_digest 186 = .ok (.iadd, 1) := by decide +kernel
theorem dX7_digest_187 : decode cX7_digest 187 = .ok (.iaload, 1) := by decide +kernel
theorem dX7_digest_188 : decode cX7_digest 188 = .ok (.i2l, 1) := by decide +kernel
theorem dX7_digest_189 : decode cX7_digest 189 = .ok (.ladd, 1) := by decide +kernel
theorem dX7_digest_190 : decode cX7_digest 190 = .ok (.lstore_n 1, 1) := by decide +kernel
theorem dX7_digest_191 : decode cX7_digest 191 = .ok (.iinc 4 1, 3) := by decide +kernel
theorem dX7_digest_194 : decode cX7_digest 194 = .ok (.goto (-28), 3) := by decide +kernel
theorem dX7_digest_197 : decode cX7_digest 197 = .ok (.iinc 3 1, 3) := by decide +kernel
theorem dX7_digest_200 : decode cX7_digest 200 = .ok (.goto (-45), 3) := by decide +kernel
theorem dX7_digest_203 : decode cX7_digest 203 = .ok (.lload_n 1, 1) := by decide +kernel
theorem dX7_digest_204 : decode cX7_digest 204 = .ok (.lreturn, 1) := by decide +kernel
