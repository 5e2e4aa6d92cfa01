theorem dX7_lifts_10 : decode cX7_lifts 10 = .ok (.aload_n 0, 1) := by decide +kernel
theorem dX7_lifts_11 : decode cX7_lifts 11 = .ok (.getfield 19, 3) := by decide +kernel
theorem dX7_lifts_14 : decode cX7_lifts 14 = .ok (.iload_n 1, 1) := by decide +kernel
theorem dX7_lifts_15 : decode cX7_lifts 15 = .ok (.aaload, 1) := by decide +kernel
theorem dX7_lifts_16 : decode cX7_lifts 16 = .ok (.iconst 4, 1) := by decide +kernel
theorem dX7_lifts_17 : decode cX7_lifts 17 = .ok (.iaload, 1) := by decide +kernel
theorem dX7_lifts_18 : decode cX7_lifts 18 = .ok (.isub, 1) := by decide +kernel
theorem dX7_lifts_19 : decode cX7_lifts 19 = .ok (.imul, 1) := by decide +kernel
theorem dX7_lifts_20 : decode cX7_lifts 20 = .ok (.bipush 100, 2) := by decide +kernel
theorem dX7_lifts_22 : decode cX7_lifts 22 = .ok (.idiv, 1) := by decide +kernel
theorem dX7_lifts_23 : decode cX7_lifts 23 = .ok (.ireturn, 1) := by decide +kernel
theorem dX7_piece_0 : decode cX7_piece 0 = .ok (.aload_n 0, 1) := by decide +kernel
theorem dX7_piece_1 : decode cX7_piece 1 = .ok (.getfield 19, 3) := by decide +kernel
theorem dX7_piece_4 : decode cX7_piece 4 = .ok (.arraylength, 1) := by decide +kernel
theorem dX7_piece_5 : decode cX7_piece 5 = .ok (.newarray .boolean, 2) := by decide +kernel
theorem dX7_piece_7 : decode cX7_piece 7 = .ok (.astore_n 3, 1) := by decide +kernel
theorem dX7_piece_8 : decode cX7_piece 8 = .ok (.aload_n 0, 1) := by decide +kernel
theorem dX7_piece_9 : decode cX7_piece 9 = .ok (.getfield 19, 3) := by decide +kernel
theorem dX7_piece_12 : decode cX7_piece 12 = .ok (.iload_n 1, 1) := by decide +kernel
theorem dX7_piece_13 : decode cX7_piece 13 = .ok (.aaload, 1) := by decide +kernel
theorem dX7_piece_14 : decode cX7_piece 14 = .ok (.bipush 6, 2) := by decide +kernel
theorem dX7_piece_16 : decode cX7_piece 16 = .ok (.iaload, 1) := by decide +kernel
theorem dX7_piece_17 : decode cX7_piece 17 = .ok (.ifCond .le 5, 3) := by decide +kernel
theorem dX7_piece_20 : decode cX7_piece 20 = .ok (.aload_n 3, 1) := by decide +kernel
theorem dX7_piece_21 : decode cX7_piece 21 = .ok (.areturn, 1) := by decide +kernel
theorem dX7_piece_22 : decode cX7_piece 22 = .ok (.aload_n 3, 1) := by decide +kernel
theorem dX7_piece_23 : decode cX7_piece 23 = .ok (.iload_n 1, 1) := by decide +kernel
theorem dX7_piece_24 : decode cX7_piece 24 = .ok (.iconst 1, 1) := by decide +kernel
theorem dX7_piece_25 : decode cX7_piece 25 = .ok (.bastore, 1) := by decide +kernel
theorem dX7_piece_26 : decode cX7_piece 26 = .ok (.iconst 0, 1) := by decide +kernel
theorem dX7_piece_27 : decode cX7_piece 27 = .ok (.istore 4, 2) := by decide +kernel
theorem dX7_piece_29 : decode cX7_piece 29 = .ok (.iload 4, 2) := by decide +kernel
theorem dX7_piece_31 : decode cX7_piece 31 = .ok (.aload_n 0, 1) := by decide +kernel
theorem dX7_piece_32 : decode cX7_piece 32 = .ok (.getfield 19, 3) := by decide +kernel
theorem dX7_piece_35 : decode cX7_piece 35 = .ok (.arraylength, 1) := by decide +kernel
theorem dX7_piece_36 : decode cX7_piece 36 = .ok (.if_icmp .ge 81, 3) := by decide +kernel
theorem dX7_piece_39 : decode cX7_piece 39 = .ok (.aload_n 0, 1) := by decide +kernel
theorem dX7_piece_40 : decode cX7_piece 40 = .ok (.getfield 22, 3) := by decide +kernel
theorem dX7_piece_43 : decode cX7_piece 43 = .ok (.astore 5, 2) := by decide +kernel
theorem dX7_piece_45 : decode cX7_piece 45 = .ok (.aload 5, 2) := by decide +kernel
theorem dX7_piece_47 : decode cX7_piece 47 = .ok (.arraylength, 1) := by decide +kernel
theorem dX7_piece_48 : decode cX7_piece 48 = .ok (.istore 6, 2) := by decide +kernel
theorem dX7_piece_50 : decode cX7_piece 50 = .ok (.iconst 0, 1) := by decide +kernel
theorem dX7_piece_51 : decode cX7_piece 51 = .ok (.istore 7, 2) := by decide +kernel
theorem dX7_piece_53 : decode cX7_piece 53 = .ok (.iload 7, 2) := by decide +kernel
theorem dX7_piece_55 : decode cX7_piece 55 = .ok (.iload 6, 2) := by decide +kernel
theorem dX7_piece_57 : decode cX7_piece 57 = .ok (.if_icmp .ge 54, 3) := by decide +kernel
theorem dX7_piece_60 : decode cX7_piece 60 = .ok (.aload 5, 2) := by decide +kernel
theorem dX7_piece_62 : decode cX7_piece 62 = .ok (.iload 7, 2) := by decide +kernel
theorem dX7_piece_64 : decode cX7_piece 64 = .ok (.aaload, 1) := by decide +kernel
theorem dX7_piece_65 : decode cX7_piece 65 = .ok (.astore 8, 2) := by decide +kernel
theorem dX7_piece_67 : decode cX7_piece 67 = .ok (.aload 8, 2) := by decide +kernel
theorem dX7_piece_69 : decode cX7_piece 69 = .ok (.aload_n 2, 1) := by decide +kernel
theorem dX7_piece_70 : decode cX7_piece 70 = .ok (.if_acmp .eq 35, 3) := by decide +kernel
theorem dX7_piece_73 : decode cX7_piece 73 = .ok (.aload_n 3, 1) := by decide +kernel
theorem dX7_piece_74 : decode cX7_piece 74 = .ok (.aload 8, 2) := by decide +kernel
theorem dX7_piece_76 : decode cX7_piece 76 = .ok (.iconst 0, 1) := by decide +kernel
theorem dX7_piece_77 : decode cX7_piece 77 = .ok (.iaload, 1) := by decide +kernel
theorem dX7_piece_78 : decode cX7_piece 78 = .ok (.baload, 1) := by decide +kernel
theorem dX7_piece_79 : decode cX7_piece 79 = .ok (.aload_n 3, 1) := by decide +kernel
theorem dX7_piece_80 : decode cX7_piece 80 = .ok (.aload 8, 2) := by decide +kernel
theorem dX7_piece_82 : decode cX7_piece 82 = .ok (.iconst 1, 1) := by decide +kernel
theorem dX7_piece_83 : decode cX7_piece 83 = .ok (.iaload, 1) := by decide +kernel
theorem dX7_piece_84 : decode cX7_piece 84 = .ok (.baload, 1) := by decide +kernel
theorem dX7_piece_85 : decode cX7_piece 85 = .ok (.if_icmp .ne 6, 3) := by decide +kernel
theorem dX7_piece_88 : decode cX7_piece 88 = .ok (.goto 17, 3) := by decide +kernel
theorem dX7_piece_91 : decode cX7_piece 91 = .ok (.aload_n 3, 1) := by decide +kernel
theorem dX7_piece_92 : decode cX7_piece 92 = .ok (.aload 8, 2) := by decide +kernel
theorem dX7_piece_94 : decode cX7_piece 94 = .ok (.iconst 0, 1) := by decide +kernel
theorem dX7_piece_95 : decode cX7_piece 95 = .ok (.iaload, 1) := by decide +kernel
theorem dX7_piece_96 : decode cX7_piece 96 = .ok (.iconst 1, 1) := by decide +kernel
theorem dX7_piece_97 : decode cX7_piece 97 = .ok (.bastore, 1) := by decide +kernel
theorem dX7_piece_98 : decode cX7_piece 98 = .ok (.aload_n 3, 1) := by decide +kernel
theorem dX7_piece_99 : decode cX7_piece 99 = .ok (.aload 8, 2) := by decide +kernel
theorem dX7_piece_101 : decode cX7_piece 101 = .ok (.iconst 1, 1) := by decide +kernel
theorem dX7_piece_102 : decode cX7_piece 102 = .ok (.iaload, 1) := by decide +kernel
theorem dX7_piece_103 : decode cX7_piece 103 = .ok (.iconst 1, 1) := by decide +kernel
theorem dX7_piece_104 : decode cX7_piece 104 = .ok (.bastore, 1) := by decide +kernel
theorem dX7_piece_105 : decode cX7_piece 105 = .ok (.iinc 7 1, 3) := by decide +kernel
theorem dX7_piece_108 : decode cX7_piece 108 = .ok (.goto (-55), 3) := by decide +kernel
theorem dX7_piece_111 : decode cX7_piece 111 = .ok (.iinc 4 1, 3) := by decide +kernel
theorem dX7_piece_114 : decode cX7_piece 114 = .ok (.goto (-85), 3) := by decide +kernel
theorem dX7_piece_117 : decode cX7_piece 117 = .ok (.aload_n 3, 1) := by decide +kernel
theorem dX7_piece_118 : decode cX7_piece 118 = .ok (.areturn, 1) := by decide +kernel
set_option maxRecDepth 20000 in
theorem ggX7_name_X7_piece : GoodIn wsX7_name wsX7_piece := goodIn_r _ [5, 6, 7, 8, 9, 10, 11, 12, 13, 14, 15, 16, 17] (by decide +kernel) (by decide +kernel)
set_option maxRecDepth 20000 in
theorem gX7_name_X7_piece : GoodIn wsX7_name (wsV RX7 70 RX7 yX7_piece wsX7_piece) := goodIn_app (goodIn_of _ (by decide +kernel)) ggX7_name_X7_piece
theorem dX7_name_0 : decode cX7_name 0 = .ok (.aload_n 0, 1) := by decide +kernel
theorem dX7_name_1 : decode cX7_name 1 = .ok (.iload_n 1, 1) := by decide +kernel
theorem dX7_name_2 : decode cX7_name 2 = .ok (.aconst_null, 1) := by decide +kernel
theorem dX7_name_3 : decode cX7_name 3 = .ok (.invokevirtual 70, 3) := by decide +kernel
theorem dX7_name_6 : decode cX7_name 6 = .ok (.astore_n 2, 1) := by decide +kernel
theorem dX7_name_7 : decode cX7_name 7 = .ok (.iconst 0, 1) := by decide +kernel
theorem dX7_name_8 : decode cX7_name 8 = .ok (.istore_n 3, 1) := by decide +kernel
theorem dX7_name_9 : decode cX7_name 9 = .ok (.iload_n 3, 1) := by decide +kernel
theorem dX7_name_10 : decode cX7_name 10 = .ok (.aload_n 2, 1) := by decide +kernel
theorem dX7_name_11 : decode cX7_name 11 = .ok (.arraylength, 1) := by decide +kernel
theorem dX7_name_12 : decode cX7_name 12 = .ok (.if_icmp .ge 17, 3) := by decide +kernel
theorem dX7_name_15 : decode cX7_name 15 = .ok (.aload_n 2, 1) := by decide +kernel
theorem dX7_name_16 : decode cX7_name 16 = .ok (.iload_n 3, 1) := by decide +kernel
theorem dX7_name_17 : decode cX7_name 17 = .ok (.baload, 1) := by decide +kernel
theorem dX7_name_18 : decode cX7_name 18 = .ok (.ifCond .eq 5, 3) := by decide +kernel
theorem dX7_name_21 : decode cX7_name 21 = .ok (.iload_n 3, 1) := by decide +kernel
theorem dX7_name_22 : decode cX7_name 22 = .ok (.ireturn, 1) := by decide +kernel
theorem dX7_name_23 : decode cX7_name 23 = .ok (.iinc 3 1, 3) := by decide +kernel
theorem dX7_name_26 : decode cX7_name 26 = .ok (.goto (-17), 3) := by decide +kernel
theorem dX7_name_29 : decode cX7_name 29 = .ok (.iconst (-1), 1) := by decide +kernel
theorem dX7_name_30 : decode cX7_name 30 = .ok (.ireturn, 1) := by decide +kernel
set_option maxRecDepth 20000 in
theorem ggX7_sum_X7_lifts : GoodIn wsX7_sum wsX7_lifts := goodIn_r _ [6, 7, 12, 13, 14, 15, 16, 17, 18, 19, 20] (by decide +kernel) (by decide +kernel)
set_option maxRecDepth 20000 in
theorem gX7_sum_X7_lifts : GoodIn wsX7_sum (wsV RX7 74 RX7 yX7_lifts wsX7_lifts) := goodIn_app (goodIn_of _ (by decide +kernel)) ggX7_sum_X7_lifts
set_option maxRecDepth 20000 in
theorem ggX7_sum_X7_load : GoodIn wsX7_sum wsX7_load := goodIn_r _ [11, 7, 1, 12, 13, 14, 15, 16, 17, 18, 19, 20] (by decide +kernel) (by decide +kernel)
set_option maxRecDepth 20000 in
theorem gX7_sum_X7_load : GoodIn wsX7_sum (wsV RX7 78 RX7 yX7_load wsX7_load) := goodIn_app (goodIn_of _ (by decide +kernel)) ggX7_sum_X7_load
theorem dX7_sum_0 : decode cX7_sum 0 = .ok (.iconst 0, 1) := by decide +kernel
theorem dX7_sum_1 : decode cX7_sum 1 = .ok (.istore_n 3, 1) := by decide +kernel
theorem dX7_sum_2 : decode cX7_sum 2 = .ok (.iconst 0, 1) := by decide +kernel
theorem dX7_sum_3 : decode cX7_sum 3 = .ok (.istore 4, 2) := by decide +kernel
theorem dX7_sum_5 : decode cX7_sum 5 = .ok (.iload 4, 2) := by decide +kernel
theorem dX7_sum_7 : decode cX7_sum 7 = .ok (.aload_n 1, 1) := by decide +kernel
theorem dX7_sum_8 : decode cX7_sum 8 = .ok (.arraylength, 1) := by decide +kernel
theorem dX7_sum_9 : decode cX7_sum 9 = .ok (.if_icmp .ge 115, 3) := by decide +kernel
theorem dX7_sum_12 : decode cX7_sum 12 = .ok (.aload_n 1, 1) := by decide +kernel
theorem dX7_sum_13 : decode cX7_sum 13 = .ok (.iload 4, 2) := by decide +kernel
theorem dX7_sum_15 : decode cX7_sum 15 = .ok (.baload, 1) := by decide +kernel
theorem dX7_sum_16 : decode cX7_sum 16 = .ok (.ifCond .ne 6, 3) := by decide +kernel
theorem dX7_sum_19 : decode cX7_sum 19 = .ok (.goto 99, 3) := by decide +kernel
theorem dX7_sum_22 : decode cX7_sum 22 = .ok (.iload_n 2, 1) := by decide +kernel
theorem dX7_sum_23 : decode cX7_sum 23 = .ok (.iconst 3, 1) := by decide +kernel
theorem dX7_sum_24 : decode cX7_sum 24 = .ok (.if_icmp .ne 54, 3) := by decide +kernel
theorem dX7_sum_27 : decode cX7_sum 27 = .ok (.aload_n 0, 1) := by decide +kernel
theorem dX7_sum_28 : decode cX7_sum 28 = .ok (.getfield 25, 3) := by decide +kernel
theorem dX7_sum_31 : decode cX7_sum 31 = .ok (.astore 5, 2) := by decide +kernel
theorem dX7_sum_33 : decode cX7_sum 33 = .ok (.aload 5, 2) := by decide +kernel
theorem dX7_sum_35 : decode cX7_sum 35 = .ok (.arraylength, 1) := by decide +kernel
theorem dX7_sum_36 : decode cX7_sum 36 = .ok (.istore 6, 2) := by decide +kernel
theorem dX7_sum_38 : decode cX7_sum 38 = .ok (.iconst 0, 1) := by decide +kernel
theorem dX7_sum_39 : decode cX7_sum 39 = .ok (.istore 7, 2) := by decide +kernel
theorem dX7_sum_41 : decode cX7_sum 41 = .ok (.iload 7, 2) := by decide +kernel
theorem dX7_sum_43 : decode cX7_sum 43 = .ok (.iload 6, 2) := by decide +kernel
theorem dX7_sum_45 : decode cX7_sum 45 = .ok (.if_icmp .ge 33, 3) := by decide +kernel
theorem dX7_sum_48 : decode cX7_sum 48 = .ok (.aload 5, 2) := by decide +kernel
theorem dX7_sum_50 : decode cX7_sum 50 = .ok (.iload 7, 2) := by decide +kernel
theorem dX7_sum_52 : decode cX7_sum 52 = .ok (.aaload, 1) := by decide +kernel
theorem dX7_sum_53 : decode cX7_sum 53 = .ok (.astore 8, 2) := by decide +kernel
theorem dX7_sum_55 : decode cX7_sum 55 = .ok (.iload_n 3, 1) := by decide +kernel
theorem dX7_sum_56 : decode cX7_sum 56 = .ok (.aload 8, 2) := by decide +kernel
theorem dX7_sum_58 : decode cX7_sum 58 = .ok (.iconst 0, 1) := by decide +kernel
theorem dX7_sum_59 : decode cX7_sum 59 = .ok (.iaload, 1) := by decide +kernel
theorem dX7_sum_60 : decode cX7_sum 60 = .ok (.iload 4, 2) := by decide +kernel
theorem dX7_sum_62 : decode cX7_sum 62 = .ok (.if_icmp .ne 7, 3) := by decide +kernel
theorem dX7_sum_65 : decode cX7_sum 65 = .ok (.iconst 1, 1) := by decide +kernel
theorem dX7_sum_66 : decode cX7_sum 66 = .ok (.goto 4, 3) := by decide +kernel
theorem dX7_sum_69 : decode cX7_sum 69 = .ok (.iconst 0, 1) := by decide +kernel
theorem dX7_sum_70 : decode cX7_sum 70 = .ok (.iadd, 1) := by decide +kernel
theorem dX7_sum_71 : decode cX7_sum 71 = .ok (.istore_n 3, 1) := by decide +kernel
theorem dX7_sum_72 : decode cX7_sum 72 = .ok (.iinc 7 1, 3) := by decide +kernel
theorem dX7_sum_75 : decode cX7_sum 75 = .ok (.goto (-34), 3) := by decide +kernel
theorem dX7_sum_78 : decode cX7_sum 78 = .ok (.iload_n 3, 1) := by decide +kernel
theorem dX7_sum_79 : decode cX7_sum 79 = .ok (.iload_n 2, 1) := by decide +kernel
theorem dX7_sum_80 : decode cX7_sum 80 = .ok (.ifCond .ne 7, 3) := by decide +kernel
theorem dX7_sum_83 : decode cX7_sum 83 = .ok (.iconst 1, 1) := by decide +kernel
theorem dX7_sum_84 : decode cX7_sum 84 = .ok (.goto 32, 3) := by decide +kernel
theorem dX7_sum_87 : decode cX7_sum 87 = .ok (.iload_n 2, 1) := by decide +kernel
theorem dX7_sum_88 : decode cX7_sum 88 = .ok (.iconst 1, 1) := by decide +kernel
theorem dX7_sum_89 : decode cX7_sum 89 = .ok (.if_icmp .ne 12, 3) := by decide +kernel
theorem dX7_sum_92 : decode cX7_sum 92 = .ok (.aload_n 0, 1) := by decide +kernel
theorem dX7_sum_93 : decode cX7_sum 93 = .ok (.iload 4, 2) := by decide +kernel
theorem dX7_sum_95 : decode cX7_sum 95 = .ok (.invokevirtual 74, 3) := by decide +kernel
theorem dX7_sum_98 : decode cX7_sum 98 = .ok (.goto 18, 3) := by decide +kernel
theorem dX7_sum_101 : decode cX7_sum 101 = .ok (.iload_n 2, 1) := by decide +kernel
theorem dX7_sum_102 : decode cX7_sum 102 = .ok (.iconst 2, 1) := by decide +kernel
theorem dX7_sum_103 : decode cX7_sum 103 = .ok (.if_icmp .ne 12, 3) := by decide +kernel
theorem dX7_sum_106 : decode cX7_sum 106 = .ok (.aload_n 0, 1) := by decide +kernel
theorem dX7_sum_107 : decode cX7_sum 107 = .ok (.iload 4, 2) := by decide +kernel
theorem dX7_sum_109 : decode cX7_sum 109 = .ok (.invokevirtual 78, 3) := by decide +kernel
theorem dX7_sum_112 : decode cX7_sum 112 = .ok (.goto 4, 3) := by decide +kernel
theorem dX7_sum_115 : decode cX7_sum 115 = .ok (.iconst 0, 1) := by decide +kernel
theorem dX7_sum_116 : decode cX7_sum 116 = .ok (.iadd, 1) := by decide +kernel
theorem dX7_sum_117 : decode cX7_sum 117 = .ok (.istore_n 3, 1) := by decide +kernel
theorem dX7_sum_118 : decode cX7_sum 118 = .ok (.iinc 4 1, 3) := by decide +kernel
theorem dX7_sum_121 : decode cX7_sum 121 = .ok (.goto (-116), 3) := by decide +kernel
theorem dX7_sum_124 : decode cX7_sum 124 = .ok (.iload_n 3, 1) := by decide +kernel
theorem dX7_sum_125 : decode cX7_sum 125 = .ok (.ireturn, 1) := by decide +kernel
set_option maxRecDepth 20000 in
theorem ggX7_end_X7_more : GoodIn wsX7_end wsX7_more := goodIn_r _ [8, 3] (by decide +kernel) (by decide +kernel)
set_option maxRecDepth 20000 in
theorem gX7_end_X7_more : GoodIn wsX7_end (va_wsS RX7 58 yX7_more wsX7_more) := goodIn_app (goodIn_of _ (by decide +kernel)) ggX7_end_X7_more
theorem dX7_end_0 : decode cX7_end 0 = .ok (.iconst 0, 1) := by decide +kernel
theorem dX7_end_1 : decode cX7_end 1 = .ok (.istore_n 3, 1) := by decide +kernel
theorem dX7_end_2 : decode cX7_end 2 = .ok (.iload_n 3, 1) := by decide +kernel
theorem dX7_end_3 : decode cX7_end 3 = .ok (.aload_n 1, 1) := by decide +kernel
theorem dX7_end_4 : decode cX7_end 4 = .ok (.arraylength, 1) := by decide +kernel
theorem dX7_end_5 : decode cX7_end 5 = .ok (.if_icmp .ge 97, 3) := by decide +kernel
theorem dX7_end_8 : decode cX7_end 8 = .ok (.aload_n 1, 1) := by decide +kernel
theorem dX7_end_9 : decode cX7_end 9 = .ok (.iload_n 3, 1) := by decide +kernel
theorem dX7_end_10 : decode cX7_end 10 = .ok (.baload, 1) := by decide +kernel
theorem dX7_end_11 : decode cX7_end 11 = .ok (.ifCond .ne 6, 3) := by decide +kernel
theorem dX7_end_14 : decode cX7_end 14 = .ok (.goto 82, 3) := by decide +kernel
theorem dX7_end_17 : decode cX7_end 17 = .ok (.aload_n 0, 1) := by decide +kernel
theorem dX7_end_18 : decode cX7_end 18 = .ok (.getfield 19, 3) := by decide +kernel
theorem dX7_end_21 : decode cX7_end 21 = .ok (.iload_n 3, 1) := by decide +kernel
theorem dX7_end_22 : decode cX7_end 22 = .ok (.aaload, 1) := by decide +kernel
theorem dX7_end_23 : decode cX7_end 23 = .ok (.bipush 6, 2) := by decide +kernel
theorem dX7_end_25 : decode cX7_end 25 = .ok (.iload_n 2, 1) := by decide +kernel
theorem dX7_end_26 : decode cX7_end 26 = .ok (.iastore, 1) := by decide +kernel
theorem dX7_end_27 : decode cX7_end 27 = .ok (.iload_n 2, 1) := by decide +kernel
theorem dX7_end_28 : decode cX7_end 28 = .ok (.iconst 1, 1) := by decide +kernel
theorem dX7_end_29 : decode cX7_end 29 = .ok (.if_icmp .ne 12, 3) := by decide +kernel
theorem dX7_end_32 : decode cX7_end 32 = .ok (.aload_n 0, 1) := by decide +kernel
theorem dX7_end_33 : decode cX7_end 33 = .ok (.getfield 19, 3) := by decide +kernel
theorem dX7_end_36 : decode cX7_end 36 = .ok (.iload_n 3, 1) := by decide +kernel
theorem dX7_end_37 : decode cX7_end 37 = .ok (.aaload, 1) := by decide +kernel
theorem dX7_end_38 : decode cX7_end 38 = .ok (.iconst 5, 1) := by decide +kernel
theorem dX7_end_39 : decode cX7_end 39 = .ok (.iconst 0, 1) := by decide +kernel
theorem dX7_end_40 : decode cX7_end 40 = .ok (.iastore, 1) := by decide +kernel
theorem dX7_end_41 : decode cX7_end 41 = .ok (.aload_n 0, 1) := by decide +kernel
theorem dX7_end_42 : decode cX7_end 42 = .ok (.getfield 25, 3) := by decide +kernel
theorem dX7_end_45 : decode cX7_end 45 = .ok (.astore 4, 2) := by decide +kernel
theorem dX7_end_47 : decode cX7_end 47 = .ok (.aload 4, 2) := by decide +kernel
theorem dX7_end_49 : decode cX7_end 49 = .ok (.arraylength, 1) := by decide +kernel
theorem dX7_end_50 : decode cX7_end 50 = .ok (.istore 5, 2) := by decide +kernel
theorem dX7_end_52 : decode cX7_end 52 = .ok (.iconst 0, 1) := by decide +kernel
theorem dX7_end_53 : decode cX7_end 53 = .ok (.istore 6, 2) := by decide +kernel
theorem dX7_end_55 : decode cX7_end 55 = .ok (.iload 6, 2) := by decide +kernel
theorem dX7_end_57 : decode cX7_end 57 = .ok (.iload 5, 2) := by decide +kernel
theorem dX7_end_59 : decode cX7_end 59 = .ok (.if_icmp .ge 37, 3) := by decide +kernel
theorem dX7_end_62 : decode cX7_end 62 = .ok (.aload 4, 2) := by decide +kernel
theorem dX7_end_64 : decode cX7_end 64 = .ok (.iload 6, 2) := by decide +kernel
theorem dX7_end_66 : decode cX7_end 66 = .ok (.aaload, 1) := by decide +kernel
theorem dX7_end_67 : decode cX7_end 67 = .ok (.astore 7, 2) := by decide +kernel
theorem dX7_end_69 : decode cX7_end 69 = .ok (.aload 7, 2) := by decide +kernel
theorem dX7_end_71 : decode cX7_end 71 = .ok (.iconst 0, 1) := by decide +kernel
theorem dX7_end_72 : decode cX7_end 72 = .ok (.iaload, 1) := by decide +kernel
theorem dX7_end_73 : decode cX7_end 73 = .ok (.iload_n 3, 1) := by decide +kernel
theorem dX7_end_74 : decode cX7_end 74 = .ok (.if_icmp .eq 6, 3) := by decide +kernel
theorem dX7_end_77 : decode cX7_end 77 = .ok (.goto 13, 3) := by decide +kernel
theorem dX7_end_80 : decode cX7_end 80 = .ok (.aload 7, 2) := by decide +kernel
theorem dX7_end_82 : decode cX7_end 82 = .ok (.iconst 0, 1) := by decide +kernel
theorem dX7_end_83 : decode cX7_end 83 = .ok (.iconst (-1), 1) := by decide +kernel
theorem dX7_end_84 : decode cX7_end 84 = .ok (.iastore, 1) := by decide +kernel
theorem dX7_end_85 : decode cX7_end 85 = .ok (.aload 7, 2) := by decide +kernel
theorem dX7_end_87 : decode cX7_end 87 = .ok (.iconst 1, 1) := by decide +kernel
theorem dX7_end_88 : decode cX7_end 88 = .ok (.iload_n 2, 1) := by decide +kernel
theorem dX7_end_89 : decode cX7_end 89 = .ok (.iastore, 1) := by decide +kernel
theorem dX7_end_90 : decode cX7_end 90 = .ok (.iinc 6 1, 3) := by decide +kernel
theorem dX7_end_93 : decode cX7_end 93 = .ok (.goto (-38), 3) := by decide +kernel
theorem dX7_end_96 : decode cX7_end 96 = .ok (.iinc 3 1, 3) := by decide +kernel
theorem dX7_end_99 : decode cX7_end 99 = .ok (.goto (-97), 3) := by decide +kernel
theorem dX7_end_102 : decode cX7_end 102 = .ok (.iconst 0, 1) := by decide +kernel
theorem dX7_end_103 : decode cX7_end 103 = .ok (.anewarray 13, 3) := by decide +kernel
theorem dX7_end_106 : decode cX7_end 106 = .ok (.astore_n 3, 1) := by decide +kernel
theorem dX7_end_107 : decode cX7_end 107 = .ok (.aload_n 0, 1) := by decide +kernel
theorem dX7_end_108 : decode cX7_end 108 = .ok (.getfield 22, 3) := by decide +kernel
theorem dX7_end_111 : decode cX7_end 111 = .ok (.astore 4, 2) := by decide +kernel
theorem dX7_end_113 : decode cX7_end 113 = .ok (.aload 4, 2) := by decide +kernel
theorem dX7_end_115 : decode cX7_end 115 = .ok (.arraylength, 1) := by decide +kernel
theorem dX7_end_116 : decode cX7_end 116 = .ok (.istore 5, 2) := by decide +kernel
theorem dX7_end_118 : decode cX7_end 118 = .ok (.iconst 0, 1) := by decide +kernel
theorem dX7_end_119 : decode cX7_end 119 = .ok (.istore 6, 2) := by decide +kernel
theorem dX7_end_121 : decode cX7_end 121 = .ok (.iload 6, 2) := by decide +kernel
theorem dX7_end_123 : decode cX7_end 123 = .ok (.iload 5, 2) := by decide +kernel
theorem dX7_end_125 : decode cX7_end 125 = .ok (.if_icmp .ge 32, 3) := by decide +kernel
theorem dX7_end_128 : decode cX7_end 128 = .ok (.aload 4, 2) := by decide +kernel
theorem dX7_end_130 : decode cX7_end 130 = .ok (.iload 6, 2) := by decide +kernel
theorem dX7_end_132 : decode cX7_end 132 = .ok (.aaload, 1) := by decide +kernel
theorem dX7_end_133 : decode cX7_end 133 = .ok (.astore 7, 2) := by decide +kernel
theorem dX7_end_135 : decode cX7_end 135 = .ok (.aload_n 1, 1) := by decide +kernel
theorem dX7_end_136 : decode cX7_end 136 = .ok (.aload 7, 2) := by decide +kernel
theorem dX7_end_138 : decode cX7_end 138 = .ok (.iconst 0, 1) := by decide +kernel
theorem dX7_end_139 : decode cX7_end 139 = .ok (.iaload, 1) := by decide +kernel
theorem dX7_end_140 : decode cX7_end 140 = .ok (.baload, 1) := by decide +kernel
theorem dX7_end_141 : decode cX7_end 141 = .ok (.ifCond .ne 10, 3) := by decide +kernel
theorem dX7_end_144 : decode cX7_end 144 = .ok (.aload_n 3, 1) := by decide +kernel
theorem dX7_end_145 : decode cX7_end 145 = .ok (.aload 7, 2) := by decide +kernel
theorem dX7_end_147 : decode cX7_end 147 = .ok (.invokestatic 58, 3) := by decide +kernel
theorem dX7_end_150 : decode cX7_end 150 = .ok (.astore_n 3, 1) := by decide +kernel
theorem dX7_end_151 : decode cX7_end 151 = .ok (.iinc 6 1, 3) := by decide +kernel
theorem dX7_end_154 : decode cX7_end 154 = .ok (.goto (-33), 3) := by decide +kernel
theorem dX7_end_157 : decode cX7_end 157 = .ok (.aload_n 0, 1) := by decide +kernel
theorem dX7_end_158 : decode cX7_end 158 = .ok (.aload_n 3, 1) := by decide +kernel
theorem dX7_end_159 : decode cX7_end 159 = .ok (.putfield 22, 3) := by decide +kernel
theorem dX7_end_162 : decode cX7_end 162 = .ok (.return_, 1) := by decide +kernel
set_option maxRecDepth 20000 in
theorem ggX7_pass_X7_name : GoodIn wsX7_pass wsX7_name := goodIn_r _ [20, 21, 22, 23, 19, 24, 1, 25, 7, 51, 52, 53, 54, 55, 56, 57, 58, 59] (by decide +kernel) (by decide +kernel)
set_option maxRecDepth 20000 in
theorem gX7_pass_X7_name : GoodIn wsX7_pass (wsV RX7 81 RX7 yX7_name wsX7_name) := goodIn_app (goodIn_of _ (by decide +kernel)) ggX7_pass_X7_name
set_option maxRecDepth 20000 in
theorem ggX7_pass_X7_piece : GoodIn wsX7_pass wsX7_piece := goodIn_r _ [24, 1, 25, 7, 51, 52, 53, 54, 55, 56, 57, 58, 59] (by decide +kernel) (by decide +kernel)
set_option maxRecDepth 20000 in
theorem gX7_pass_X7_piece : GoodIn wsX7_pass (wsV RX7 70 RX7 yX7_piece wsX7_piece) := goodIn_app (goodIn_of _ (by decide +kernel)) ggX7_pass_X7_piece
set_option maxRecDepth 20000 in
theorem ggX7_pass_X7_sum : GoodIn wsX7_pass wsX7_sum := goodIn_r _ [29, 30, 31, 32, 33, 19, 34, 1, 35, 36, 37, 38, 51, 52, 53, 54, 55, 56, 57, 58, 59] (by decide +kernel) (by decide +kernel)
set_option maxRecDepth 20000 in
theorem gX7_pass_X7_sum : GoodIn wsX7_pass (wsV RX7 84 RX7 yX7_sum wsX7_sum) := goodIn_app (goodIn_of _ (by decide +kernel)) ggX7_pass_X7_sum
set_option maxRecDepth 20000 in
theorem ggX7_pass_X7_end : GoodIn wsX7_pass wsX7_end := goodIn_r _ [42, 1, 30, 6, 7, 43, 44, 19, 45, 51, 52, 53, 54, 55, 56, 57, 58, 59] (by decide +kernel) (by decide +kernel)
set_option maxRecDepth 20000 in
theorem gX7_pass_X7_end : GoodIn wsX7_pass (wsV RX7 88 RX7 yX7_end wsX7_end) := goodIn_app (goodIn_of _ (by decide +kernel)) ggX7_pass_X7_end
set_option maxRecDepth 20000 in
theorem ggX7_pass_X7_sea : GoodIn wsX7_pass wsX7_sea := goodIn_r _ [49, 13, 50, 51, 52, 53, 54, 55, 56, 57, 58, 59] (by decide +kernel) (by decide +kernel)
set_option maxRecDepth 20000 in
theorem gX7_pass_X7_sea : GoodIn wsX7_pass (wsV RX7 92 RX7 yX7_sea wsX7_sea) := goodIn_app (goodIn_of _ (by decide +kernel)) ggX7_pass_X7_sea
set_option maxRecDepth 20000 in
theorem ggX7_pass_X7_load : GoodIn wsX7_pass wsX7_load := goodIn_r _ [38, 1, 30, 51, 52, 53, 54, 55, 56, 57, 58, 59] (by decide +kernel) (by decide +kernel)
set_option maxRecDepth 20000 in
theorem gX7_pass_X7_load : GoodIn wsX7_pass (wsV RX7 78 RX7 yX7_load wsX7_load) := goodIn_app (goodIn_of _ (by decide +kernel)) ggX7_pass_X7_load
set_option maxRecDepth 20000 in
theorem ggX7_pass_X7_more : GoodIn wsX7_pass wsX7_more := goodIn_r _ [45, 6] (by decide +kernel) (by decide +kernel)
set_option maxRecDepth 20000 in
theorem gX7_pass_X7_more : GoodIn wsX7_pass (va_wsS RX7 58 yX7_more wsX7_more) := goodIn_app (goodIn_of _ (by decide +kernel)) ggX7_pass_X7_more
theorem dX7_pass_0 : decode cX7_pass 0 = .ok (.aload_n 0, 1) := by decide +kernel
theorem dX7_pass_1 : decode cX7_pass 1 = .ok (.getfield 19, 3) := by decide +kernel
theorem dX7_pass_4 : decode cX7_pass 4 = .ok (.astore_n 1, 1) := by decide +kernel
theorem dX7_pass_5 : decode cX7_pass 5 = .ok (.aload_n 1, 1) := by decide +kernel
theorem dX7_pass_6 : decode cX7_pass 6 = .ok (.arraylength, 1) := by decide +kernel
theorem dX7_pass_7 : decode cX7_pass 7 = .ok (.istore_n 2, 1) := by decide +kernel
theorem dX7_pass_8 : decode cX7_pass 8 = .ok (.iconst 0, 1) := by decide +kernel
theorem dX7_pass_9 : decode cX7_pass 9 = .ok (.istore_n 3, 1) := by decide +kernel
theorem dX7_pass_10 : decode cX7_pass 10 = .ok (.iload_n 3, 1) := by decide +kernel
theorem dX7_pass_11 : decode cX7_pass 11 = .ok (.iload_n 2, 1) := by decide +kernel
theorem dX7_pass_12 : decode cX7_pass 12 = .ok (.if_icmp .ge 40, 3) := by decide +kernel
theorem dX7_pass_15 : decode cX7_pass 15 = .ok (.aload_n 1, 1) := by decide +kernel
theorem dX7_pass_16 : decode cX7_pass 16 = .ok (.iload_n 3, 1) := by decide +kernel
theorem dX7_pass_17 : decode cX7_pass 17 = .ok (.aaload, 1) := by decide +kernel
theorem dX7_pass_18 : decode cX7_pass 18 = .ok (.astore 4, 2) := by decide +kernel
theorem dX7_pass_20 : decode cX7_pass 20 = .ok (.aload 4, 2) := by decide +kernel
theorem dX7_pass_22 : decode cX7_pass 22 = .ok (.bipush 6, 2) := by decide +kernel
theorem dX7_pass_24 : decode cX7_pass 24 = .ok (.iaload, 1) := by decide +kernel
theorem dX7_pass_25 : decode cX7_pass 25 = .ok (.ifCond .ne 21, 3) := by decide +kernel
theorem dX7_pass_28 : decode cX7_pass 28 = .ok (.aload 4, 2) := by decide +kernel
theorem dX7_pass_30 : decode cX7_pass 30 = .ok (.iconst 4, 1) := by decide +kernel
theorem dX7_pass_31 : decode cX7_pass 31 = .ok (.bipush 100, 2) := by decide +kernel
theorem dX7_pass_33 : decode cX7_pass 33 = .ok (.aload 4, 2) := by decide +kernel
theorem dX7_pass_35 : decode cX7_pass 35 = .ok (.iconst 4, 1) := by decide +kernel
theorem dX7_pass_36 : decode cX7_pass 36 = .ok (.iaload, 1) := by decide +kernel
theorem dX7_pass_37 : decode cX7_pass 37 = .ok (.aload 4, 2) := by decide +kernel
theorem dX7_pass_39 : decode cX7_pass 39 = .ok (.iconst 3, 1) := by decide +kernel
theorem dX7_pass_40 : decode cX7_pass 40 = .ok (.iaload, 1) := by decide +kernel
theorem dX7_pass_41 : decode cX7_pass 41 = .ok (.iadd, 1) := by decide +kernel
theorem dX7_pass_42 : decode cX7_pass 42 = .ok (.invokestatic 49, 3) := by decide +kernel
theorem dX7_pass_45 : decode cX7_pass 45 = .ok (.iastore, 1) := by decide +kernel
theorem dX7_pass_46 : decode cX7_pass 46 = .ok (.iinc 3 1, 3) := by decide +kernel
theorem dX7_pass_49 : decode cX7_pass 49 = .ok (.goto (-39), 3) := by decide +kernel
theorem dX7_pass_52 : decode cX7_pass 52 = .ok (.iconst 0, 1) := by decide +kernel
theorem dX7_pass_53 : decode cX7_pass 53 = .ok (.istore_n 1, 1) := by decide +kernel
theorem dX7_pass_54 : decode cX7_pass 54 = .ok (.iload_n 1, 1) := by decide +kernel
theorem dX7_pass_55 : decode cX7_pass 55 = .ok (.aload_n 0, 1) := by decide +kernel
theorem dX7_pass_56 : decode cX7_pass 56 = .ok (.getfield 19, 3) := by decide +kernel
theorem dX7_pass_59 : decode cX7_pass 59 = .ok (.arraylength, 1) := by decide +kernel
theorem dX7_pass_60 : decode cX7_pass 60 = .ok (.if_icmp .ge 49, 3) := by decide +kernel
theorem dX7_pass_63 : decode cX7_pass 63 = .ok (.aload_n 0, 1) := by decide +kernel
theorem dX7_pass_64 : decode cX7_pass 64 = .ok (.iload_n 1, 1) := by decide +kernel
theorem dX7_pass_65 : decode cX7_pass 65 = .ok (.invokevirtual 81, 3) := by decide +kernel
theorem dX7_pass_68 : decode cX7_pass 68 = .ok (.iload_n 1, 1) := by decide +kernel
theorem dX7_pass_69 : decode cX7_pass 69 = .ok (.if_icmp .eq 6, 3) := by decide +kernel
theorem dX7_pass_72 : decode cX7_pass 72 = .ok (.goto 31, 3) := by decide +kernel
theorem dX7_pass_75 : decode cX7_pass 75 = .ok (.aload_n 0, 1) := by decide +kernel
theorem dX7_pass_76 : decode cX7_pass 76 = .ok (.iload_n 1, 1) := by decide +kernel
theorem dX7_pass_77 : decode cX7_pass 77 = .ok (.aconst_null, 1) := by decide +kernel
theorem dX7_pass_78 : decode cX7_pass 78 = .ok (.invokevirtual 70, 3) := by decide +kernel
theorem dX7_pass_81 : decode cX7_pass 81 = .ok (.astore_n 2, 1) := by decide +kernel
theorem dX7_pass_82 : decode cX7_pass 82 = .ok (.aload_n 0, 1) := by decide +kernel
theorem dX7_pass_83 : decode cX7_pass 83 = .ok (.aload_n 2, 1) := by decide +kernel
theorem dX7_pass_84 : decode cX7_pass 84 = .ok (.iconst 2, 1) := by decide +kernel
theorem dX7_pass_85 : decode cX7_pass 85 = .ok (.invokevirtual 84, 3) := by decide +kernel
theorem dX7_pass_88 : decode cX7_pass 88 = .ok (.aload_n 0, 1) := by decide +kernel
theorem dX7_pass_89 : decode cX7_pass 89 = .ok (.aload_n 2, 1) := by decide +kernel
theorem dX7_pass_90 : decode cX7_pass 90 = .ok (.iconst 1, 1) := by decide +kernel
theorem dX7_pass_91 : decode cX7_pass 91 = .ok (.invokevirtual 84, 3) := by decide +kernel
theorem dX7_pass_94 : decode cX7_pass 94 = .ok (.if_icmp .le 9, 3) := by decide +kernel
theorem dX7_pass_97 : decode cX7_pass 97 = .ok (.aload_n 0, 1) := by decide +kernel
theorem dX7_pass_98 : decode cX7_pass 98 = .ok (.aload_n 2, 1) := by decide +kernel
theorem dX7_pass_99 : decode cX7_pass 99 = .ok (.iconst 1, 1) := by decide +kernel
theorem dX7_pass_100 : decode cX7_pass 100 = .ok (.invokevirtual 88, 3) := by decide +kernel
theorem dX7_pass_103 : decode cX7_pass 103 = .ok (.iinc 1 1, 3) := by decide +kernel
theorem dX7_pass_106 : decode cX7_pass 106 = .ok (.goto (-52), 3) := by decide +kernel
theorem dX7_pass_109 : decode cX7_pass 109 = .ok (.iconst 0, 1) := by decide +kernel
theorem dX7_pass_110 : decode cX7_pass 110 = .ok (.istore_n 1, 1) := by decide +kernel
theorem dX7_pass_111 : decode cX7_pass 111 = .ok (.iconst 0, 1) := by decide +kernel
theorem dX7_pass_112 : decode cX7_pass 112 = .ok (.anewarray 13, 3) := by decide +kernel
theorem dX7_pass_115 : decode cX7_pass 115 = .ok (.astore_n 2, 1) := by decide +kernel
theorem dX7_pass_116 : decode cX7_pass 116 = .ok (.aload_n 0, 1) := by decide +kernel
theorem dX7_pass_117 : decode cX7_pass 117 = .ok (.getfield 22, 3) := by decide +kernel
theorem dX7_pass_120 : decode cX7_pass 120 = .ok (.astore_n 3, 1) := by decide +kernel
theorem dX7_pass_121 : decode cX7_pass 121 = .ok (.aload_n 3, 1) := by decide +kernel
theorem dX7_pass_122 : decode cX7_pass 122 = .ok (.arraylength, 1) := by decide +kernel
theorem dX7_pass_123 : decode cX7_pass 123 = .ok (.istore 4, 2) := by decide +kernel
theorem dX7_pass_125 : decode cX7_pass 125 = .ok (.iconst 0, 1) := by decide +kernel
theorem dX7_pass_126 : decode cX7_pass 126 = .ok (.istore 5, 2) := by decide +kernel
theorem dX7_pass_128 : decode cX7_pass 128 = .ok (.iload 5, 2) := by decide +kernel
theorem dX7_pass_130 : decode cX7_pass 130 = .ok (.iload 4, 2) := by decide +kernel
theorem dX7_pass_132 : decode cX7_pass 132 = .ok (.if_icmp .ge 108, 3) := by decide +kernel
theorem dX7_pass_135 : decode cX7_pass 135 = .ok (.aload_n 3, 1) := by decide +kernel
theorem dX7_pass_136 : decode cX7_pass 136 = .ok (.iload 5, 2) := by decide +kernel
theorem dX7_pass_138 : decode cX7_pass 138 = .ok (.aaload, 1) := by decide +kernel
theorem dX7_pass_139 : decode cX7_pass 139 = .ok (.astore 6, 2) := by decide +kernel
theorem dX7_pass_141 : decode cX7_pass 141 = .ok (.aload_n 0, 1) := by decide +kernel
theorem dX7_pass_142 : decode cX7_pass 142 = .ok (.aload_n 0, 1) := by decide +kernel
theorem dX7_pass_143 : decode cX7_pass 143 = .ok (.getfield 19, 3) := by decide +kernel
theorem dX7_pass_146 : decode cX7_pass 146 = .ok (.aload 6, 2) := by decide +kernel
theorem dX7_pass_148 : decode cX7_pass 148 = .ok (.iconst 0, 1) := by decide +kernel
theorem dX7_pass_149 : decode cX7_pass 149 = .ok (.iaload, 1) := by decide +kernel
theorem dX7_pass_150 : decode cX7_pass 150 = .ok (.aaload, 1) := by decide +kernel
theorem dX7_pass_151 : decode cX7_pass 151 = .ok (.bipush 7, 2) := by decide +kernel
theorem dX7_pass_153 : decode cX7_pass 153 = .ok (.iaload, 1) := by decide +kernel
theorem dX7_pass_154 : decode cX7_pass 154 = .ok (.aload_n 0, 1) := by decide +kernel
theorem dX7_pass_155 : decode cX7_pass 155 = .ok (.getfield 19, 3) := by decide +kernel
theorem dX7_pass_158 : decode cX7_pass 158 = .ok (.aload 6, 2) := by decide +kernel
theorem dX7_pass_160 : decode cX7_pass 160 = .ok (.iconst 0, 1) := by decide +kernel
theorem dX7_pass_161 : decode cX7_pass 161 = .ok (.iaload, 1) := by decide +kernel
theorem dX7_pass_162 : decode cX7_pass 162 = .ok (.aaload, 1) := by decide +kernel
theorem dX7_pass_163 : decode cX7_pass 163 = .ok (.bipush 8, 2) := by decide +kernel
theorem dX7_pass_165 : decode cX7_pass 165 = .ok (.iaload, 1) := by decide +kernel
theorem dX7_pass_166 : decode cX7_pass 166 = .ok (.invokevirtual 92, 3) := by decide +kernel
theorem dX7_pass_169 : decode cX7_pass 169 = .ok (.iconst 2, 1) := by decide +kernel
theorem dX7_pass_170 : decode cX7_pass 170 = .ok (.iaload, 1) := by decide +kernel
theorem dX7_pass_171 : decode cX7_pass 171 = .ok (.aload_n 0, 1) := by decide +kernel
theorem dX7_pass_172 : decode cX7_pass 172 = .ok (.aload 6, 2) := by decide +kernel
theorem dX7_pass_174 : decode cX7_pass 174 = .ok (.iconst 0, 1) := by decide +kernel
theorem dX7_pass_175 : decode cX7_pass 175 = .ok (.iaload, 1) := by decide +kernel
theorem dX7_pass_176 : decode cX7_pass 176 = .ok (.invokevirtual 78, 3) := by decide +kernel
theorem dX7_pass_179 : decode cX7_pass 179 = .ok (.aload_n 0, 1) := by decide +kernel
theorem dX7_pass_180 : decode cX7_pass 180 = .ok (.aload 6, 2) := by decide +kernel
theorem dX7_pass_182 : decode cX7_pass 182 = .ok (.iconst 1, 1) := by decide +kernel
theorem dX7_pass_183 : decode cX7_pass 183 = .ok (.iaload, 1) := by decide +kernel
theorem dX7_pass_184 : decode cX7_pass 184 = .ok (.invokevirtual 78, 3) := by decide +kernel
theorem dX7_pass_187 : decode cX7_pass 187 = .ok (.isub, 1) := by decide +kernel
theorem dX7_pass_188 : decode cX7_pass 188 = .ok (.invokestatic 95, 3) := by decide +kernel
theorem dX7_pass_191 : decode cX7_pass 191 = .ok (.iconst 2, 1) := by decide +kernel
theorem dX7_pass_192 : decode cX7_pass 192 = .ok (.idiv, 1) := by decide +kernel
theorem dX7_pass_193 : decode cX7_pass 193 = .ok (.iadd, 1) := by decide +kernel
theorem dX7_pass_194 : decode cX7_pass 194 = .ok (.istore 7, 2) := by decide +kernel
theorem dX7_pass_196 : decode cX7_pass 196 = .ok (.iload 7, 2) := by decide +kernel
theorem dX7_pass_198 : decode cX7_pass 198 = .ok (.aload 6, 2) := by decide +kernel
theorem dX7_pass_200 : decode cX7_pass 200 = .ok (.iconst 2, 1) := by decide +kernel
theorem dX7_pass_201 : decode cX7_pass 201 = .ok (.iaload, 1) := by decide +kernel
theorem dX7_pass_202 : decode cX7_pass 202 = .ok (.aload 6, 2) := by decide +kernel
theorem dX7_pass_204 : decode cX7_pass 204 = .ok (.iconst 3, 1) := by decide +kernel
theorem dX7_pass_205 : decode cX7_pass 205 = .ok (.iaload, 1) := by decide +kernel
theorem dX7_pass_206 : decode cX7_pass 206 = .ok (.isub, 1) := by decide +kernel
theorem dX7_pass_207 : decode cX7_pass 207 = .ok (.if_icmp .le 9, 3) := by decide +kernel
theorem dX7_pass_210 : decode cX7_pass 210 = .ok (.iinc 1 1, 3) := by decide +kernel
theorem dX7_pass_213 : decode cX7_pass 213 = .ok (.goto 21, 3) := by decide +kernel
theorem dX7_pass_216 : decode cX7_pass 216 = .ok (.aload 6, 2) := by decide +kernel
theorem dX7_pass_218 : decode cX7_pass 218 = .ok (.iconst 3, 1) := by decide +kernel
theorem dX7_pass_219 : decode cX7_pass 219 = .ok (.dup2, 1) := by decide +kernel
theorem dX7_pass_220 : decode cX7_pass 220 = .ok (.iaload, 1) := by decide +kernel
theorem dX7_pass_221 : decode cX7_pass 221 = .ok (.iload 7, 2) := by decide +kernel
theorem dX7_pass_223 : decode cX7_pass 223 = .ok (.iconst 4, 1) := by decide +kernel
theorem dX7_pass_224 : decode cX7_pass 224 = .ok (.idiv, 1) := by decide +kernel
theorem dX7_pass_225 : decode cX7_pass 225 = .ok (.iadd, 1) := by decide +kernel
theorem dX7_pass_226 : decode cX7_pass 226 = .ok (.iastore, 1) := by decide +kernel
theorem dX7_pass_227 : decode cX7_pass 227 = .ok (.aload_n 2, 1) := by decide +kernel
theorem dX7_pass_228 : decode cX7_pass 228 = .ok (.aload 6, 2) := by decide +kernel
theorem dX7_pass_230 : decode cX7_pass 230 = .ok (.invokestatic 58, 3) := by decide +kernel
theorem dX7_pass_233 : decode cX7_pass 233 = .ok (.astore_n 2, 1) := by decide +kernel
theorem dX7_pass_234 : decode cX7_pass 234 = .ok (.iinc 5 1, 3) := by decide +kernel
theorem dX7_pass_237 : decode cX7_pass 237 = .ok (.goto (-109), 3) := by decide +kernel
theorem dX7_pass_240 : decode cX7_pass 240 = .ok (.aload_n 0, 1) := by decide +kernel
theorem dX7_pass_241 : decode cX7_pass 241 = .ok (.aload_n 2, 1) := by decide +kernel
theorem dX7_pass_242 : decode cX7_pass 242 = .ok (.putfield 22, 3) := by decide +kernel
theorem dX7_pass_245 : decode cX7_pass 245 = .ok (.aload_n 0, 1) := by decide +kernel
theorem dX7_pass_246 : decode cX7_pass 246 = .ok (.getfield 19, 3) := by decide +kernel
theorem dX7_pass_249 : decode cX7_pass 249 = .ok (.arraylength, 1) := by decide +kernel
theorem dX7_pass_250 : decode cX7_pass 250 = .ok (.anewarray 13, 3) := by decide +kernel
theorem dX7_pass_253 : decode cX7_pass 253 = .ok (.astore_n 3, 1) := by decide +kernel
theorem dX7_pass_254 : decode cX7_pass 254 = .ok (.iconst 0, 1) := by decide +kernel
theorem dX7_pass_255 : decode cX7_pass 255 = .ok (.istore 4, 2) := by decide +kernel
theorem dX7_pass_257 : decode cX7_pass 257 = .ok (.iload 4, 2) := by decide +kernel
theorem dX7_pass_259 : decode cX7_pass 259 = .ok (.aload_n 0, 1) := by decide +kernel
theorem dX7_pass_260 : decode cX7_pass 260 = .ok (.getfield 19, 3) := by decide +kernel
theorem dX7_pass_263 : decode cX7_pass 263 = .ok (.arraylength, 1) := by decide +kernel
theorem dX7_pass_264 : decode cX7_pass 264 = .ok (.if_icmp .ge 207, 3) := by decide +kernel
theorem dX7_pass_267 : decode cX7_pass 267 = .ok (.aload_n 0, 1) := by decide +kernel
theorem dX7_pass_268 : decode cX7_pass 268 = .ok (.getfield 19, 3) := by decide +kernel
theorem dX7_pass_271 : decode cX7_pass 271 = .ok (.iload 4, 2) := by decide +kernel
theorem dX7_pass_273 : decode cX7_pass 273 = .ok (.aaload, 1) := by decide +kernel
theorem dX7_pass_274 : decode cX7_pass 274 = .ok (.bipush 6, 2) := by decide +kernel
theorem dX7_pass_276 : decode cX7_pass 276 = .ok (.iaload, 1) := by decide +kernel
theorem dX7_pass_277 : decode cX7_pass 277 = .ok (.ifCond .le 6, 3) := by decide +kernel
theorem dX7_pass_280 : decode cX7_pass 280 = .ok (.goto 185, 3) := by decide +kernel
theorem dX7_pass_283 : decode cX7_pass 283 = .ok (.aload_n 0, 1) := by decide +kernel
theorem dX7_pass_284 : decode cX7_pass 284 = .ok (.iload 4, 2) := by decide +kernel
theorem dX7_pass_286 : decode cX7_pass 286 = .ok (.aconst_null, 1) := by decide +kernel
theorem dX7_pass_287 : decode cX7_pass 287 = .ok (.invokevirtual 70, 3) := by decide +kernel
theorem dX7_pass_290 : decode cX7_pass 290 = .ok (.astore 5, 2) := by decide +kernel
theorem dX7_pass_292 : decode cX7_pass 292 = .ok (.aload_n 0, 1) := by decide +kernel
theorem dX7_pass_293 : decode cX7_pass 293 = .ok (.aload_n 0, 1) := by decide +kernel
theorem dX7_pass_294 : decode cX7_pass 294 = .ok (.getfield 19, 3) := by decide +kernel
theorem dX7_pass_297 : decode cX7_pass 297 = .ok (.iload 4, 2) := by decide +kernel
theorem dX7_pass_299 : decode cX7_pass 299 = .ok (.aaload, 1) := by decide +kernel
theorem dX7_pass_300 : decode cX7_pass 300 = .ok (.bipush 7, 2) := by decide +kernel
theorem dX7_pass_302 : decode cX7_pass 302 = .ok (.iaload, 1) := by decide +kernel
theorem dX7_pass_303 : decode cX7_pass 303 = .ok (.aload_n 0, 1) := by decide +kernel
theorem dX7_pass_304 : decode cX7_pass 304 = .ok (.getfield 19, 3) := by decide +kernel
theorem dX7_pass_307 : decode cX7_pass 307 = .ok (.iload 4, 2) := by decide +kernel
theorem dX7_pass_309 : decode cX7_pass 309 = .ok (.aaload, 1) := by decide +kernel
theorem dX7_pass_310 : decode cX7_pass 310 = .ok (.bipush 8, 2) := by decide +kernel
theorem dX7_pass_312 : decode cX7_pass 312 = .ok (.iaload, 1) := by decide +kernel
theorem dX7_pass_313 : decode cX7_pass 313 = .ok (.invokevirtual 92, 3) := by decide +kernel
theorem dX7_pass_316 : decode cX7_pass 316 = .ok (.astore 6, 2) := by decide +kernel
theorem dX7_pass_318 : decode cX7_pass 318 = .ok (.iconst 2, 1) := by decide +kernel
theorem dX7_pass_319 : decode cX7_pass 319 = .ok (.aload_n 0, 1) := by decide +kernel
theorem dX7_pass_320 : decode cX7_pass 320 = .ok (.aload 5, 2) := by decide +kernel
theorem dX7_pass_322 : decode cX7_pass 322 = .ok (.iconst 2, 1) := by decide +kernel
theorem dX7_pass_323 : decode cX7_pass 323 = .ok (.invokevirtual 84, 3) := by decide +kernel
theorem dX7_pass_326 : decode cX7_pass 326 = .ok (.imul, 1) := by decide +kernel
theorem dX7_pass_327 : decode cX7_pass 327 = .ok (.aload_n 0, 1) := by decide +kernel
theorem dX7_pass_328 : decode cX7_pass 328 = .ok (.aload 5, 2) := by decide +kernel
theorem dX7_pass_330 : decode cX7_pass 330 = .ok (.iconst 1, 1) := by decide +kernel
theorem dX7_pass_331 : decode cX7_pass 331 = .ok (.invokevirtual 84, 3) := by decide +kernel
theorem dX7_pass_334 : decode cX7_pass 334 = .ok (.if_icmp .ge 7, 3) := by decide +kernel
theorem dX7_pass_337 : decode cX7_pass 337 = .ok (.iconst 1, 1) := by decide +kernel
theorem dX7_pass_338 : decode cX7_pass 338 = .ok (.goto 4, 3) := by decide +kernel
theorem dX7_pass_341 : decode cX7_pass 341 = .ok (.iconst 0, 1) := by decide +kernel
theorem dX7_pass_342 : decode cX7_pass 342 = .ok (.istore 7, 2) := by decide +kernel
theorem dX7_pass_344 : decode cX7_pass 344 = .ok (.aload_n 0, 1) := by decide +kernel
theorem dX7_pass_345 : decode cX7_pass 345 = .ok (.getfield 19, 3) := by decide +kernel
theorem dX7_pass_348 : decode cX7_pass 348 = .ok (.iload 4, 2) := by decide +kernel
theorem dX7_pass_350 : decode cX7_pass 350 = .ok (.aaload, 1) := by decide +kernel
theorem dX7_pass_351 : decode cX7_pass 351 = .ok (.bipush 7, 2) := by decide +kernel
theorem dX7_pass_353 : decode cX7_pass 353 = .ok (.iaload, 1) := by decide +kernel
theorem dX7_pass_354 : decode cX7_pass 354 = .ok (.aload 6, 2) := by decide +kernel
theorem dX7_pass_356 : decode cX7_pass 356 = .ok (.iconst 0, 1) := by decide +kernel
theorem dX7_pass_357 : decode cX7_pass 357 = .ok (.iaload, 1) := by decide +kernel
theorem dX7_pass_358 : decode cX7_pass 358 = .ok (.iadd, 1) := by decide +kernel
theorem dX7_pass_359 : decode cX7_pass 359 = .ok (.iload 7, 2) := by decide +kernel
theorem dX7_pass_361 : decode cX7_pass 361 = .ok (.ifCond .eq 10, 3) := by decide +kernel
theorem dX7_pass_364 : decode cX7_pass 364 = .ok (.aload_n 0, 1) := by decide +kernel
theorem dX7_pass_365 : decode cX7_pass 365 = .ok (.getfield 39, 3) := by decide +kernel
theorem dX7_pass_368 : decode cX7_pass 368 = .ok (.goto 4, 3) := by decide +kernel
theorem dX7_pass_371 : decode cX7_pass 371 = .ok (.iconst 0, 1) := by decide +kernel
theorem dX7_pass_372 : decode cX7_pass 372 = .ok (.iadd, 1) := by decide +kernel
theorem dX7_pass_373 : decode cX7_pass 373 = .ok (.istore 8, 2) := by decide +kernel
theorem dX7_pass_375 : decode cX7_pass 375 = .ok (.aload_n 0, 1) := by decide +kernel
theorem dX7_pass_376 : decode cX7_pass 376 = .ok (.getfield 19, 3) := by decide +kernel
theorem dX7_pass_379 : decode cX7_pass 379 = .ok (.iload 4, 2) := by decide +kernel
theorem dX7_pass_381 : decode cX7_pass 381 = .ok (.aaload, 1) := by decide +kernel
theorem dX7_pass_382 : decode cX7_pass 382 = .ok (.bipush 8, 2) := by decide +kernel
theorem dX7_pass_384 : decode cX7_pass 384 = .ok (.iaload, 1) := by decide +kernel
theorem dX7_pass_385 : decode cX7_pass 385 = .ok (.aload 6, 2) := by decide +kernel
theorem dX7_pass_387 : decode cX7_pass 387 = .ok (.iconst 1, 1) := by decide +kernel
theorem dX7_pass_388 : decode cX7_pass 388 = .ok (.iaload, 1) := by decide +kernel
theorem dX7_pass_389 : decode cX7_pass 389 = .ok (.iadd, 1) := by decide +kernel
theorem dX7_pass_390 : decode cX7_pass 390 = .ok (.iload 7, 2) := by decide +kernel
theorem dX7_pass_392 : decode cX7_pass 392 = .ok (.ifCond .eq 10, 3) := by decide +kernel
theorem dX7_pass_395 : decode cX7_pass 395 = .ok (.aload_n 0, 1) := by decide +kernel
theorem dX7_pass_396 : decode cX7_pass 396 = .ok (.getfield 42, 3) := by decide +kernel
theorem dX7_pass_399 : decode cX7_pass 399 = .ok (.goto 4, 3) := by decide +kernel
theorem dX7_pass_402 : decode cX7_pass 402 = .ok (.iconst 0, 1) := by decide +kernel
theorem dX7_pass_403 : decode cX7_pass 403 = .ok (.iadd, 1) := by decide +kernel
theorem dX7_pass_404 : decode cX7_pass 404 = .ok (.istore 9, 2) := by decide +kernel
theorem dX7_pass_406 : decode cX7_pass 406 = .ok (.aload_n 3, 1) := by decide +kernel
theorem dX7_pass_407 : decode cX7_pass 407 = .ok (.iload 4, 2) := by decide +kernel
theorem dX7_pass_409 : decode cX7_pass 409 = .ok (.iconst 2, 1) := by decide +kernel
theorem dX7_pass_410 : decode cX7_pass 410 = .ok (.newarray .int, 2) := by decide +kernel
theorem dX7_pass_412 : decode cX7_pass 412 = .ok (.dup, 1) := by decide +kernel
theorem dX7_pass_413 : decode cX7_pass 413 = .ok (.iconst 0, 1) := by decide +kernel
theorem dX7_pass_414 : decode cX7_pass 414 = .ok (.iload 8, 2) := by decide +kernel
theorem dX7_pass_416 : decode cX7_pass 416 = .ok (.ifCond .ge 7, 3) := by decide +kernel
theorem dX7_pass_419 : decode cX7_pass 419 = .ok (.iconst 0, 1) := by decide +kernel
theorem dX7_pass_420 : decode cX7_pass 420 = .ok (.goto 17, 3) := by decide +kernel
theorem dX7_pass_423 : decode cX7_pass 423 = .ok (.iload 8, 2) := by decide +kernel
theorem dX7_pass_425 : decode cX7_pass 425 = .ok (.bipush 29, 2) := by decide +kernel
theorem dX7_pass_427 : decode cX7_pass 427 = .ok (.if_icmp .le 8, 3) := by decide +kernel
theorem dX7_pass_430 : decode cX7_pass 430 = .ok (.bipush 29, 2) := by decide +kernel
theorem dX7_pass_432 : decode cX7_pass 432 = .ok (.goto 5, 3) := by decide +kernel
theorem dX7_pass_435 : decode cX7_pass 435 = .ok (.iload 8, 2) := by decide +kernel
theorem dX7_pass_437 : decode cX7_pass 437 = .ok (.iastore, 1) := by decide +kernel
theorem dX7_pass_438 : decode cX7_pass 438 = .ok (.dup, 1) := by decide +kernel
theorem dX7_pass_439 : decode cX7_pass 439 = .ok (.iconst 1, 1) := by decide +kernel
theorem dX7_pass_440 : decode cX7_pass 440 = .ok (.iload 9, 2) := by decide +kernel
theorem dX7_pass_442 : decode cX7_pass 442 = .ok (.ifCond .ge 7, 3) := by decide +kernel
theorem dX7_pass_445 : decode cX7_pass 445 = .ok (.iconst 0, 1) := by decide +kernel
theorem dX7_pass_446 : decode cX7_pass 446 = .ok (.goto 17, 3) := by decide +kernel
theorem dX7_pass_449 : decode cX7_pass 449 = .ok (.iload 9, 2) := by decide +kernel
theorem dX7_pass_451 : decode cX7_pass 451 = .ok (.bipush 19, 2) := by decide +kernel
theorem dX7_pass_453 : decode cX7_pass 453 = .ok (.if_icmp .le 8, 3) := by decide +kernel
theorem dX7_pass_456 : decode cX7_pass 456 = .ok (.bipush 19, 2) := by decide +kernel
theorem dX7_pass_458 : decode cX7_pass 458 = .ok (.goto 5, 3) := by decide +kernel
theorem dX7_pass_461 : decode cX7_pass 461 = .ok (.iload 9, 2) := by decide +kernel
theorem dX7_pass_463 : decode cX7_pass 463 = .ok (.iastore, 1) := by decide +kernel
theorem dX7_pass_464 : decode cX7_pass 464 = .ok (.aastore, 1) := by decide +kernel
theorem dX7_pass_465 : decode cX7_pass 465 = .ok (.iinc 4 1, 3) := by decide +kernel
theorem dX7_pass_468 : decode cX7_pass 468 = .ok (.goto (-211), 3) := by decide +kernel
theorem dX7_pass_471 : decode cX7_pass 471 = .ok (.iconst 0, 1) := by decide +kernel
theorem dX7_pass_472 : decode cX7_pass 472 = .ok (.istore 4, 2) := by decide +kernel
theorem dX7_pass_474 : decode cX7_pass 474 = .ok (.iload 4, 2) := by decide +kernel
theorem dX7_pass_476 : decode cX7_pass 476 = .ok (.aload_n 0, 1) := by decide +kernel
theorem dX7_pass_477 : decode cX7_pass 477 = .ok (.getfield 19, 3) := by decide +kernel
theorem dX7_pass_480 : decode cX7_pass 480 = .ok (.arraylength, 1) := by decide +kernel
theorem dX7_pass_481 : decode cX7_pass 481 = .ok (.if_icmp .ge 51, 3) := by decide +kernel
theorem dX7_pass_484 : decode cX7_pass 484 = .ok (.aload_n 3, 1) := by decide +kernel
theorem dX7_pass_485 : decode cX7_pass 485 = .ok (.iload 4, 2) := by decide +kernel
theorem dX7_pass_487 : decode cX7_pass 487 = .ok (.aaload, 1) := by decide +kernel
theorem dX7_pass_488 : decode cX7_pass 488 = .ok (.ifnonnull 6, 3) := by decide +kernel
theorem dX7_pass_491 : decode cX7_pass 491 = .ok (.goto 35, 3) := by decide +kernel
theorem dX7_pass_494 : decode cX7_pass 494 = .ok (.aload_n 0, 1) := by decide +kernel
theorem dX7_pass_495 : decode cX7_pass 495 = .ok (.getfield 19, 3) := by decide +kernel
theorem dX7_pass_498 : decode cX7_pass 498 = .ok (.iload 4, 2) := by decide +kernel
theorem dX7_pass_500 : decode cX7_pass 500 = .ok (.aaload, 1) := by decide +kernel
theorem dX7_pass_501 : decode cX7_pass 501 = .ok (.bipush 7, 2) := by decide +kernel
theorem dX7_pass_503 : decode cX7_pass 503 = .ok (.aload_n 3, 1) := by decide +kernel
theorem dX7_pass_504 : decode cX7_pass 504 = .ok (.iload 4, 2) := by decide +kernel
theorem dX7_pass_506 : decode cX7_pass 506 = .ok (.aaload, 1) := by decide +kernel
theorem dX7_pass_507 : decode cX7_pass 507 = .ok (.iconst 0, 1) := by decide +kernel
theorem dX7_pass_508 : decode cX7_pass 508 = .ok (.iaload, 1) := by decide +kernel
theorem dX7_pass_509 : decode cX7_pass 509 = .ok (.iastore, 1) := by decide +kernel
theorem dX7_pass_510 : decode cX7_pass 510 = .ok (.aload_n 0, 1) := by decide +kernel
theorem dX7_pass_511 : decode cX7_pass 511 = .ok (.getfield 19, 3) := by decide +kernel
theorem dX7_pass_514 : decode cX7_pass 514 = .ok (.iload 4, 2) := by decide +kernel
theorem dX7_pass_516 : decode cX7_pass 516 = .ok (.aaload, 1) := by decide +kernel
theorem dX7_pass_517 : decode cX7_pass 517 = .ok (.bipush 8, 2) := by decide +kernel
theorem dX7_pass_519 : decode cX7_pass 519 = .ok (.aload_n 3, 1) := by decide +kernel
theorem dX7_pass_520 : decode cX7_pass 520 = .ok (.iload 4, 2) := by decide +kernel
theorem dX7_pass_522 : decode cX7_pass 522 = .ok (.aaload, 1) := by decide +kernel
theorem dX7_pass_523 : decode cX7_pass 523 = .ok (.iconst 1, 1) := by decide +kernel
theorem dX7_pass_524 : decode cX7_pass 524 = .ok (.iaload, 1) := by decide +kernel
theorem dX7_pass_525 : decode cX7_pass 525 = .ok (.iastore, 1) := by decide +kernel
theorem dX7_pass_526 : decode cX7_pass 526 = .ok (.iinc 4 1, 3) := by decide +kernel
theorem dX7_pass_529 : decode cX7_pass 529 = .ok (.goto (-55), 3) := by decide +kernel
theorem dX7_pass_532 : decode cX7_pass 532 = .ok (.iconst 0, 1) := by decide +kernel
theorem dX7_pass_533 : decode cX7_pass 533 = .ok (.istore 4, 2) := by decide +kernel
theorem dX7_pass_535 : decode cX7_pass 535 = .ok (.iload 4, 2) := by decide +kernel
theorem dX7_pass_537 : decode cX7_pass 537 = .ok (.aload_n 0, 1) := by decide +kernel
theorem dX7_pass_538 : decode cX7_pass 538 = .ok (.getfield 19, 3) := by decide +kernel
theorem dX7_pass_541 : decode cX7_pass 541 = .ok (.arraylength, 1) := by decide +kernel
theorem dX7_pass_542 : decode cX7_pass 542 = .ok (.if_icmp .ge 49, 3) := by decide +kernel
theorem dX7_pass_545 : decode cX7_pass 545 = .ok (.aload_n 0, 1) := by decide +kernel
theorem dX7_pass_546 : decode cX7_pass 546 = .ok (.getfield 19, 3) := by decide +kernel
theorem dX7_pass_549 : decode cX7_pass 549 = .ok (.iload 4, 2) := by decide +kernel
theorem dX7_pass_551 : decode cX7_pass 551 = .ok (.aaload, 1) := by decide +kernel
theorem dX7_pass_552 : decode cX7_pass 552 = .ok (.bipush 6, 2) := by decide +kernel
theorem dX7_pass_554 : decode cX7_pass 554 = .ok (.iaload, 1) := by decide +kernel
theorem dX7_pass_555 : decode cX7_pass 555 = .ok (.ifCond .ne 30, 3) := by decide +kernel
theorem dX7_pass_558 : decode cX7_pass 558 = .ok (.aload_n 0, 1) := by decide +kernel
theorem dX7_pass_559 : decode cX7_pass 559 = .ok (.getfield 19, 3) := by decide +kernel
theorem dX7_pass_562 : decode cX7_pass 562 = .ok (.iload 4, 2) := by decide +kernel
theorem dX7_pass_564 : decode cX7_pass 564 = .ok (.aaload, 1) := by decide +kernel
theorem dX7_pass_565 : decode cX7_pass 565 = .ok (.bipush 7, 2) := by decide +kernel
theorem dX7_pass_567 : decode cX7_pass 567 = .ok (.iaload, 1) := by decide +kernel
theorem dX7_pass_568 : decode cX7_pass 568 = .ok (.bipush 29, 2) := by decide +kernel
theorem dX7_pass_570 : decode cX7_pass 570 = .ok (.if_icmp .ne 15, 3) := by decide +kernel
theorem dX7_pass_573 : decode cX7_pass 573 = .ok (.aload_n 0, 1) := by decide +kernel
theorem dX7_pass_574 : decode cX7_pass 574 = .ok (.aload_n 0, 1) := by decide +kernel
theorem dX7_pass_575 : decode cX7_pass 575 = .ok (.iload 4, 2) := by decide +kernel
theorem dX7_pass_577 : decode cX7_pass 577 = .ok (.aconst_null, 1) := by decide +kernel
theorem dX7_pass_578 : decode cX7_pass 578 = .ok (.invokevirtual 70, 3) := by decide +kernel
theorem dX7_pass_581 : decode cX7_pass 581 = .ok (.iconst 2, 1) := by decide +kernel
theorem dX7_pass_582 : decode cX7_pass 582 = .ok (.invokevirtual 88, 3) := by decide +kernel
theorem dX7_pass_585 : decode cX7_pass 585 = .ok (.iinc 4 1, 3) := by decide +kernel
theorem dX7_pass_588 : decode cX7_pass 588 = .ok (.goto (-53), 3) := by decide +kernel
theorem dX7_pass_591 : decode cX7_pass 591 = .ok (.aload_n 0, 1) := by decide +kernel
theorem dX7_pass_592 : decode cX7_pass 592 = .ok (.dup, 1) := by decide +kernel
theorem dX7_pass_593 : decode cX7_pass 593 = .ok (.getfield 33, 3) := by decide +kernel
theorem dX7_pass_596 : decode cX7_pass 596 = .ok (.iconst 1, 1) := by decide +kernel
theorem dX7_pass_597 : decode cX7_pass 597 = .ok (.iadd, 1) := by decide +kernel
theorem dX7_pass_598 : decode cX7_pass 598 = .ok (.putfield 33, 3) := by decide +kernel
theorem dX7_pass_601 : decode cX7_pass 601 = .ok (.aload_n 0, 1) := by decide +kernel
theorem dX7_pass_602 : decode cX7_pass 602 = .ok (.dup, 1) := by decide +kernel
theorem dX7_pass_603 : decode cX7_pass 603 = .ok (.getfield 36, 3) := by decide +kernel
theorem dX7_pass_606 : decode cX7_pass 606 = .ok (.iload_n 1, 1) := by decide +kernel
theorem dX7_pass_607 : decode cX7_pass 607 = .ok (.iadd, 1) := by decide +kernel
theorem dX7_pass_608 : decode cX7_pass 608 = .ok (.putfield 36, 3) := by decide +kernel
theorem dX7_pass_611 : decode cX7_pass 611 = .ok (.iload_n 1, 1) := by decide +kernel
theorem dX7_pass_612 : decode cX7_pass 612 = .ok (.ireturn, 1) := by decide +kernel
