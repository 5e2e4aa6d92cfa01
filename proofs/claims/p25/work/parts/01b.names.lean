theorem dX0_init_0 : decode cX0_init 0 = .ok (.aload_n 0, 1) := by decide +kernel
theorem dX0_init_1 : decode cX0_init 1 = .ok (.invokespecial 3, 3) := by decide +kernel
theorem dX0_init_4 : decode cX0_init 4 = .ok (.aload_n 0, 1) := by decide +kernel
theorem dX0_init_5 : decode cX0_init 5 = .ok (.bipush 24, 2) := by decide +kernel
theorem dX0_init_7 : decode cX0_init 7 = .ok (.newarray .int, 2) := by decide +kernel
theorem dX0_init_9 : decode cX0_init 9 = .ok (.putfield 9, 3) := by decide +kernel
theorem dX0_init_12 : decode cX0_init 12 = .ok (.aload_n 0, 1) := by decide +kernel
theorem dX0_init_13 : decode cX0_init 13 = .ok (.bipush 24, 2) := by decide +kernel
theorem dX0_init_15 : decode cX0_init 15 = .ok (.newarray .int, 2) := by decide +kernel
theorem dX0_init_17 : decode cX0_init 17 = .ok (.putfield 15, 3) := by decide +kernel
theorem dX0_init_20 : decode cX0_init 20 = .ok (.aload_n 0, 1) := by decide +kernel
theorem dX0_init_21 : decode cX0_init 21 = .ok (.bipush 24, 2) := by decide +kernel
theorem dX0_init_23 : decode cX0_init 23 = .ok (.newarray .int, 2) := by decide +kernel
theorem dX0_init_25 : decode cX0_init 25 = .ok (.putfield 18, 3) := by decide +kernel
theorem dX0_init_28 : decode cX0_init 28 = .ok (.aload_n 0, 1) := by decide +kernel
theorem dX0_init_29 : decode cX0_init 29 = .ok (.bipush 24, 2) := by decide +kernel
theorem dX0_init_31 : decode cX0_init 31 = .ok (.newarray .int, 2) := by decide +kernel
theorem dX0_init_33 : decode cX0_init 33 = .ok (.putfield 21, 3) := by decide +kernel
theorem dX0_init_36 : decode cX0_init 36 = .ok (.aload_n 0, 1) := by decide +kernel
theorem dX0_init_37 : decode cX0_init 37 = .ok (.bipush 24, 2) := by decide +kernel
theorem dX0_init_39 : decode cX0_init 39 = .ok (.newarray .int, 2) := by decide +kernel
theorem dX0_init_41 : decode cX0_init 41 = .ok (.putfield 24, 3) := by decide +kernel
theorem dX0_init_44 : decode cX0_init 44 = .ok (.aload_n 0, 1) := by decide +kernel
theorem dX0_init_45 : decode cX0_init 45 = .ok (.bipush 24, 2) := by decide +kernel
theorem dX0_init_47 : decode cX0_init 47 = .ok (.newarray .int, 2) := by decide +kernel
theorem dX0_init_49 : decode cX0_init 49 = .ok (.putfield 27, 3) := by decide +kernel
theorem dX0_init_52 : decode cX0_init 52 = .ok (.aload_n 0, 1) := by decide +kernel
theorem dX0_init_53 : decode cX0_init 53 = .ok (.bipush 24, 2) := by decide +kernel
theorem dX0_init_55 : decode cX0_init 55 = .ok (.newarray .int, 2) := by decide +kernel
theorem dX0_init_57 : decode cX0_init 57 = .ok (.putfield 30, 3) := by decide +kernel
theorem dX0_init_60 : decode cX0_init 60 = .ok (.aload_n 0, 1) := by decide +kernel
theorem dX0_init_61 : decode cX0_init 61 = .ok (.bipush 24, 2) := by decide +kernel
theorem dX0_init_63 : decode cX0_init 63 = .ok (.newarray .int, 2) := by decide +kernel
theorem dX0_init_65 : decode cX0_init 65 = .ok (.putfield 33, 3) := by decide +kernel
theorem dX0_init_68 : decode cX0_init 68 = .ok (.aload_n 0, 1) := by decide +kernel
theorem dX0_init_69 : decode cX0_init 69 = .ok (.bipush 24, 2) := by decide +kernel
theorem dX0_init_71 : decode cX0_init 71 = .ok (.newarray .int, 2) := by decide +kernel
theorem dX0_init_73 : decode cX0_init 73 = .ok (.putfield 36, 3) := by decide +kernel
theorem dX0_init_76 : decode cX0_init 76 = .ok (.aload_n 0, 1) := by decide +kernel
theorem dX0_init_77 : decode cX0_init 77 = .ok (.bipush 24, 2) := by decide +kernel
theorem dX0_init_79 : decode cX0_init 79 = .ok (.newarray .int, 2) := by decide +kernel
theorem dX0_init_81 : decode cX0_init 81 = .ok (.putfield 39, 3) := by decide +kernel
theorem dX0_init_84 : decode cX0_init 84 = .ok (.aload_n 0, 1) := by decide +kernel
theorem dX0_init_85 : decode cX0_init 85 = .ok (.bipush 24, 2) := by decide +kernel
theorem dX0_init_87 : decode cX0_init 87 = .ok (.newarray .int, 2) := by decide +kernel
theorem dX0_init_89 : decode cX0_init 89 = .ok (.putfield 42, 3) := by decide +kernel
theorem dX0_init_92 : decode cX0_init 92 = .ok (.return_, 1) := by decide +kernel
theorem dX0_has_0 : decode cX0_has 0 = .ok (.iload_n 1, 1) := by decide +kernel
theorem dX0_has_1 : decode cX0_has 1 = .ok (.ifCond .lt 15, 3) := by decide +kernel
theorem dX0_has_4 : decode cX0_has 4 = .ok (.iload_n 1, 1) := by decide +kernel
theorem dX0_has_5 : decode cX0_has 5 = .ok (.aload_n 0, 1) := by decide +kernel
theorem dX0_has_6 : decode cX0_has 6 = .ok (.getfield 45, 3) := by decide +kernel
theorem dX0_has_9 : decode cX0_has 9 = .ok (.if_icmp .ge 7, 3) := by decide +kernel
theorem dX0_has_12 : decode cX0_has 12 = .ok (.iconst 1, 1) := by decide +kernel
theorem dX0_has_13 : decode cX0_has 13 = .ok (.goto 4, 3) := by decide +kernel
theorem dX0_has_16 : decode cX0_has 16 = .ok (.iconst 0, 1) := by decide +kernel
theorem dX0_has_17 : decode cX0_has 17 = .ok (.ireturn, 1) := by decide +kernel
set_option maxRecDepth 20000 in
theorem ggX0_floats_X0_has : GoodIn wsX0_floats wsX0_has := goodIn_r _ [6, 7, 8, 9, 10, 11, 12, 13, 14, 15, 16, 17, 18, 19] (by decide +kernel) (by decide +kernel)
set_option maxRecDepth 20000 in
theorem gX0_floats_X0_has : GoodIn wsX0_floats (wsV RX0 49 RX0 yX0_has wsX0_has) := goodIn_app (goodIn_of _ (by decide +kernel)) ggX0_floats_X0_has
theorem dX0_floats_0 : decode cX0_floats 0 = .ok (.aload_n 0, 1) := by decide +kernel
theorem dX0_floats_1 : decode cX0_floats 1 = .ok (.iload_n 1, 1) := by decide +kernel
theorem dX0_floats_2 : decode cX0_floats 2 = .ok (.invokevirtual 49, 3) := by decide +kernel
theorem dX0_floats_5 : decode cX0_floats 5 = .ok (.ifCond .eq 16, 3) := by decide +kernel
theorem dX0_floats_8 : decode cX0_floats 8 = .ok (.aload_n 0, 1) := by decide +kernel
theorem dX0_floats_9 : decode cX0_floats 9 = .ok (.getfield 33, 3) := by decide +kernel
theorem dX0_floats_12 : decode cX0_floats 12 = .ok (.iload_n 1, 1) := by decide +kernel
theorem dX0_floats_13 : decode cX0_floats 13 = .ok (.iaload, 1) := by decide +kernel
theorem dX0_floats_14 : decode cX0_floats 14 = .ok (.ifCond .ne 7, 3) := by decide +kernel
theorem dX0_floats_17 : decode cX0_floats 17 = .ok (.iconst 1, 1) := by decide +kernel
theorem dX0_floats_18 : decode cX0_floats 18 = .ok (.goto 4, 3) := by decide +kernel
theorem dX0_floats_21 : decode cX0_floats 21 = .ok (.iconst 0, 1) := by decide +kernel
theorem dX0_floats_22 : decode cX0_floats 22 = .ok (.ireturn, 1) := by decide +kernel
theorem dX0_liftNow_0 : decode cX0_liftNow 0 = .ok (.aload_n 0, 1) := by decide +kernel
theorem dX0_liftNow_1 : decode cX0_liftNow 1 = .ok (.getfield 18, 3) := by decide +kernel
theorem dX0_liftNow_4 : decode cX0_liftNow 4 = .ok (.iload_n 1, 1) := by decide +kernel
theorem dX0_liftNow_5 : decode cX0_liftNow 5 = .ok (.iaload, 1) := by decide +kernel
theorem dX0_liftNow_6 : decode cX0_liftNow 6 = .ok (.bipush 100, 2) := by decide +kernel
theorem dX0_liftNow_8 : decode cX0_liftNow 8 = .ok (.aload_n 0, 1) := by decide +kernel
theorem dX0_liftNow_9 : decode cX0_liftNow 9 = .ok (.getfield 24, 3) := by decide +kernel
theorem dX0_liftNow_12 : decode cX0_liftNow 12 = .ok (.iload_n 1, 1) := by decide +kernel
theorem dX0_liftNow_13 : decode cX0_liftNow 13 = .ok (.iaload, 1) := by decide +kernel
theorem dX0_liftNow_14 : decode cX0_liftNow 14 = .ok (.isub, 1) := by decide +kernel
theorem dX0_liftNow_15 : decode cX0_liftNow 15 = .ok (.imul, 1) := by decide +kernel
theorem dX0_liftNow_16 : decode cX0_liftNow 16 = .ok (.bipush 100, 2) := by decide +kernel
theorem dX0_liftNow_18 : decode cX0_liftNow 18 = .ok (.idiv, 1) := by decide +kernel
theorem dX0_liftNow_19 : decode cX0_liftNow 19 = .ok (.ireturn, 1) := by decide +kernel
theorem dX0_loadOf_0 : decode cX0_loadOf 0 = .ok (.aload_n 0, 1) := by decide +kernel
theorem dX0_loadOf_1 : decode cX0_loadOf 1 = .ok (.getfield 27, 3) := by decide +kernel
theorem dX0_loadOf_4 : decode cX0_loadOf 4 = .ok (.iload_n 1, 1) := by decide +kernel
theorem dX0_loadOf_5 : decode cX0_loadOf 5 = .ok (.iaload, 1) := by decide +kernel
theorem dX0_loadOf_6 : decode cX0_loadOf 6 = .ok (.bipush 7, 2) := by decide +kernel
theorem dX0_loadOf_8 : decode cX0_loadOf 8 = .ok (.aload_n 0, 1) := by decide +kernel
theorem dX0_loadOf_9 : decode cX0_loadOf 9 = .ok (.getfield 30, 3) := by decide +kernel
theorem dX0_loadOf_12 : decode cX0_loadOf 12 = .ok (.iload_n 1, 1) := by decide +kernel
theorem dX0_loadOf_13 : decode cX0_loadOf 13 = .ok (.iaload, 1) := by decide +kernel
theorem dX0_loadOf_14 : decode cX0_loadOf 14 = .ok (.imul, 1) := by decide +kernel
theorem dX0_loadOf_15 : decode cX0_loadOf 15 = .ok (.iadd, 1) := by decide +kernel
theorem dX0_loadOf_16 : decode cX0_loadOf 16 = .ok (.ireturn, 1) := by decide +kernel
theorem dX0_firstAfloat_0 : decode cX0_firstAfloat 0 = .ok (.iconst 0, 1) := by decide +kernel
theorem dX0_firstAfloat_1 : decode cX0_firstAfloat 1 = .ok (.istore_n 1, 1) := by decide +kernel
theorem dX0_firstAfloat_2 : decode cX0_firstAfloat 2 = .ok (.iload_n 1, 1) := by decide +kernel
theorem dX0_firstAfloat_3 : decode cX0_firstAfloat 3 = .ok (.aload_n 0, 1) := by decide +kernel
theorem dX0_firstAfloat_4 : decode cX0_firstAfloat 4 = .ok (.getfield 45, 3) := by decide +kernel
theorem dX0_firstAfloat_7 : decode cX0_firstAfloat 7 = .ok (.if_icmp .ge 20, 3) := by decide +kernel
theorem dX0_firstAfloat_10 : decode cX0_firstAfloat 10 = .ok (.aload_n 0, 1) := by decide +kernel
theorem dX0_firstAfloat_11 : decode cX0_firstAfloat 11 = .ok (.getfield 33, 3) := by decide +kernel
theorem dX0_firstAfloat_14 : decode cX0_firstAfloat 14 = .ok (.iload_n 1, 1) := by decide +kernel
theorem dX0_firstAfloat_15 : decode cX0_firstAfloat 15 = .ok (.iaload, 1) := by decide +kernel
theorem dX0_firstAfloat_16 : decode cX0_firstAfloat 16 = .ok (.ifCond .ne 5, 3) := by decide +kernel
theorem dX0_firstAfloat_19 : decode cX0_firstAfloat 19 = .ok (.iload_n 1, 1) := by decide +kernel
theorem dX0_firstAfloat_20 : decode cX0_firstAfloat 20 = .ok (.ireturn, 1) := by decide +kernel
theorem dX0_firstAfloat_21 : decode cX0_firstAfloat 21 = .ok (.iinc 1 1, 3) := by decide +kernel
theorem dX0_firstAfloat_24 : decode cX0_firstAfloat 24 = .ok (.goto (-22), 3) := by decide +kernel
theorem dX0_firstAfloat_27 : decode cX0_firstAfloat 27 = .ok (.iconst (-1), 1) := by decide +kernel
theorem dX0_firstAfloat_28 : decode cX0_firstAfloat 28 = .ok (.ireturn, 1) := by decide +kernel
theorem dX0_countOf_0 : decode cX0_countOf 0 = .ok (.iconst 0, 1) := by decide +kernel
theorem dX0_countOf_1 : decode cX0_countOf 1 = .ok (.istore_n 2, 1) := by decide +kernel
theorem dX0_countOf_2 : decode cX0_countOf 2 = .ok (.iconst 0, 1) := by decide +kernel
theorem dX0_countOf_3 : decode cX0_countOf 3 = .ok (.istore_n 3, 1) := by decide +kernel
theorem dX0_countOf_4 : decode cX0_countOf 4 = .ok (.iload_n 3, 1) := by decide +kernel
theorem dX0_countOf_5 : decode cX0_countOf 5 = .ok (.aload_n 0, 1) := by decide +kernel
theorem dX0_countOf_6 : decode cX0_countOf 6 = .ok (.getfield 45, 3) := by decide +kernel
theorem dX0_countOf_9 : decode cX0_countOf 9 = .ok (.if_icmp .ge 22, 3) := by decide +kernel
theorem dX0_countOf_12 : decode cX0_countOf 12 = .ok (.aload_n 0, 1) := by decide +kernel
theorem dX0_countOf_13 : decode cX0_countOf 13 = .ok (.getfield 33, 3) := by decide +kernel
theorem dX0_countOf_16 : decode cX0_countOf 16 = .ok (.iload_n 3, 1) := by decide +kernel
theorem dX0_countOf_17 : decode cX0_countOf 17 = .ok (.iaload, 1) := by decide +kernel
theorem dX0_countOf_18 : decode cX0_countOf 18 = .ok (.iload_n 1, 1) := by decide +kernel
theorem dX0_countOf_19 : decode cX0_countOf 19 = .ok (.if_icmp .ne 6, 3) := by decide +kernel
theorem dX0_countOf_22 : decode cX0_countOf 22 = .ok (.iinc 2 1, 3) := by decide +kernel
theorem dX0_countOf_25 : decode cX0_countOf 25 = .ok (.iinc 3 1, 3) := by decide +kernel
theorem dX0_countOf_28 : decode cX0_countOf 28 = .ok (.goto (-24), 3) := by decide +kernel
theorem dX0_countOf_31 : decode cX0_countOf 31 = .ok (.iload_n 2, 1) := by decide +kernel
theorem dX0_countOf_32 : decode cX0_countOf 32 = .ok (.ireturn, 1) := by decide +kernel
theorem dX0_pieces_0 : decode cX0_pieces 0 = .ok (.iconst 0, 1) := by decide +kernel
theorem dX0_pieces_1 : decode cX0_pieces 1 = .ok (.istore_n 1, 1) := by decide +kernel
theorem dX0_pieces_2 : decode cX0_pieces 2 = .ok (.iconst 0, 1) := by decide +kernel
theorem dX0_pieces_3 : decode cX0_pieces 3 = .ok (.istore_n 2, 1) := by decide +kernel
theorem dX0_pieces_4 : decode cX0_pieces 4 = .ok (.iload_n 2, 1) := by decide +kernel
theorem dX0_pieces_5 : decode cX0_pieces 5 = .ok (.aload_n 0, 1) := by decide +kernel
theorem dX0_pieces_6 : decode cX0_pieces 6 = .ok (.getfield 45, 3) := by decide +kernel
theorem dX0_pieces_9 : decode cX0_pieces 9 = .ok (.if_icmp .ge 22, 3) := by decide +kernel
theorem dX0_pieces_12 : decode cX0_pieces 12 = .ok (.aload_n 0, 1) := by decide +kernel
theorem dX0_pieces_13 : decode cX0_pieces 13 = .ok (.getfield 42, 3) := by decide +kernel
theorem dX0_pieces_16 : decode cX0_pieces 16 = .ok (.iload_n 2, 1) := by decide +kernel
theorem dX0_pieces_17 : decode cX0_pieces 17 = .ok (.iaload, 1) := by decide +kernel
theorem dX0_pieces_18 : decode cX0_pieces 18 = .ok (.iload_n 2, 1) := by decide +kernel
theorem dX0_pieces_19 : decode cX0_pieces 19 = .ok (.if_icmp .ne 6, 3) := by decide +kernel
theorem dX0_pieces_22 : decode cX0_pieces 22 = .ok (.iinc 1 1, 3) := by decide +kernel
theorem dX0_pieces_25 : decode cX0_pieces 25 = .ok (.iinc 2 1, 3) := by decide +kernel
theorem dX0_pieces_28 : decode cX0_pieces 28 = .ok (.goto (-24), 3) := by decide +kernel
theorem dX0_pieces_31 : decode cX0_pieces 31 = .ok (.iload_n 1, 1) := by decide +kernel
theorem dX0_pieces_32 : decode cX0_pieces 32 = .ok (.ireturn, 1) := by decide +kernel
theorem dX0_goodsSaved_0 : decode cX0_goodsSaved 0 = .ok (.iconst 0, 1) := by decide +kernel
theorem dX0_goodsSaved_1 : decode cX0_goodsSaved 1 = .ok (.istore_n 1, 1) := by decide +kernel
theorem dX0_goodsSaved_2 : decode cX0_goodsSaved 2 = .ok (.iconst 0, 1) := by decide +kernel
theorem dX0_goodsSaved_3 : decode cX0_goodsSaved 3 = .ok (.istore_n 2, 1) := by decide +kernel
theorem dX0_goodsSaved_4 : decode cX0_goodsSaved 4 = .ok (.iload_n 2, 1) := by decide +kernel
theorem dX0_goodsSaved_5 : decode cX0_goodsSaved 5 = .ok (.aload_n 0, 1) := by decide +kernel
theorem dX0_goodsSaved_6 : decode cX0_goodsSaved 6 = .ok (.getfield 45, 3) := by decide +kernel
theorem dX0_goodsSaved_9 : decode cX0_goodsSaved 9 = .ok (.if_icmp .ge 28, 3) := by decide +kernel
theorem dX0_goodsSaved_12 : decode cX0_goodsSaved 12 = .ok (.aload_n 0, 1) := by decide +kernel
theorem dX0_goodsSaved_13 : decode cX0_goodsSaved 13 = .ok (.getfield 33, 3) := by decide +kernel
theorem dX0_goodsSaved_16 : decode cX0_goodsSaved 16 = .ok (.iload_n 2, 1) := by decide +kernel
theorem dX0_goodsSaved_17 : decode cX0_goodsSaved 17 = .ok (.iaload, 1) := by decide +kernel
theorem dX0_goodsSaved_18 : decode cX0_goodsSaved 18 = .ok (.iconst 2, 1) := by decide +kernel
theorem dX0_goodsSaved_19 : decode cX0_goodsSaved 19 = .ok (.if_icmp .ne 12, 3) := by decide +kernel
theorem dX0_goodsSaved_22 : decode cX0_goodsSaved 22 = .ok (.iload_n 1, 1) := by decide +kernel
theorem dX0_goodsSaved_23 : decode cX0_goodsSaved 23 = .ok (.aload_n 0, 1) := by decide +kernel
theorem dX0_goodsSaved_24 : decode cX0_goodsSaved 24 = .ok (.getfield 27, 3) := by decide +kernel
theorem dX0_goodsSaved_27 : decode cX0_goodsSaved 27 = .ok (.iload_n 2, 1) := by decide +kernel
theorem dX0_goodsSaved_28 : decode cX0_goodsSaved 28 = .ok (.iaload, 1) := by decide +kernel
theorem dX0_goodsSaved_29 : decode cX0_goodsSaved 29 = .ok (.iadd, 1) := by decide +kernel
theorem dX0_goodsSaved_30 : decode cX0_goodsSaved 30 = .ok (.istore_n 1, 1) := by decide +kernel
theorem dX0_goodsSaved_31 : decode cX0_goodsSaved 31 = .ok (.iinc 2 1, 3) := by decide +kernel
theorem dX0_goodsSaved_34 : decode cX0_goodsSaved 34 = .ok (.goto (-30), 3) := by decide +kernel
theorem dX0_goodsSaved_37 : decode cX0_goodsSaved 37 = .ok (.iload_n 1, 1) := by decide +kernel
theorem dX0_goodsSaved_38 : decode cX0_goodsSaved 38 = .ok (.ireturn, 1) := by decide +kernel
theorem dX0_liesAt_0 : decode cX0_liesAt 0 = .ok (.iconst 0, 1) := by decide +kernel
theorem dX0_liesAt_1 : decode cX0_liesAt 1 = .ok (.istore_n 3, 1) := by decide +kernel
theorem dX0_liesAt_2 : decode cX0_liesAt 2 = .ok (.iload_n 3, 1) := by decide +kernel
theorem dX0_liesAt_3 : decode cX0_liesAt 3 = .ok (.aload_n 0, 1) := by decide +kernel
theorem dX0_liesAt_4 : decode cX0_liesAt 4 = .ok (.getfield 45, 3) := by decide +kernel
theorem dX0_liesAt_7 : decode cX0_liesAt 7 = .ok (.if_icmp .ge 31, 3) := by decide +kernel
theorem dX0_liesAt_10 : decode cX0_liesAt 10 = .ok (.aload_n 0, 1) := by decide +kernel
theorem dX0_liesAt_11 : decode cX0_liesAt 11 = .ok (.getfield 9, 3) := by decide +kernel
theorem dX0_liesAt_14 : decode cX0_liesAt 14 = .ok (.iload_n 3, 1) := by decide +kernel
theorem dX0_liesAt_15 : decode cX0_liesAt 15 = .ok (.iaload, 1) := by decide +kernel
theorem dX0_liesAt_16 : decode cX0_liesAt 16 = .ok (.iload_n 1, 1) := by decide +kernel
theorem dX0_liesAt_17 : decode cX0_liesAt 17 = .ok (.if_icmp .ne 15, 3) := by decide +kernel
theorem dX0_liesAt_20 : decode cX0_liesAt 20 = .ok (.aload_n 0, 1) := by decide +kernel
theorem dX0_liesAt_21 : decode cX0_liesAt 21 = .ok (.getfield 15, 3) := by decide +kernel
theorem dX0_liesAt_24 : decode cX0_liesAt 24 = .ok (.iload_n 3, 1) := by decide +kernel
theorem dX0_liesAt_25 : decode cX0_liesAt 25 = .ok (.iaload, 1) := by decide +kernel
theorem dX0_liesAt_26 : decode cX0_liesAt 26 = .ok (.iload_n 2, 1) := by decide +kernel
theorem dX0_liesAt_27 : decode cX0_liesAt 27 = .ok (.if_icmp .ne 5, 3) := by decide +kernel
theorem dX0_liesAt_30 : decode cX0_liesAt 30 = .ok (.iconst 1, 1) := by decide +kernel
theorem dX0_liesAt_31 : decode cX0_liesAt 31 = .ok (.ireturn, 1) := by decide +kernel
theorem dX0_liesAt_32 : decode cX0_liesAt 32 = .ok (.iinc 3 1, 3) := by decide +kernel
theorem dX0_liesAt_35 : decode cX0_liesAt 35 = .ok (.goto (-33), 3) := by decide +kernel
theorem dX0_liesAt_38 : decode cX0_liesAt 38 = .ok (.iconst 0, 1) := by decide +kernel
theorem dX0_liesAt_39 : decode cX0_liesAt 39 = .ok (.ireturn, 1) := by decide +kernel
set_option maxRecDepth 20000 in
theorem ggX0_canBeTied_X0_floats : GoodIn wsX0_canBeTied wsX0_floats := goodIn_r _ [13, 14, 15, 16, 17, 12, 18, 19, 20, 21, 22, 23, 24, 25, 26, 27, 28, 29, 30, 31] (by decide +kernel) (by decide +kernel)
set_option maxRecDepth 20000 in
theorem gX0_canBeTied_X0_floats : GoodIn wsX0_canBeTied (wsV RX0 53 RX0 yX0_floats wsX0_floats) := goodIn_app (goodIn_of _ (by decide +kernel)) ggX0_canBeTied_X0_floats
theorem dX0_canBeTied_0 : decode cX0_canBeTied 0 = .ok (.aload_n 0, 1) := by decide +kernel
theorem dX0_canBeTied_1 : decode cX0_canBeTied 1 = .ok (.iload_n 1, 1) := by decide +kernel
theorem dX0_canBeTied_2 : decode cX0_canBeTied 2 = .ok (.invokevirtual 53, 3) := by decide +kernel
theorem dX0_canBeTied_5 : decode cX0_canBeTied 5 = .ok (.ifCond .eq 11, 3) := by decide +kernel
theorem dX0_canBeTied_8 : decode cX0_canBeTied 8 = .ok (.aload_n 0, 1) := by decide +kernel
theorem dX0_canBeTied_9 : decode cX0_canBeTied 9 = .ok (.iload_n 2, 1) := by decide +kernel
theorem dX0_canBeTied_10 : decode cX0_canBeTied 10 = .ok (.invokevirtual 53, 3) := by decide +kernel
theorem dX0_canBeTied_13 : decode cX0_canBeTied 13 = .ok (.ifCond .ne 5, 3) := by decide +kernel
theorem dX0_canBeTied_16 : decode cX0_canBeTied 16 = .ok (.iconst 0, 1) := by decide +kernel
theorem dX0_canBeTied_17 : decode cX0_canBeTied 17 = .ok (.ireturn, 1) := by decide +kernel
theorem dX0_canBeTied_18 : decode cX0_canBeTied 18 = .ok (.aload_n 0, 1) := by decide +kernel
theorem dX0_canBeTied_19 : decode cX0_canBeTied 19 = .ok (.getfield 9, 3) := by decide +kernel
theorem dX0_canBeTied_22 : decode cX0_canBeTied 22 = .ok (.iload_n 1, 1) := by decide +kernel
theorem dX0_canBeTied_23 : decode cX0_canBeTied 23 = .ok (.iaload, 1) := by decide +kernel
theorem dX0_canBeTied_24 : decode cX0_canBeTied 24 = .ok (.aload_n 0, 1) := by decide +kernel
theorem dX0_canBeTied_25 : decode cX0_canBeTied 25 = .ok (.getfield 9, 3) := by decide +kernel
theorem dX0_canBeTied_28 : decode cX0_canBeTied 28 = .ok (.iload_n 2, 1) := by decide +kernel
theorem dX0_canBeTied_29 : decode cX0_canBeTied 29 = .ok (.iaload, 1) := by decide +kernel
theorem dX0_canBeTied_30 : decode cX0_canBeTied 30 = .ok (.isub, 1) := by decide +kernel
theorem dX0_canBeTied_31 : decode cX0_canBeTied 31 = .ok (.invokestatic 56, 3) := by decide +kernel
theorem dX0_canBeTied_34 : decode cX0_canBeTied 34 = .ok (.aload_n 0, 1) := by decide +kernel
theorem dX0_canBeTied_35 : decode cX0_canBeTied 35 = .ok (.getfield 15, 3) := by decide +kernel
theorem dX0_canBeTied_38 : decode cX0_canBeTied 38 = .ok (.iload_n 1, 1) := by decide +kernel
theorem dX0_canBeTied_39 : decode cX0_canBeTied 39 = .ok (.iaload, 1) := by decide +kernel
theorem dX0_canBeTied_40 : decode cX0_canBeTied 40 = .ok (.aload_n 0, 1) := by decide +kernel
theorem dX0_canBeTied_41 : decode cX0_canBeTied 41 = .ok (.getfield 15, 3) := by decide +kernel
theorem dX0_canBeTied_44 : decode cX0_canBeTied 44 = .ok (.iload_n 2, 1) := by decide +kernel
theorem dX0_canBeTied_45 : decode cX0_canBeTied 45 = .ok (.iaload, 1) := by decide +kernel
theorem dX0_canBeTied_46 : decode cX0_canBeTied 46 = .ok (.isub, 1) := by decide +kernel
theorem dX0_canBeTied_47 : decode cX0_canBeTied 47 = .ok (.invokestatic 56, 3) := by decide +kernel
theorem dX0_canBeTied_50 : decode cX0_canBeTied 50 = .ok (.iadd, 1) := by decide +kernel
theorem dX0_canBeTied_51 : decode cX0_canBeTied 51 = .ok (.istore_n 3, 1) := by decide +kernel
theorem dX0_canBeTied_52 : decode cX0_canBeTied 52 = .ok (.iload_n 3, 1) := by decide +kernel
theorem dX0_canBeTied_53 : decode cX0_canBeTied 53 = .ok (.iconst 1, 1) := by decide +kernel
theorem dX0_canBeTied_54 : decode cX0_canBeTied 54 = .ok (.if_icmp .ne 37, 3) := by decide +kernel
theorem dX0_canBeTied_57 : decode cX0_canBeTied 57 = .ok (.aload_n 0, 1) := by decide +kernel
theorem dX0_canBeTied_58 : decode cX0_canBeTied 58 = .ok (.getfield 36, 3) := by decide +kernel
theorem dX0_canBeTied_61 : decode cX0_canBeTied 61 = .ok (.iload_n 1, 1) := by decide +kernel
theorem dX0_canBeTied_62 : decode cX0_canBeTied 62 = .ok (.iaload, 1) := by decide +kernel
theorem dX0_canBeTied_63 : decode cX0_canBeTied 63 = .ok (.aload_n 0, 1) := by decide +kernel
theorem dX0_canBeTied_64 : decode cX0_canBeTied 64 = .ok (.getfield 36, 3) := by decide +kernel
theorem dX0_canBeTied_67 : decode cX0_canBeTied 67 = .ok (.iload_n 2, 1) := by decide +kernel
theorem dX0_canBeTied_68 : decode cX0_canBeTied 68 = .ok (.iaload, 1) := by decide +kernel
theorem dX0_canBeTied_69 : decode cX0_canBeTied 69 = .ok (.if_icmp .ne 22, 3) := by decide +kernel
theorem dX0_canBeTied_72 : decode cX0_canBeTied 72 = .ok (.aload_n 0, 1) := by decide +kernel
theorem dX0_canBeTied_73 : decode cX0_canBeTied 73 = .ok (.getfield 39, 3) := by decide +kernel
theorem dX0_canBeTied_76 : decode cX0_canBeTied 76 = .ok (.iload_n 1, 1) := by decide +kernel
theorem dX0_canBeTied_77 : decode cX0_canBeTied 77 = .ok (.iaload, 1) := by decide +kernel
theorem dX0_canBeTied_78 : decode cX0_canBeTied 78 = .ok (.aload_n 0, 1) := by decide +kernel
theorem dX0_canBeTied_79 : decode cX0_canBeTied 79 = .ok (.getfield 39, 3) := by decide +kernel
theorem dX0_canBeTied_82 : decode cX0_canBeTied 82 = .ok (.iload_n 2, 1) := by decide +kernel
theorem dX0_canBeTied_83 : decode cX0_canBeTied 83 = .ok (.iaload, 1) := by decide +kernel
theorem dX0_canBeTied_84 : decode cX0_canBeTied 84 = .ok (.if_icmp .ne 7, 3) := by decide +kernel
theorem dX0_canBeTied_87 : decode cX0_canBeTied 87 = .ok (.iconst 1, 1) := by decide +kernel
theorem dX0_canBeTied_88 : decode cX0_canBeTied 88 = .ok (.goto 4, 3) := by decide +kernel
theorem dX0_canBeTied_91 : decode cX0_canBeTied 91 = .ok (.iconst 0, 1) := by decide +kernel
theorem dX0_canBeTied_92 : decode cX0_canBeTied 92 = .ok (.ireturn, 1) := by decide +kernel
set_option maxRecDepth 20000 in
theorem ggX0_append_X0_firstAfloat : GoodIn wsX0_append wsX0_firstAfloat := goodIn_r _ [13, 1, 14, 15, 16, 17, 18, 19, 20, 21, 22, 23, 24, 25, 26] (by decide +kernel) (by decide +kernel)
set_option maxRecDepth 20000 in
theorem gX0_append_X0_firstAfloat : GoodIn wsX0_append (wsV RX0 62 RX0 yX0_firstAfloat wsX0_firstAfloat) := goodIn_app (goodIn_of _ (by decide +kernel)) ggX0_append_X0_firstAfloat
theorem dX0_append_0 : decode cX0_append 0 = .ok (.aload_n 0, 1) := by decide +kernel
theorem dX0_append_1 : decode cX0_append 1 = .ok (.getfield 45, 3) := by decide +kernel
theorem dX0_append_4 : decode cX0_append 4 = .ok (.istore 5, 2) := by decide +kernel
theorem dX0_append_6 : decode cX0_append 6 = .ok (.iload 5, 2) := by decide +kernel
theorem dX0_append_8 : decode cX0_append 8 = .ok (.bipush 24, 2) := by decide +kernel
theorem dX0_append_10 : decode cX0_append 10 = .ok (.if_icmp .ge 108, 3) := by decide +kernel
theorem dX0_append_13 : decode cX0_append 13 = .ok (.aload_n 0, 1) := by decide +kernel
theorem dX0_append_14 : decode cX0_append 14 = .ok (.invokevirtual 62, 3) := by decide +kernel
theorem dX0_append_17 : decode cX0_append 17 = .ok (.istore 6, 2) := by decide +kernel
theorem dX0_append_19 : decode cX0_append 19 = .ok (.aload_n 0, 1) := by decide +kernel
theorem dX0_append_20 : decode cX0_append 20 = .ok (.getfield 36, 3) := by decide +kernel
theorem dX0_append_23 : decode cX0_append 23 = .ok (.iload 5, 2) := by decide +kernel
theorem dX0_append_25 : decode cX0_append 25 = .ok (.iload 6, 2) := by decide +kernel
theorem dX0_append_27 : decode cX0_append 27 = .ok (.ifCond .lt 13, 3) := by decide +kernel
theorem dX0_append_30 : decode cX0_append 30 = .ok (.aload_n 0, 1) := by decide +kernel
theorem dX0_append_31 : decode cX0_append 31 = .ok (.getfield 36, 3) := by decide +kernel
theorem dX0_append_34 : decode cX0_append 34 = .ok (.iload 6, 2) := by decide +kernel
theorem dX0_append_36 : decode cX0_append 36 = .ok (.iaload, 1) := by decide +kernel
theorem dX0_append_37 : decode cX0_append 37 = .ok (.goto 4, 3) := by decide +kernel
theorem dX0_append_40 : decode cX0_append 40 = .ok (.iconst 0, 1) := by decide +kernel
theorem dX0_append_41 : decode cX0_append 41 = .ok (.iastore, 1) := by decide +kernel
theorem dX0_append_42 : decode cX0_append 42 = .ok (.aload_n 0, 1) := by decide +kernel
theorem dX0_append_43 : decode cX0_append 43 = .ok (.getfield 39, 3) := by decide +kernel
theorem dX0_append_46 : decode cX0_append 46 = .ok (.iload 5, 2) := by decide +kernel
theorem dX0_append_48 : decode cX0_append 48 = .ok (.iload 6, 2) := by decide +kernel
theorem dX0_append_50 : decode cX0_append 50 = .ok (.ifCond .lt 13, 3) := by decide +kernel
theorem dX0_append_53 : decode cX0_append 53 = .ok (.aload_n 0, 1) := by decide +kernel
theorem dX0_append_54 : decode cX0_append 54 = .ok (.getfield 39, 3) := by decide +kernel
theorem dX0_append_57 : decode cX0_append 57 = .ok (.iload 6, 2) := by decide +kernel
theorem dX0_append_59 : decode cX0_append 59 = .ok (.iaload, 1) := by decide +kernel
theorem dX0_append_60 : decode cX0_append 60 = .ok (.goto 5, 3) := by decide +kernel
theorem dX0_append_63 : decode cX0_append 63 = .ok (.bipush 10, 2) := by decide +kernel
theorem dX0_append_65 : decode cX0_append 65 = .ok (.iastore, 1) := by decide +kernel
theorem dX0_append_66 : decode cX0_append 66 = .ok (.aload_n 0, 1) := by decide +kernel
theorem dX0_append_67 : decode cX0_append 67 = .ok (.getfield 9, 3) := by decide +kernel
theorem dX0_append_70 : decode cX0_append 70 = .ok (.iload 5, 2) := by decide +kernel
theorem dX0_append_72 : decode cX0_append 72 = .ok (.iload_n 1, 1) := by decide +kernel
theorem dX0_append_73 : decode cX0_append 73 = .ok (.iastore, 1) := by decide +kernel
theorem dX0_append_74 : decode cX0_append 74 = .ok (.aload_n 0, 1) := by decide +kernel
theorem dX0_append_75 : decode cX0_append 75 = .ok (.getfield 15, 3) := by decide +kernel
theorem dX0_append_78 : decode cX0_append 78 = .ok (.iload 5, 2) := by decide +kernel
theorem dX0_append_80 : decode cX0_append 80 = .ok (.iload_n 2, 1) := by decide +kernel
theorem dX0_append_81 : decode cX0_append 81 = .ok (.iastore, 1) := by decide +kernel
theorem dX0_append_82 : decode cX0_append 82 = .ok (.aload_n 0, 1) := by decide +kernel
theorem dX0_append_83 : decode cX0_append 83 = .ok (.getfield 18, 3) := by decide +kernel
theorem dX0_append_86 : decode cX0_append 86 = .ok (.iload 5, 2) := by decide +kernel
theorem dX0_append_88 : decode cX0_append 88 = .ok (.iload_n 3, 1) := by decide +kernel
theorem dX0_append_89 : decode cX0_append 89 = .ok (.iastore, 1) := by decide +kernel
theorem dX0_append_90 : decode cX0_append 90 = .ok (.aload_n 0, 1) := by decide +kernel
theorem dX0_append_91 : decode cX0_append 91 = .ok (.getfield 21, 3) := by decide +kernel
theorem dX0_append_94 : decode cX0_append 94 = .ok (.iload 5, 2) := by decide +kernel
theorem dX0_append_96 : decode cX0_append 96 = .ok (.iload 4, 2) := by decide +kernel
theorem dX0_append_98 : decode cX0_append 98 = .ok (.iastore, 1) := by decide +kernel
theorem dX0_append_99 : decode cX0_append 99 = .ok (.aload_n 0, 1) := by decide +kernel
theorem dX0_append_100 : decode cX0_append 100 = .ok (.getfield 42, 3) := by decide +kernel
theorem dX0_append_103 : decode cX0_append 103 = .ok (.iload 5, 2) := by decide +kernel
theorem dX0_append_105 : decode cX0_append 105 = .ok (.iload 5, 2) := by decide +kernel
theorem dX0_append_107 : decode cX0_append 107 = .ok (.iastore, 1) := by decide +kernel
theorem dX0_append_108 : decode cX0_append 108 = .ok (.aload_n 0, 1) := by decide +kernel
theorem dX0_append_109 : decode cX0_append 109 = .ok (.dup, 1) := by decide +kernel
theorem dX0_append_110 : decode cX0_append 110 = .ok (.getfield 45, 3) := by decide +kernel
theorem dX0_append_113 : decode cX0_append 113 = .ok (.iconst 1, 1) := by decide +kernel
theorem dX0_append_114 : decode cX0_append 114 = .ok (.iadd, 1) := by decide +kernel
theorem dX0_append_115 : decode cX0_append 115 = .ok (.putfield 45, 3) := by decide +kernel
theorem dX0_append_118 : decode cX0_append 118 = .ok (.iload 5, 2) := by decide +kernel
theorem dX0_append_120 : decode cX0_append 120 = .ok (.ireturn, 1) := by decide +kernel
theorem dX0_takeInWater_0 : decode cX0_takeInWater 0 = .ok (.iconst 0, 1) := by decide +kernel
theorem dX0_takeInWater_1 : decode cX0_takeInWater 1 = .ok (.istore_n 1, 1) := by decide +kernel
theorem dX0_takeInWater_2 : decode cX0_takeInWater 2 = .ok (.iload_n 1, 1) := by decide +kernel
theorem dX0_takeInWater_3 : decode cX0_takeInWater 3 = .ok (.aload_n 0, 1) := by decide +kernel
theorem dX0_takeInWater_4 : decode cX0_takeInWater 4 = .ok (.getfield 45, 3) := by decide +kernel
theorem dX0_takeInWater_7 : decode cX0_takeInWater 7 = .ok (.if_icmp .ge 42, 3) := by decide +kernel
theorem dX0_takeInWater_10 : decode cX0_takeInWater 10 = .ok (.aload_n 0, 1) := by decide +kernel
theorem dX0_takeInWater_11 : decode cX0_takeInWater 11 = .ok (.getfield 33, 3) := by decide +kernel
theorem dX0_takeInWater_14 : decode cX0_takeInWater 14 = .ok (.iload_n 1, 1) := by decide +kernel
theorem dX0_takeInWater_15 : decode cX0_takeInWater 15 = .ok (.iaload, 1) := by decide +kernel
theorem dX0_takeInWater_16 : decode cX0_takeInWater 16 = .ok (.ifCond .ne 27, 3) := by decide +kernel
theorem dX0_takeInWater_19 : decode cX0_takeInWater 19 = .ok (.aload_n 0, 1) := by decide +kernel
theorem dX0_takeInWater_20 : decode cX0_takeInWater 20 = .ok (.getfield 24, 3) := by decide +kernel
theorem dX0_takeInWater_23 : decode cX0_takeInWater 23 = .ok (.iload_n 1, 1) := by decide +kernel
theorem dX0_takeInWater_24 : decode cX0_takeInWater 24 = .ok (.bipush 100, 2) := by decide +kernel
theorem dX0_takeInWater_26 : decode cX0_takeInWater 26 = .ok (.aload_n 0, 1) := by decide +kernel
theorem dX0_takeInWater_27 : decode cX0_takeInWater 27 = .ok (.getfield 24, 3) := by decide +kernel
theorem dX0_takeInWater_30 : decode cX0_takeInWater 30 = .ok (.iload_n 1, 1) := by decide +kernel
theorem dX0_takeInWater_31 : decode cX0_takeInWater 31 = .ok (.iaload, 1) := by decide +kernel
theorem dX0_takeInWater_32 : decode cX0_takeInWater 32 = .ok (.aload_n 0, 1) := by decide +kernel
theorem dX0_takeInWater_33 : decode cX0_takeInWater 33 = .ok (.getfield 21, 3) := by decide +kernel
theorem dX0_takeInWater_36 : decode cX0_takeInWater 36 = .ok (.iload_n 1, 1) := by decide +kernel
theorem dX0_takeInWater_37 : decode cX0_takeInWater 37 = .ok (.iaload, 1) := by decide +kernel
theorem dX0_takeInWater_38 : decode cX0_takeInWater 38 = .ok (.iadd, 1) := by decide +kernel
theorem dX0_takeInWater_39 : decode cX0_takeInWater 39 = .ok (.invokestatic 66, 3) := by decide +kernel
theorem dX0_takeInWater_42 : decode cX0_takeInWater 42 = .ok (.iastore, 1) := by decide +kernel
theorem dX0_takeInWater_43 : decode cX0_takeInWater 43 = .ok (.iinc 1 1, 3) := by decide +kernel
theorem dX0_takeInWater_46 : decode cX0_takeInWater 46 = .ok (.goto (-44), 3) := by decide +kernel
theorem dX0_takeInWater_49 : decode cX0_takeInWater 49 = .ok (.return_, 1) := by decide +kernel
theorem dX0_end_0 : decode cX0_end 0 = .ok (.aload_n 0, 1) := by decide +kernel
theorem dX0_end_1 : decode cX0_end 1 = .ok (.getfield 33, 3) := by decide +kernel
theorem dX0_end_4 : decode cX0_end 4 = .ok (.iload_n 1, 1) := by decide +kernel
theorem dX0_end_5 : decode cX0_end 5 = .ok (.iload_n 2, 1) := by decide +kernel
theorem dX0_end_6 : decode cX0_end 6 = .ok (.iastore, 1) := by decide +kernel
theorem dX0_end_7 : decode cX0_end 7 = .ok (.aload_n 0, 1) := by decide +kernel
theorem dX0_end_8 : decode cX0_end 8 = .ok (.getfield 42, 3) := by decide +kernel
theorem dX0_end_11 : decode cX0_end 11 = .ok (.iload_n 1, 1) := by decide +kernel
theorem dX0_end_12 : decode cX0_end 12 = .ok (.iconst (-1), 1) := by decide +kernel
theorem dX0_end_13 : decode cX0_end 13 = .ok (.iastore, 1) := by decide +kernel
theorem dX0_end_14 : decode cX0_end 14 = .ok (.aload_n 0, 1) := by decide +kernel
theorem dX0_end_15 : decode cX0_end 15 = .ok (.getfield 30, 3) := by decide +kernel
theorem dX0_end_18 : decode cX0_end 18 = .ok (.iload_n 1, 1) := by decide +kernel
theorem dX0_end_19 : decode cX0_end 19 = .ok (.iconst 0, 1) := by decide +kernel
theorem dX0_end_20 : decode cX0_end 20 = .ok (.iastore, 1) := by decide +kernel
theorem dX0_end_21 : decode cX0_end 21 = .ok (.iload_n 2, 1) := by decide +kernel
theorem dX0_end_22 : decode cX0_end 22 = .ok (.iconst 1, 1) := by decide +kernel
theorem dX0_end_23 : decode cX0_end 23 = .ok (.if_icmp .ne 10, 3) := by decide +kernel
theorem dX0_end_26 : decode cX0_end 26 = .ok (.aload_n 0, 1) := by decide +kernel
theorem dX0_end_27 : decode cX0_end 27 = .ok (.getfield 27, 3) := by decide +kernel
theorem dX0_end_30 : decode cX0_end 30 = .ok (.iload_n 1, 1) := by decide +kernel
theorem dX0_end_31 : decode cX0_end 31 = .ok (.iconst 0, 1) := by decide +kernel
theorem dX0_end_32 : decode cX0_end 32 = .ok (.iastore, 1) := by decide +kernel
theorem dX0_end_33 : decode cX0_end 33 = .ok (.return_, 1) := by decide +kernel
theorem dX0_standAlone_0 : decode cX0_standAlone 0 = .ok (.iconst 0, 1) := by decide +kernel
theorem dX0_standAlone_1 : decode cX0_standAlone 1 = .ok (.istore_n 1, 1) := by decide +kernel
theorem dX0_standAlone_2 : decode cX0_standAlone 2 = .ok (.iload_n 1, 1) := by decide +kernel
theorem dX0_standAlone_3 : decode cX0_standAlone 3 = .ok (.aload_n 0, 1) := by decide +kernel
theorem dX0_standAlone_4 : decode cX0_standAlone 4 = .ok (.getfield 45, 3) := by decide +kernel
theorem dX0_standAlone_7 : decode cX0_standAlone 7 = .ok (.if_icmp .ge 29, 3) := by decide +kernel
theorem dX0_standAlone_10 : decode cX0_standAlone 10 = .ok (.aload_n 0, 1) := by decide +kernel
theorem dX0_standAlone_11 : decode cX0_standAlone 11 = .ok (.getfield 42, 3) := by decide +kernel
theorem dX0_standAlone_14 : decode cX0_standAlone 14 = .ok (.iload_n 1, 1) := by decide +kernel
theorem dX0_standAlone_15 : decode cX0_standAlone 15 = .ok (.aload_n 0, 1) := by decide +kernel
theorem dX0_standAlone_16 : decode cX0_standAlone 16 = .ok (.getfield 33, 3) := by decide +kernel
theorem dX0_standAlone_19 : decode cX0_standAlone 19 = .ok (.iload_n 1, 1) := by decide +kernel
theorem dX0_standAlone_20 : decode cX0_standAlone 20 = .ok (.iaload, 1) := by decide +kernel
theorem dX0_standAlone_21 : decode cX0_standAlone 21 = .ok (.ifCond .ne 7, 3) := by decide +kernel
theorem dX0_standAlone_24 : decode cX0_standAlone 24 = .ok (.iload_n 1, 1) := by decide +kernel
theorem dX0_standAlone_25 : decode cX0_standAlone 25 = .ok (.goto 4, 3) := by decide +kernel
theorem dX0_standAlone_28 : decode cX0_standAlone 28 = .ok (.iconst (-1), 1) := by decide +kernel
theorem dX0_standAlone_29 : decode cX0_standAlone 29 = .ok (.iastore, 1) := by decide +kernel
theorem dX0_standAlone_30 : decode cX0_standAlone 30 = .ok (.iinc 1 1, 3) := by decide +kernel
theorem dX0_standAlone_33 : decode cX0_standAlone 33 = .ok (.goto (-31), 3) := by decide +kernel
theorem dX0_standAlone_36 : decode cX0_standAlone 36 = .ok (.return_, 1) := by decide +kernel
theorem dX0_join_0 : decode cX0_join 0 = .ok (.aload_n 0, 1) := by decide +kernel
theorem dX0_join_1 : decode cX0_join 1 = .ok (.getfield 42, 3) := by decide +kernel
theorem dX0_join_4 : decode cX0_join 4 = .ok (.iload_n 1, 1) := by decide +kernel
theorem dX0_join_5 : decode cX0_join 5 = .ok (.iaload, 1) := by decide +kernel
theorem dX0_join_6 : decode cX0_join 6 = .ok (.aload_n 0, 1) := by decide +kernel
theorem dX0_join_7 : decode cX0_join 7 = .ok (.getfield 42, 3) := by decide +kernel
theorem dX0_join_10 : decode cX0_join 10 = .ok (.iload_n 2, 1) := by decide +kernel
theorem dX0_join_11 : decode cX0_join 11 = .ok (.iaload, 1) := by decide +kernel
theorem dX0_join_12 : decode cX0_join 12 = .ok (.invokestatic 66, 3) := by decide +kernel
theorem dX0_join_15 : decode cX0_join 15 = .ok (.istore_n 3, 1) := by decide +kernel
theorem dX0_join_16 : decode cX0_join 16 = .ok (.aload_n 0, 1) := by decide +kernel
theorem dX0_join_17 : decode cX0_join 17 = .ok (.getfield 42, 3) := by decide +kernel
theorem dX0_join_20 : decode cX0_join 20 = .ok (.iload_n 1, 1) := by decide +kernel
theorem dX0_join_21 : decode cX0_join 21 = .ok (.iaload, 1) := by decide +kernel
theorem dX0_join_22 : decode cX0_join 22 = .ok (.aload_n 0, 1) := by decide +kernel
theorem dX0_join_23 : decode cX0_join 23 = .ok (.getfield 42, 3) := by decide +kernel
theorem dX0_join_26 : decode cX0_join 26 = .ok (.iload_n 2, 1) := by decide +kernel
theorem dX0_join_27 : decode cX0_join 27 = .ok (.iaload, 1) := by decide +kernel
theorem dX0_join_28 : decode cX0_join 28 = .ok (.invokestatic 70, 3) := by decide +kernel
theorem dX0_join_31 : decode cX0_join 31 = .ok (.istore 4, 2) := by decide +kernel
theorem dX0_join_33 : decode cX0_join 33 = .ok (.iload_n 3, 1) := by decide +kernel
theorem dX0_join_34 : decode cX0_join 34 = .ok (.ifCond .lt 9, 3) := by decide +kernel
theorem dX0_join_37 : decode cX0_join 37 = .ok (.iload_n 3, 1) := by decide +kernel
theorem dX0_join_38 : decode cX0_join 38 = .ok (.iload 4, 2) := by decide +kernel
theorem dX0_join_40 : decode cX0_join 40 = .ok (.if_icmp .ne 4, 3) := by decide +kernel
theorem dX0_join_43 : decode cX0_join 43 = .ok (.return_, 1) := by decide +kernel
theorem dX0_join_44 : decode cX0_join 44 = .ok (.iload 4, 2) := by decide +kernel
theorem dX0_join_46 : decode cX0_join 46 = .ok (.istore 5, 2) := by decide +kernel
theorem dX0_join_48 : decode cX0_join 48 = .ok (.iload 5, 2) := by decide +kernel
theorem dX0_join_50 : decode cX0_join 50 = .ok (.aload_n 0, 1) := by decide +kernel
theorem dX0_join_51 : decode cX0_join 51 = .ok (.getfield 45, 3) := by decide +kernel
theorem dX0_join_54 : decode cX0_join 54 = .ok (.if_icmp .ge 29, 3) := by decide +kernel
theorem dX0_join_57 : decode cX0_join 57 = .ok (.aload_n 0, 1) := by decide +kernel
theorem dX0_join_58 : decode cX0_join 58 = .ok (.getfield 42, 3) := by decide +kernel
theorem dX0_join_61 : decode cX0_join 61 = .ok (.iload 5, 2) := by decide +kernel
theorem dX0_join_63 : decode cX0_join 63 = .ok (.iaload, 1) := by decide +kernel
theorem dX0_join_64 : decode cX0_join 64 = .ok (.iload 4, 2) := by decide +kernel
theorem dX0_join_66 : decode cX0_join 66 = .ok (.if_icmp .ne 11, 3) := by decide +kernel
theorem dX0_join_69 : decode cX0_join 69 = .ok (.aload_n 0, 1) := by decide +kernel
theorem dX0_join_70 : decode cX0_join 70 = .ok (.getfield 42, 3) := by decide +kernel
theorem dX0_join_73 : decode cX0_join 73 = .ok (.iload 5, 2) := by decide +kernel
theorem dX0_join_75 : decode cX0_join 75 = .ok (.iload_n 3, 1) := by decide +kernel
theorem dX0_join_76 : decode cX0_join 76 = .ok (.iastore, 1) := by decide +kernel
theorem dX0_join_77 : decode cX0_join 77 = .ok (.iinc 5 1, 3) := by decide +kernel
theorem dX0_join_80 : decode cX0_join 80 = .ok (.goto (-32), 3) := by decide +kernel
theorem dX0_join_83 : decode cX0_join 83 = .ok (.return_, 1) := by decide +kernel
theorem dX0_copyFrom_0 : decode cX0_copyFrom 0 = .ok (.aload_n 1, 1) := by decide +kernel
theorem dX0_copyFrom_1 : decode cX0_copyFrom 1 = .ok (.getfield 9, 3) := by decide +kernel
theorem dX0_copyFrom_4 : decode cX0_copyFrom 4 = .ok (.iconst 0, 1) := by decide +kernel
theorem dX0_copyFrom_5 : decode cX0_copyFrom 5 = .ok (.aload_n 0, 1) := by decide +kernel
theorem dX0_copyFrom_6 : decode cX0_copyFrom 6 = .ok (.getfield 9, 3) := by decide +kernel
theorem dX0_copyFrom_9 : decode cX0_copyFrom 9 = .ok (.iconst 0, 1) := by decide +kernel
theorem dX0_copyFrom_10 : decode cX0_copyFrom 10 = .ok (.bipush 24, 2) := by decide +kernel
theorem dX0_copyFrom_12 : decode cX0_copyFrom 12 = .ok (.invokestatic 73, 3) := by decide +kernel
theorem dX0_copyFrom_15 : decode cX0_copyFrom 15 = .ok (.aload_n 1, 1) := by decide +kernel
theorem dX0_copyFrom_16 : decode cX0_copyFrom 16 = .ok (.getfield 15, 3) := by decide +kernel
theorem dX0_copyFrom_19 : decode cX0_copyFrom 19 = .ok (.iconst 0, 1) := by decide +kernel
theorem dX0_copyFrom_20 : decode cX0_copyFrom 20 = .ok (.aload_n 0, 1) := by decide +kernel
theorem dX0_copyFrom_21 : decode cX0_copyFrom 21 = .ok (.getfield 15, 3) := by decide +kernel
theorem dX0_copyFrom_24 : decode cX0_copyFrom 24 = .ok (.iconst 0, 1) := by decide +kernel
theorem dX0_copyFrom_25 : decode cX0_copyFrom 25 = .ok (.bipush 24, 2) := by decide +kernel
theorem dX0_copyFrom_27 : decode cX0_copyFrom 27 = .ok (.invokestatic 73, 3) := by decide +kernel
theorem dX0_copyFrom_30 : decode cX0_copyFrom 30 = .ok (.aload_n 1, 1) := by decide +kernel
theorem dX0_copyFrom_31 : decode cX0_copyFrom 31 = .ok (.getfield 18, 3) := by decide +kernel
theorem dX0_copyFrom_34 : decode cX0_copyFrom 34 = .ok (.iconst 0, 1) := by decide +kernel
theorem dX0_copyFrom_35 : decode cX0_copyFrom 35 = .ok (.aload_n 0, 1) := by decide +kernel
theorem dX0_copyFrom_36 : decode cX0_copyFrom 36 = .ok (.getfield 18, 3) := by decide +kernel
theorem dX0_copyFrom_39 : decode cX0_copyFrom 39 = .ok (.iconst 0, 1) := by decide +kernel
theorem dX0_copyFrom_40 : decode cX0_copyFrom 40 = .ok (.bipush 24, 2) := by decide +kernel
theorem dX0_copyFrom_42 : decode cX0_copyFrom 42 = .ok (.invokestatic 73, 3) := by decide +kernel
theorem dX0_copyFrom_45 : decode cX0_copyFrom 45 = .ok (.aload_n 1, 1) := by decide +kernel
theorem dX0_copyFrom_46 : decode cX0_copyFrom 46 = .ok (.getfield 21, 3) := by decide +kernel
theorem dX0_copyFrom_49 : decode cX0_copyFrom 49 = .ok (.iconst 0, 1) := by decide +kernel
theorem dX0_copyFrom_50 : decode cX0_copyFrom 50 = .ok (.aload_n 0, 1) := by decide +kernel
theorem dX0_copyFrom_51 : decode cX0_copyFrom 51 = .ok (.getfield 21, 3) := by decide +kernel
theorem dX0_copyFrom_54 : decode cX0_copyFrom 54 = .ok (.iconst 0, 1) := by decide +kernel
theorem dX0_copyFrom_55 : decode cX0_copyFrom 55 = .ok (.bipush 24, 2) := by decide +kernel
theorem dX0_copyFrom_57 : decode cX0_copyFrom 57 = .ok (.invokestatic 73, 3) := by decide +kernel
theorem dX0_copyFrom_60 : decode cX0_copyFrom 60 = .ok (.aload_n 1, 1) := by decide +kernel
theorem dX0_copyFrom_61 : decode cX0_copyFrom 61 = .ok (.getfield 24, 3) := by decide +kernel
theorem dX0_copyFrom_64 : decode cX0_copyFrom 64 = .ok (.iconst 0, 1) := by decide +kernel
theorem dX0_copyFrom_65 : decode cX0_copyFrom 65 = .ok (.aload_n 0, 1) := by decide +kernel
theorem dX0_copyFrom_66 : decode cX0_copyFrom 66 = .ok (.getfield 24, 3) := by decide +kernel
theorem dX0_copyFrom_69 : decode cX0_copyFrom 69 = .ok (.iconst 0, 1) := by decide +kernel
theorem dX0_copyFrom_70 : decode cX0_copyFrom 70 = .ok (.bipush 24, 2) := by decide +kernel
theorem dX0_copyFrom_72 : decode cX0_copyFrom 72 = .ok (.invokestatic 73, 3) := by decide +kernel
theorem dX0_copyFrom_75 : decode cX0_copyFrom 75 = .ok (.aload_n 1, 1) := by decide +kernel
theorem dX0_copyFrom_76 : decode cX0_copyFrom 76 = .ok (.getfield 27, 3) := by decide +kernel
theorem dX0_copyFrom_79 : decode cX0_copyFrom 79 = .ok (.iconst 0, 1) := by decide +kernel
theorem dX0_copyFrom_80 : decode cX0_copyFrom 80 = .ok (.aload_n 0, 1) := by decide +kernel
theorem dX0_copyFrom_81 : decode cX0_copyFrom 81 = .ok (.getfield 27, 3) := by decide +kernel
theorem dX0_copyFrom_84 : decode cX0_copyFrom 84 = .ok (.iconst 0, 1) := by decide +kernel
theorem dX0_copyFrom_85 : decode cX0_copyFrom 85 = .ok (.bipush 24, 2) := by decide +kernel
theorem dX0_copyFrom_87 : decode cX0_copyFrom 87 = .ok (.invokestatic 73, 3) := by decide +kernel
theorem dX0_copyFrom_90 : decode cX0_copyFrom 90 = .ok (.aload_n 1, 1) := by decide +kernel
theorem dX0_copyFrom_91 : decode cX0_copyFrom 91 = .ok (.getfield 30, 3) := by decide +kernel
theorem dX0_copyFrom_94 : decode cX0_copyFrom 94 = .ok (.iconst 0, 1) := by decide +kernel
theorem dX0_copyFrom_95 : decode cX0_copyFrom 95 = .ok (.aload_n 0, 1) := by decide +kernel
theorem dX0_copyFrom_96 : decode cX0_copyFrom 96 = .ok (.getfield 30, 3) := by decide +kernel
theorem dX0_copyFrom_99 : decode cX0_copyFrom 99 = .ok (.iconst 0, 1) := by decide +kernel
theorem dX0_copyFrom_100 : decode cX0_copyFrom 100 = .ok (.bipush 24, 2) := by decide +kernel
theorem dX0_copyFrom_102 : decode cX0_copyFrom 102 = .ok (.invokestatic 73, 3) := by decide +kernel
theorem dX0_copyFrom_105 : decode cX0_copyFrom 105 = .ok (.aload_n 1, 1) := by decide +kernel
theorem dX0_copyFrom_106 : decode cX0_copyFrom 106 = .ok (.getfield 33, 3) := by decide +kernel
theorem dX0_copyFrom_109 : decode cX0_copyFrom 109 = .ok (.iconst 0, 1) := by decide +kernel
theorem dX0_copyFrom_110 : decode cX0_copyFrom 110 = .ok (.aload_n 0, 1) := by decide +kernel
theorem dX0_copyFrom_111 : decode cX0_copyFrom 111 = .ok (.getfield 33, 3) := by decide +kernel
theorem dX0_copyFrom_114 : decode cX0_copyFrom 114 = .ok (.iconst 0, 1) := by decide +kernel
theorem dX0_copyFrom_115 : decode cX0_copyFrom 115 = .ok (.bipush 24, 2) := by decide +kernel
theorem dX0_copyFrom_117 : decode cX0_copyFrom 117 = .ok (.invokestatic 73, 3) := by decide +kernel
theorem dX0_copyFrom_120 : decode cX0_copyFrom 120 = .ok (.aload_n 1, 1) := by decide +kernel
theorem dX0_copyFrom_121 : decode cX0_copyFrom 121 = .ok (.getfield 36, 3) := by decide +kernel
theorem dX0_copyFrom_124 : decode cX0_copyFrom 124 = .ok (.iconst 0, 1) := by decide +kernel
theorem dX0_copyFrom_125 : decode cX0_copyFrom 125 = .ok (.aload_n 0, 1) := by decide +kernel
theorem dX0_copyFrom_126 : decode cX0_copyFrom 126 = .ok (.getfield 36, 3) := by decide +kernel
theorem dX0_copyFrom_129 : decode cX0_copyFrom 129 = .ok (.iconst 0, 1) := by decide +kernel
theorem dX0_copyFrom_130 : decode cX0_copyFrom 130 = .ok (.bipush 24, 2) := by decide +kernel
theorem dX0_copyFrom_132 : decode cX0_copyFrom 132 = .ok (.invokestatic 73, 3) := by decide +kernel
theorem dX0_copyFrom_135 : decode cX0_copyFrom 135 = .ok (.aload_n 1, 1) := by decide +kernel
theorem dX0_copyFrom_136 : decode cX0_copyFrom 136 = .ok (.getfield 39, 3) := by decide +kernel
theorem dX0_copyFrom_139 : decode cX0_copyFrom 139 = .ok (.iconst 0, 1) := by decide +kernel
theorem dX0_copyFrom_140 : decode cX0_copyFrom 140 = .ok (.aload_n 0, 1) := by decide +kernel
theorem dX0_copyFrom_141 : decode cX0_copyFrom 141 = .ok (.getfield 39, 3) := by decide +kernel
theorem dX0_copyFrom_144 : decode cX0_copyFrom 144 = .ok (.iconst 0, 1) := by decide +kernel
theorem dX0_copyFrom_145 : decode cX0_copyFrom 145 = .ok (.bipush 24, 2) := by decide +kernel
theorem dX0_copyFrom_147 : decode cX0_copyFrom 147 = .ok (.invokestatic 73, 3) := by decide +kernel
theorem dX0_copyFrom_150 : decode cX0_copyFrom 150 = .ok (.aload_n 1, 1) := by decide +kernel
theorem dX0_copyFrom_151 : decode cX0_copyFrom 151 = .ok (.getfield 42, 3) := by decide +kernel
theorem dX0_copyFrom_154 : decode cX0_copyFrom 154 = .ok (.iconst 0, 1) := by decide +kernel
theorem dX0_copyFrom_155 : decode cX0_copyFrom 155 = .ok (.aload_n 0, 1) := by decide +kernel
theorem dX0_copyFrom_156 : decode cX0_copyFrom 156 = .ok (.getfield 42, 3) := by decide +kernel
theorem dX0_copyFrom_159 : decode cX0_copyFrom 159 = .ok (.iconst 0, 1) := by decide +kernel
theorem dX0_copyFrom_160 : decode cX0_copyFrom 160 = .ok (.bipush 24, 2) := by decide +kernel
theorem dX0_copyFrom_162 : decode cX0_copyFrom 162 = .ok (.invokestatic 73, 3) := by decide +kernel
theorem dX0_copyFrom_165 : decode cX0_copyFrom 165 = .ok (.aload_n 0, 1) := by decide +kernel
theorem dX0_copyFrom_166 : decode cX0_copyFrom 166 = .ok (.aload_n 1, 1) := by decide +kernel
theorem dX0_copyFrom_167 : decode cX0_copyFrom 167 = .ok (.getfield 45, 3) := by decide +kernel
theorem dX0_copyFrom_170 : decode cX0_copyFrom 170 = .ok (.putfield 45, 3) := by decide +kernel
theorem dX0_copyFrom_173 : decode cX0_copyFrom 173 = .ok (.return_, 1) := by decide +kernel
theorem dX1_init_0 : decode cX1_init 0 = .ok (.aload_n 0, 1) := by decide +kernel
theorem dX1_init_1 : decode cX1_init 1 = .ok (.invokespecial 3, 3) := by decide +kernel
theorem dX1_init_4 : decode cX1_init 4 = .ok (.aload_n 0, 1) := by decide +kernel
theorem dX1_init_5 : decode cX1_init 5 = .ok (.bipush 8, 2) := by decide +kernel
theorem dX1_init_7 : decode cX1_init 7 = .ok (.newarray .int, 2) := by decide +kernel
theorem dX1_init_9 : decode cX1_init 9 = .ok (.putfield 9, 3) := by decide +kernel
theorem dX1_init_12 : decode cX1_init 12 = .ok (.aload_n 0, 1) := by decide +kernel
theorem dX1_init_13 : decode cX1_init 13 = .ok (.bipush 8, 2) := by decide +kernel
theorem dX1_init_15 : decode cX1_init 15 = .ok (.newarray .int, 2) := by decide +kernel
theorem dX1_init_17 : decode cX1_init 17 = .ok (.putfield 15, 3) := by decide +kernel
theorem dX1_init_20 : decode cX1_init 20 = .ok (.return_, 1) := by decide +kernel
theorem dX1_has_0 : decode cX1_has 0 = .ok (.iload_n 1, 1) := by decide +kernel
theorem dX1_has_1 : decode cX1_has 1 = .ok (.ifCond .lt 15, 3) := by decide +kernel
theorem dX1_has_4 : decode cX1_has 4 = .ok (.iload_n 1, 1) := by decide +kernel
theorem dX1_has_5 : decode cX1_has 5 = .ok (.aload_n 0, 1) := by decide +kernel
theorem dX1_has_6 : decode cX1_has 6 = .ok (.getfield 18, 3) := by decide +kernel
theorem dX1_has_9 : decode cX1_has 9 = .ok (.if_icmp .ge 7, 3) := by decide +kernel
theorem dX1_has_12 : decode cX1_has 12 = .ok (.iconst 1, 1) := by decide +kernel
theorem dX1_has_13 : decode cX1_has 13 = .ok (.goto 4, 3) := by decide +kernel
theorem dX1_has_16 : decode cX1_has 16 = .ok (.iconst 0, 1) := by decide +kernel
theorem dX1_has_17 : decode cX1_has 17 = .ok (.ireturn, 1) := by decide +kernel
theorem dX1_append_0 : decode cX1_append 0 = .ok (.aload_n 0, 1) := by decide +kernel
theorem dX1_append_1 : decode cX1_append 1 = .ok (.getfield 18, 3) := by decide +kernel
theorem dX1_append_4 : decode cX1_append 4 = .ok (.istore_n 2, 1) := by decide +kernel
theorem dX1_append_5 : decode cX1_append 5 = .ok (.iload_n 2, 1) := by decide +kernel
theorem dX1_append_6 : decode cX1_append 6 = .ok (.bipush 8, 2) := by decide +kernel
theorem dX1_append_8 : decode cX1_append 8 = .ok (.if_icmp .ge 27, 3) := by decide +kernel
theorem dX1_append_11 : decode cX1_append 11 = .ok (.aload_n 0, 1) := by decide +kernel
theorem dX1_append_12 : decode cX1_append 12 = .ok (.getfield 9, 3) := by decide +kernel
theorem dX1_append_15 : decode cX1_append 15 = .ok (.iload_n 2, 1) := by decide +kernel
theorem dX1_append_16 : decode cX1_append 16 = .ok (.iload_n 1, 1) := by decide +kernel
theorem dX1_append_17 : decode cX1_append 17 = .ok (.iastore, 1) := by decide +kernel
theorem dX1_append_18 : decode cX1_append 18 = .ok (.aload_n 0, 1) := by decide +kernel
theorem dX1_append_19 : decode cX1_append 19 = .ok (.getfield 15, 3) := by decide +kernel
theorem dX1_append_22 : decode cX1_append 22 = .ok (.iload_n 2, 1) := by decide +kernel
theorem dX1_append_23 : decode cX1_append 23 = .ok (.iconst 0, 1) := by decide +kernel
theorem dX1_append_24 : decode cX1_append 24 = .ok (.iastore, 1) := by decide +kernel
theorem dX1_append_25 : decode cX1_append 25 = .ok (.aload_n 0, 1) := by decide +kernel
theorem dX1_append_26 : decode cX1_append 26 = .ok (.dup, 1) := by decide +kernel
theorem dX1_append_27 : decode cX1_append 27 = .ok (.getfield 18, 3) := by decide +kernel
theorem dX1_append_30 : decode cX1_append 30 = .ok (.iconst 1, 1) := by decide +kernel
theorem dX1_append_31 : decode cX1_append 31 = .ok (.iadd, 1) := by decide +kernel
theorem dX1_append_32 : decode cX1_append 32 = .ok (.putfield 18, 3) := by decide +kernel
theorem dX1_append_35 : decode cX1_append 35 = .ok (.iload_n 2, 1) := by decide +kernel
theorem dX1_append_36 : decode cX1_append 36 = .ok (.ireturn, 1) := by decide +kernel
theorem dX1_countOf_0 : decode cX1_countOf 0 = .ok (.iconst 0, 1) := by decide +kernel
theorem dX1_countOf_1 : decode cX1_countOf 1 = .ok (.istore_n 2, 1) := by decide +kernel
theorem dX1_countOf_2 : decode cX1_countOf 2 = .ok (.iconst 0, 1) := by decide +kernel
theorem dX1_countOf_3 : decode cX1_countOf 3 = .ok (.istore_n 3, 1) := by decide +kernel
theorem dX1_countOf_4 : decode cX1_countOf 4 = .ok (.iload_n 3, 1) := by decide +kernel
theorem dX1_countOf_5 : decode cX1_countOf 5 = .ok (.aload_n 0, 1) := by decide +kernel
theorem dX1_countOf_6 : decode cX1_countOf 6 = .ok (.getfield 18, 3) := by decide +kernel
theorem dX1_countOf_9 : decode cX1_countOf 9 = .ok (.if_icmp .ge 22, 3) := by decide +kernel
theorem dX1_countOf_12 : decode cX1_countOf 12 = .ok (.aload_n 0, 1) := by decide +kernel
theorem dX1_countOf_13 : decode cX1_countOf 13 = .ok (.getfield 15, 3) := by decide +kernel
theorem dX1_countOf_16 : decode cX1_countOf 16 = .ok (.iload_n 3, 1) := by decide +kernel
theorem dX1_countOf_17 : decode cX1_countOf 17 = .ok (.iaload, 1) := by decide +kernel
theorem dX1_countOf_18 : decode cX1_countOf 18 = .ok (.iload_n 1, 1) := by decide +kernel
theorem dX1_countOf_19 : decode cX1_countOf 19 = .ok (.if_icmp .ne 6, 3) := by decide +kernel
theorem dX1_countOf_22 : decode cX1_countOf 22 = .ok (.iinc 2 1, 3) := by decide +kernel
theorem dX1_countOf_25 : decode cX1_countOf 25 = .ok (.iinc 3 1, 3) := by decide +kernel
theorem dX1_countOf_28 : decode cX1_countOf 28 = .ok (.goto (-24), 3) := by decide +kernel
theorem dX1_countOf_31 : decode cX1_countOf 31 = .ok (.iload_n 2, 1) := by decide +kernel
theorem dX1_countOf_32 : decode cX1_countOf 32 = .ok (.ireturn, 1) := by decide +kernel
set_option maxRecDepth 20000 in
theorem ggX1_shareFate_X0_has : GoodIn wsX1_shareFate wsX0_has := goodIn_r _ [9, 10, 14, 15, 16, 17, 18, 19, 20, 21, 22, 23, 24, 25] (by decide +kernel) (by decide +kernel)
set_option maxRecDepth 20000 in
theorem gX1_shareFate_X0_has : GoodIn wsX1_shareFate (wsV RX1 22 RX0 yX0_has wsX0_has) := goodIn_app (goodIn_of _ (by decide +kernel)) ggX1_shareFate_X0_has
theorem dX1_shareFate_0 : decode cX1_shareFate 0 = .ok (.iconst 0, 1) := by decide +kernel
theorem dX1_shareFate_1 : decode cX1_shareFate 1 = .ok (.istore_n 2, 1) := by decide +kernel
theorem dX1_shareFate_2 : decode cX1_shareFate 2 = .ok (.iload_n 2, 1) := by decide +kernel
theorem dX1_shareFate_3 : decode cX1_shareFate 3 = .ok (.aload_n 0, 1) := by decide +kernel
theorem dX1_shareFate_4 : decode cX1_shareFate 4 = .ok (.getfield 18, 3) := by decide +kernel
theorem dX1_shareFate_7 : decode cX1_shareFate 7 = .ok (.if_icmp .ge 52, 3) := by decide +kernel
theorem dX1_shareFate_10 : decode cX1_shareFate 10 = .ok (.aload_n 0, 1) := by decide +kernel
theorem dX1_shareFate_11 : decode cX1_shareFate 11 = .ok (.getfield 9, 3) := by decide +kernel
theorem dX1_shareFate_14 : decode cX1_shareFate 14 = .ok (.iload_n 2, 1) := by decide +kernel
theorem dX1_shareFate_15 : decode cX1_shareFate 15 = .ok (.iaload, 1) := by decide +kernel
theorem dX1_shareFate_16 : decode cX1_shareFate 16 = .ok (.istore_n 3, 1) := by decide +kernel
theorem dX1_shareFate_17 : decode cX1_shareFate 17 = .ok (.aload_n 1, 1) := by decide +kernel
theorem dX1_shareFate_18 : decode cX1_shareFate 18 = .ok (.iload_n 3, 1) := by decide +kernel
theorem dX1_shareFate_19 : decode cX1_shareFate 19 = .ok (.invokevirtual 22, 3) := by decide +kernel
theorem dX1_shareFate_22 : decode cX1_shareFate 22 = .ok (.ifCond .eq 31, 3) := by decide +kernel
theorem dX1_shareFate_25 : decode cX1_shareFate 25 = .ok (.aload_n 1, 1) := by decide +kernel
theorem dX1_shareFate_26 : decode cX1_shareFate 26 = .ok (.getfield 28, 3) := by decide +kernel
theorem dX1_shareFate_29 : decode cX1_shareFate 29 = .ok (.iload_n 3, 1) := by decide +kernel
theorem dX1_shareFate_30 : decode cX1_shareFate 30 = .ok (.iaload, 1) := by decide +kernel
theorem dX1_shareFate_31 : decode cX1_shareFate 31 = .ok (.ifCond .eq 22, 3) := by decide +kernel
theorem dX1_shareFate_34 : decode cX1_shareFate 34 = .ok (.aload_n 0, 1) := by decide +kernel
theorem dX1_shareFate_35 : decode cX1_shareFate 35 = .ok (.getfield 15, 3) := by decide +kernel
theorem dX1_shareFate_38 : decode cX1_shareFate 38 = .ok (.iload_n 2, 1) := by decide +kernel
theorem dX1_shareFate_39 : decode cX1_shareFate 39 = .ok (.aload_n 1, 1) := by decide +kernel
theorem dX1_shareFate_40 : decode cX1_shareFate 40 = .ok (.getfield 28, 3) := by decide +kernel
theorem dX1_shareFate_43 : decode cX1_shareFate 43 = .ok (.iload_n 3, 1) := by decide +kernel
theorem dX1_shareFate_44 : decode cX1_shareFate 44 = .ok (.iaload, 1) := by decide +kernel
theorem dX1_shareFate_45 : decode cX1_shareFate 45 = .ok (.iastore, 1) := by decide +kernel
theorem dX1_shareFate_46 : decode cX1_shareFate 46 = .ok (.aload_n 0, 1) := by decide +kernel
theorem dX1_shareFate_47 : decode cX1_shareFate 47 = .ok (.getfield 9, 3) := by decide +kernel
theorem dX1_shareFate_50 : decode cX1_shareFate 50 = .ok (.iload_n 2, 1) := by decide +kernel
theorem dX1_shareFate_51 : decode cX1_shareFate 51 = .ok (.iconst (-1), 1) := by decide +kernel
theorem dX1_shareFate_52 : decode cX1_shareFate 52 = .ok (.iastore, 1) := by decide +kernel
theorem dX1_shareFate_53 : decode cX1_shareFate 53 = .ok (.iinc 2 1, 3) := by decide +kernel
theorem dX1_shareFate_56 : decode cX1_shareFate 56 = .ok (.goto (-54), 3) := by decide +kernel
theorem dX1_shareFate_59 : decode cX1_shareFate 59 = .ok (.return_, 1) := by decide +kernel
theorem dX1_copyFrom_0 : decode cX1_copyFrom 0 = .ok (.aload_n 1, 1) := by decide +kernel
theorem dX1_copyFrom_1 : decode cX1_copyFrom 1 = .ok (.getfield 9, 3) := by decide +kernel
theorem dX1_copyFrom_4 : decode cX1_copyFrom 4 = .ok (.iconst 0, 1) := by decide +kernel
theorem dX1_copyFrom_5 : decode cX1_copyFrom 5 = .ok (.aload_n 0, 1) := by decide +kernel
theorem dX1_copyFrom_6 : decode cX1_copyFrom 6 = .ok (.getfield 9, 3) := by decide +kernel
theorem dX1_copyFrom_9 : decode cX1_copyFrom 9 = .ok (.iconst 0, 1) := by decide +kernel
theorem dX1_copyFrom_10 : decode cX1_copyFrom 10 = .ok (.bipush 8, 2) := by decide +kernel
theorem dX1_copyFrom_12 : decode cX1_copyFrom 12 = .ok (.invokestatic 29, 3) := by decide +kernel
theorem dX1_copyFrom_15 : decode cX1_copyFrom 15 = .ok (.aload_n 1, 1) := by decide +kernel
theorem dX1_copyFrom_16 : decode cX1_copyFrom 16 = .ok (.getfield 15, 3) := by decide +kernel
theorem dX1_copyFrom_19 : decode cX1_copyFrom 19 = .ok (.iconst 0, 1) := by decide +kernel
theorem dX1_copyFrom_20 : decode cX1_copyFrom 20 = .ok (.aload_n 0, 1) := by decide +kernel
theorem dX1_copyFrom_21 : decode cX1_copyFrom 21 = .ok (.getfield 15, 3) := by decide +kernel
theorem dX1_copyFrom_24 : decode cX1_copyFrom 24 = .ok (.iconst 0, 1) := by decide +kernel
theorem dX1_copyFrom_25 : decode cX1_copyFrom 25 = .ok (.bipush 8, 2) := by decide +kernel
theorem dX1_copyFrom_27 : decode cX1_copyFrom 27 = .ok (.invokestatic 29, 3) := by decide +kernel
theorem dX1_copyFrom_30 : decode cX1_copyFrom 30 = .ok (.aload_n 0, 1) := by decide +kernel
theorem dX1_copyFrom_31 : decode cX1_copyFrom 31 = .ok (.aload_n 1, 1) := by decide +kernel
theorem dX1_copyFrom_32 : decode cX1_copyFrom 32 = .ok (.getfield 18, 3) := by decide +kernel
theorem dX1_copyFrom_35 : decode cX1_copyFrom 35 = .ok (.putfield 18, 3) := by decide +kernel
theorem dX1_copyFrom_38 : decode cX1_copyFrom 38 = .ok (.return_, 1) := by decide +kernel
theorem dX2_init_0 : decode cX2_init 0 = .ok (.aload_n 0, 1) := by decide +kernel
theorem dX2_init_1 : decode cX2_init 1 = .ok (.invokespecial 3, 3) := by decide +kernel
theorem dX2_init_4 : decode cX2_init 4 = .ok (.aload_n 0, 1) := by decide +kernel
theorem dX2_init_5 : decode cX2_init 5 = .ok (.bipush 48, 2) := by decide +kernel
theorem dX2_init_7 : decode cX2_init 7 = .ok (.newarray .int, 2) := by decide +kernel
theorem dX2_init_9 : decode cX2_init 9 = .ok (.putfield 9, 3) := by decide +kernel
theorem dX2_init_12 : decode cX2_init 12 = .ok (.aload_n 0, 1) := by decide +kernel
theorem dX2_init_13 : decode cX2_init 13 = .ok (.bipush 48, 2) := by decide +kernel
theorem dX2_init_15 : decode cX2_init 15 = .ok (.newarray .int, 2) := by decide +kernel
theorem dX2_init_17 : decode cX2_init 17 = .ok (.putfield 15, 3) := by decide +kernel
theorem dX2_init_20 : decode cX2_init 20 = .ok (.aload_n 0, 1) := by decide +kernel
theorem dX2_init_21 : decode cX2_init 21 = .ok (.bipush 48, 2) := by decide +kernel
theorem dX2_init_23 : decode cX2_init 23 = .ok (.newarray .int, 2) := by decide +kernel
theorem dX2_init_25 : decode cX2_init 25 = .ok (.putfield 18, 3) := by decide +kernel
theorem dX2_init_28 : decode cX2_init 28 = .ok (.aload_n 0, 1) := by decide +kernel
theorem dX2_init_29 : decode cX2_init 29 = .ok (.bipush 48, 2) := by decide +kernel
theorem dX2_init_31 : decode cX2_init 31 = .ok (.newarray .int, 2) := by decide +kernel
theorem dX2_init_33 : decode cX2_init 33 = .ok (.putfield 21, 3) := by decide +kernel
theorem dX2_init_36 : decode cX2_init 36 = .ok (.return_, 1) := by decide +kernel
theorem dX2_find_0 : decode cX2_find 0 = .ok (.iload_n 1, 1) := by decide +kernel
theorem dX2_find_1 : decode cX2_find 1 = .ok (.iload_n 2, 1) := by decide +kernel
theorem dX2_find_2 : decode cX2_find 2 = .ok (.invokestatic 24, 3) := by decide +kernel
theorem dX2_find_5 : decode cX2_find 5 = .ok (.istore_n 3, 1) := by decide +kernel
theorem dX2_find_6 : decode cX2_find 6 = .ok (.iload_n 1, 1) := by decide +kernel
theorem dX2_find_7 : decode cX2_find 7 = .ok (.iload_n 2, 1) := by decide +kernel
theorem dX2_find_8 : decode cX2_find 8 = .ok (.invokestatic 30, 3) := by decide +kernel
theorem dX2_find_11 : decode cX2_find 11 = .ok (.istore 4, 2) := by decide +kernel
theorem dX2_find_13 : decode cX2_find 13 = .ok (.iconst 0, 1) := by decide +kernel
theorem dX2_find_14 : decode cX2_find 14 = .ok (.istore 5, 2) := by decide +kernel
theorem dX2_find_16 : decode cX2_find 16 = .ok (.iload 5, 2) := by decide +kernel
theorem dX2_find_18 : decode cX2_find 18 = .ok (.aload_n 0, 1) := by decide +kernel
theorem dX2_find_19 : decode cX2_find 19 = .ok (.getfield 33, 3) := by decide +kernel
theorem dX2_find_22 : decode cX2_find 22 = .ok (.if_icmp .ge 35, 3) := by decide +kernel
theorem dX2_find_25 : decode cX2_find 25 = .ok (.aload_n 0, 1) := by decide +kernel
theorem dX2_find_26 : decode cX2_find 26 = .ok (.getfield 9, 3) := by decide +kernel
theorem dX2_find_29 : decode cX2_find 29 = .ok (.iload 5, 2) := by decide +kernel
theorem dX2_find_31 : decode cX2_find 31 = .ok (.iaload, 1) := by decide +kernel
theorem dX2_find_32 : decode cX2_find 32 = .ok (.iload_n 3, 1) := by decide +kernel
theorem dX2_find_33 : decode cX2_find 33 = .ok (.if_icmp .ne 18, 3) := by decide +kernel
theorem dX2_find_36 : decode cX2_find 36 = .ok (.aload_n 0, 1) := by decide +kernel
theorem dX2_find_37 : decode cX2_find 37 = .ok (.getfield 15, 3) := by decide +kernel
theorem dX2_find_40 : decode cX2_find 40 = .ok (.iload 5, 2) := by decide +kernel
theorem dX2_find_42 : decode cX2_find 42 = .ok (.iaload, 1) := by decide +kernel
theorem dX2_find_43 : decode cX2_find 43 = .ok (.iload 4, 2) := by decide +kernel
theorem dX2_find_45 : decode cX2_find 45 = .ok (.if_icmp .ne 6, 3) := by decide +kernel
theorem dX2_find_48 : decode cX2_find 48 = .ok (.iload 5, 2) := by decide +kernel
theorem dX2_find_50 : decode cX2_find 50 = .ok (.ireturn, 1) := by decide +kernel
theorem dX2_find_51 : decode cX2_find 51 = .ok (.iinc 5 1, 3) := by decide +kernel
theorem dX2_find_54 : decode cX2_find 54 = .ok (.goto (-38), 3) := by decide +kernel
theorem dX2_find_57 : decode cX2_find 57 = .ok (.iconst (-1), 1) := by decide +kernel
theorem dX2_find_58 : decode cX2_find 58 = .ok (.ireturn, 1) := by decide +kernel
theorem dX2_countAt_0 : decode cX2_countAt 0 = .ok (.iconst 0, 1) := by decide +kernel
theorem dX2_countAt_1 : decode cX2_countAt 1 = .ok (.istore_n 2, 1) := by decide +kernel
theorem dX2_countAt_2 : decode cX2_countAt 2 = .ok (.iconst 0, 1) := by decide +kernel
theorem dX2_countAt_3 : decode cX2_countAt 3 = .ok (.istore_n 3, 1) := by decide +kernel
theorem dX2_countAt_4 : decode cX2_countAt 4 = .ok (.iload_n 3, 1) := by decide +kernel
theorem dX2_countAt_5 : decode cX2_countAt 5 = .ok (.aload_n 0, 1) := by decide +kernel
theorem dX2_countAt_6 : decode cX2_countAt 6 = .ok (.getfield 33, 3) := by decide +kernel
theorem dX2_countAt_9 : decode cX2_countAt 9 = .ok (.if_icmp .ge 32, 3) := by decide +kernel
theorem dX2_countAt_12 : decode cX2_countAt 12 = .ok (.aload_n 0, 1) := by decide +kernel
theorem dX2_countAt_13 : decode cX2_countAt 13 = .ok (.getfield 9, 3) := by decide +kernel
theorem dX2_countAt_16 : decode cX2_countAt 16 = .ok (.iload_n 3, 1) := by decide +kernel
theorem dX2_countAt_17 : decode cX2_countAt 17 = .ok (.iaload, 1) := by decide +kernel
theorem dX2_countAt_18 : decode cX2_countAt 18 = .ok (.iload_n 1, 1) := by decide +kernel
theorem dX2_countAt_19 : decode cX2_countAt 19 = .ok (.if_icmp .eq 13, 3) := by decide +kernel
theorem dX2_countAt_22 : decode cX2_countAt 22 = .ok (.aload_n 0, 1) := by decide +kernel
theorem dX2_countAt_23 : decode cX2_countAt 23 = .ok (.getfield 15, 3) := by decide +kernel
theorem dX2_countAt_26 : decode cX2_countAt 26 = .ok (.iload_n 3, 1) := by decide +kernel
theorem dX2_countAt_27 : decode cX2_countAt 27 = .ok (.iaload, 1) := by decide +kernel
theorem dX2_countAt_28 : decode cX2_countAt 28 = .ok (.iload_n 1, 1) := by decide +kernel
theorem dX2_countAt_29 : decode cX2_countAt 29 = .ok (.if_icmp .ne 6, 3) := by decide +kernel
theorem dX2_countAt_32 : decode cX2_countAt 32 = .ok (.iinc 2 1, 3) := by decide +kernel
theorem dX2_countAt_35 : decode cX2_countAt 35 = .ok (.iinc 3 1, 3) := by decide +kernel
theorem dX2_countAt_38 : decode cX2_countAt 38 = .ok (.goto (-34), 3) := by decide +kernel
theorem dX2_countAt_41 : decode cX2_countAt 41 = .ok (.iload_n 2, 1) := by decide +kernel
theorem dX2_countAt_42 : decode cX2_countAt 42 = .ok (.ireturn, 1) := by decide +kernel
theorem dX2_leadsTo_0 : decode cX2_leadsTo 0 = .ok (.aload_n 0, 1) := by decide +kernel
theorem dX2_leadsTo_1 : decode cX2_leadsTo 1 = .ok (.getfield 9, 3) := by decide +kernel
theorem dX2_leadsTo_4 : decode cX2_leadsTo 4 = .ok (.iload_n 1, 1) := by decide +kernel
theorem dX2_leadsTo_5 : decode cX2_leadsTo 5 = .ok (.iaload, 1) := by decide +kernel
theorem dX2_leadsTo_6 : decode cX2_leadsTo 6 = .ok (.iload_n 2, 1) := by decide +kernel
theorem dX2_leadsTo_7 : decode cX2_leadsTo 7 = .ok (.if_icmp .ne 10, 3) := by decide +kernel
theorem dX2_leadsTo_10 : decode cX2_leadsTo 10 = .ok (.aload_n 0, 1) := by decide +kernel
theorem dX2_leadsTo_11 : decode cX2_leadsTo 11 = .ok (.getfield 15, 3) := by decide +kernel
theorem dX2_leadsTo_14 : decode cX2_leadsTo 14 = .ok (.iload_n 1, 1) := by decide +kernel
theorem dX2_leadsTo_15 : decode cX2_leadsTo 15 = .ok (.iaload, 1) := by decide +kernel
theorem dX2_leadsTo_16 : decode cX2_leadsTo 16 = .ok (.ireturn, 1) := by decide +kernel
theorem dX2_leadsTo_17 : decode cX2_leadsTo 17 = .ok (.aload_n 0, 1) := by decide +kernel
theorem dX2_leadsTo_18 : decode cX2_leadsTo 18 = .ok (.getfield 15, 3) := by decide +kernel
theorem dX2_leadsTo_21 : decode cX2_leadsTo 21 = .ok (.iload_n 1, 1) := by decide +kernel
theorem dX2_leadsTo_22 : decode cX2_leadsTo 22 = .ok (.iaload, 1) := by decide +kernel
theorem dX2_leadsTo_23 : decode cX2_leadsTo 23 = .ok (.iload_n 2, 1) := by decide +kernel
theorem dX2_leadsTo_24 : decode cX2_leadsTo 24 = .ok (.if_icmp .ne 12, 3) := by decide +kernel
theorem dX2_leadsTo_27 : decode cX2_leadsTo 27 = .ok (.aload_n 0, 1) := by decide +kernel
theorem dX2_leadsTo_28 : decode cX2_leadsTo 28 = .ok (.getfield 9, 3) := by decide +kernel
theorem dX2_leadsTo_31 : decode cX2_leadsTo 31 = .ok (.iload_n 1, 1) := by decide +kernel
theorem dX2_leadsTo_32 : decode cX2_leadsTo 32 = .ok (.iaload, 1) := by decide +kernel
theorem dX2_leadsTo_33 : decode cX2_leadsTo 33 = .ok (.goto 4, 3) := by decide +kernel
theorem dX2_leadsTo_36 : decode cX2_leadsTo 36 = .ok (.iconst (-1), 1) := by decide +kernel
theorem dX2_leadsTo_37 : decode cX2_leadsTo 37 = .ok (.ireturn, 1) := by decide +kernel
theorem dX2_left_0 : decode cX2_left 0 = .ok (.aload_n 0, 1) := by decide +kernel
theorem dX2_left_1 : decode cX2_left 1 = .ok (.getfield 18, 3) := by decide +kernel
theorem dX2_left_4 : decode cX2_left 4 = .ok (.iload_n 1, 1) := by decide +kernel
theorem dX2_left_5 : decode cX2_left 5 = .ok (.iaload, 1) := by decide +kernel
theorem dX2_left_6 : decode cX2_left 6 = .ok (.aload_n 0, 1) := by decide +kernel
theorem dX2_left_7 : decode cX2_left 7 = .ok (.getfield 21, 3) := by decide +kernel
theorem dX2_left_10 : decode cX2_left 10 = .ok (.iload_n 1, 1) := by decide +kernel
theorem dX2_left_11 : decode cX2_left 11 = .ok (.iaload, 1) := by decide +kernel
theorem dX2_left_12 : decode cX2_left 12 = .ok (.isub, 1) := by decide +kernel
theorem dX2_left_13 : decode cX2_left 13 = .ok (.ireturn, 1) := by decide +kernel
set_option maxRecDepth 20000 in
theorem ggX2_make_X2_find : GoodIn wsX2_make wsX2_find := goodIn_r _ [6, 7, 8, 9, 10, 11, 12, 13, 1, 14, 15, 34, 35, 36, 37, 38] (by decide +kernel) (by decide +kernel)
set_option maxRecDepth 20000 in
theorem gX2_make_X2_find : GoodIn wsX2_make (wsV RX2 37 RX2 yX2_find wsX2_find) := goodIn_app (goodIn_of _ (by decide +kernel)) ggX2_make_X2_find
set_option maxRecDepth 20000 in
theorem ggX2_make_X2_renew : GoodIn wsX2_make wsX2_renew := goodIn_r _ [19, 20, 21, 34, 35, 36, 37, 38] (by decide +kernel) (by decide +kernel)
set_option maxRecDepth 20000 in
theorem gX2_make_X2_renew : GoodIn wsX2_make (wsV RX2 40 RX2 yX2_renew wsX2_renew) := goodIn_app (goodIn_of _ (by decide +kernel)) ggX2_make_X2_renew
set_option maxRecDepth 20000 in
theorem ggX2_make_X2_insert : GoodIn wsX2_make wsX2_insert := goodIn_r _ [25, 1, 14, 15, 26, 27, 28, 5, 29, 30, 31, 32, 33, 20, 21, 16, 17, 18, 19, 34, 35, 36, 37, 38] (by decide +kernel) (by decide +kernel)
set_option maxRecDepth 20000 in
theorem gX2_make_X2_insert : GoodIn wsX2_make (wsV RX2 44 RX2 yX2_insert wsX2_insert) := goodIn_app (goodIn_of _ (by decide +kernel)) ggX2_make_X2_insert
theorem dX2_make_0 : decode cX2_make 0 = .ok (.aload_n 0, 1) := by decide +kernel
theorem dX2_make_1 : decode cX2_make 1 = .ok (.iload_n 1, 1) := by decide +kernel
theorem dX2_make_2 : decode cX2_make 2 = .ok (.iload_n 2, 1) := by decide +kernel
theorem dX2_make_3 : decode cX2_make 3 = .ok (.invokevirtual 37, 3) := by decide +kernel
theorem dX2_make_6 : decode cX2_make 6 = .ok (.istore 4, 2) := by decide +kernel
theorem dX2_make_8 : decode cX2_make 8 = .ok (.iload 4, 2) := by decide +kernel
theorem dX2_make_10 : decode cX2_make 10 = .ok (.ifCond .lt 13, 3) := by decide +kernel
theorem dX2_make_13 : decode cX2_make 13 = .ok (.aload_n 0, 1) := by decide +kernel
theorem dX2_make_14 : decode cX2_make 14 = .ok (.iload 4, 2) := by decide +kernel
theorem dX2_make_16 : decode cX2_make 16 = .ok (.iload_n 3, 1) := by decide +kernel
theorem dX2_make_17 : decode cX2_make 17 = .ok (.invokevirtual 40, 3) := by decide +kernel
theorem dX2_make_20 : decode cX2_make 20 = .ok (.goto 19, 3) := by decide +kernel
theorem dX2_make_23 : decode cX2_make 23 = .ok (.aload_n 0, 1) := by decide +kernel
theorem dX2_make_24 : decode cX2_make 24 = .ok (.getfield 33, 3) := by decide +kernel
theorem dX2_make_27 : decode cX2_make 27 = .ok (.bipush 48, 2) := by decide +kernel
theorem dX2_make_29 : decode cX2_make 29 = .ok (.if_icmp .ge 10, 3) := by decide +kernel
theorem dX2_make_32 : decode cX2_make 32 = .ok (.aload_n 0, 1) := by decide +kernel
theorem dX2_make_33 : decode cX2_make 33 = .ok (.iload_n 1, 1) := by decide +kernel
theorem dX2_make_34 : decode cX2_make 34 = .ok (.iload_n 2, 1) := by decide +kernel
theorem dX2_make_35 : decode cX2_make 35 = .ok (.iload_n 3, 1) := by decide +kernel
theorem dX2_make_36 : decode cX2_make 36 = .ok (.invokevirtual 44, 3) := by decide +kernel
theorem dX2_make_39 : decode cX2_make 39 = .ok (.return_, 1) := by decide +kernel
theorem dX2_renew_0 : decode cX2_renew 0 = .ok (.aload_n 0, 1) := by decide +kernel
theorem dX2_renew_1 : decode cX2_renew 1 = .ok (.getfield 18, 3) := by decide +kernel
theorem dX2_renew_4 : decode cX2_renew 4 = .ok (.iload_n 1, 1) := by decide +kernel
theorem dX2_renew_5 : decode cX2_renew 5 = .ok (.iload_n 2, 1) := by decide +kernel
theorem dX2_renew_6 : decode cX2_renew 6 = .ok (.iastore, 1) := by decide +kernel
theorem dX2_renew_7 : decode cX2_renew 7 = .ok (.aload_n 0, 1) := by decide +kernel
theorem dX2_renew_8 : decode cX2_renew 8 = .ok (.getfield 21, 3) := by decide +kernel
theorem dX2_renew_11 : decode cX2_renew 11 = .ok (.iload_n 1, 1) := by decide +kernel
theorem dX2_renew_12 : decode cX2_renew 12 = .ok (.iconst 0, 1) := by decide +kernel
theorem dX2_renew_13 : decode cX2_renew 13 = .ok (.iastore, 1) := by decide +kernel
theorem dX2_renew_14 : decode cX2_renew 14 = .ok (.return_, 1) := by decide +kernel
set_option maxRecDepth 20000 in
theorem ggX2_insert_X2_isAfter : GoodIn wsX2_insert wsX2_isAfter := goodIn_r _ [8, 2, 3, 19, 20, 21, 22, 23] (by decide +kernel) (by decide +kernel)
set_option maxRecDepth 20000 in
theorem gX2_insert_X2_isAfter : GoodIn wsX2_insert (wsV RX2 48 RX2 yX2_isAfter wsX2_isAfter) := goodIn_app (goodIn_of _ (by decide +kernel)) ggX2_insert_X2_isAfter
set_option maxRecDepth 20000 in
theorem ggX2_insert_X2_move : GoodIn wsX2_insert wsX2_move := goodIn_r _ [12, 2, 3, 13, 14, 19, 20, 21, 22, 23] (by decide +kernel) (by decide +kernel)
set_option maxRecDepth 20000 in
theorem gX2_insert_X2_move : GoodIn wsX2_insert (wsV RX2 52 RX2 yX2_move wsX2_move) := goodIn_app (goodIn_of _ (by decide +kernel)) ggX2_insert_X2_move
set_option maxRecDepth 20000 in
theorem ggX2_insert_X2_renew : GoodIn wsX2_insert wsX2_renew := goodIn_r _ [18, 13, 14, 19, 20, 21, 22, 23] (by decide +kernel) (by decide +kernel)
set_option maxRecDepth 20000 in
theorem gX2_insert_X2_renew : GoodIn wsX2_insert (wsV RX2 40 RX2 yX2_renew wsX2_renew) := goodIn_app (goodIn_of _ (by decide +kernel)) ggX2_insert_X2_renew
theorem dX2_insert_0 : decode cX2_insert 0 = .ok (.aload_n 0, 1) := by decide +kernel
theorem dX2_insert_1 : decode cX2_insert 1 = .ok (.getfield 33, 3) := by decide +kernel
theorem dX2_insert_4 : decode cX2_insert 4 = .ok (.istore 4, 2) := by decide +kernel
theorem dX2_insert_6 : decode cX2_insert 6 = .ok (.aload_n 0, 1) := by decide +kernel
theorem dX2_insert_7 : decode cX2_insert 7 = .ok (.getfield 33, 3) := by decide +kernel
theorem dX2_insert_10 : decode cX2_insert 10 = .ok (.iconst 1, 1) := by decide +kernel
theorem dX2_insert_11 : decode cX2_insert 11 = .ok (.isub, 1) := by decide +kernel
theorem dX2_insert_12 : decode cX2_insert 12 = .ok (.istore 5, 2) := by decide +kernel
theorem dX2_insert_14 : decode cX2_insert 14 = .ok (.iload 5, 2) := by decide +kernel
theorem dX2_insert_16 : decode cX2_insert 16 = .ok (.ifCond .lt 34, 3) := by decide +kernel
theorem dX2_insert_19 : decode cX2_insert 19 = .ok (.aload_n 0, 1) := by decide +kernel
theorem dX2_insert_20 : decode cX2_insert 20 = .ok (.iload 5, 2) := by decide +kernel
theorem dX2_insert_22 : decode cX2_insert 22 = .ok (.iload_n 1, 1) := by decide +kernel
theorem dX2_insert_23 : decode cX2_insert 23 = .ok (.iload_n 2, 1) := by decide +kernel
theorem dX2_insert_24 : decode cX2_insert 24 = .ok (.invokevirtual 48, 3) := by decide +kernel
theorem dX2_insert_27 : decode cX2_insert 27 = .ok (.ifCond .eq 23, 3) := by decide +kernel
theorem dX2_insert_30 : decode cX2_insert 30 = .ok (.aload_n 0, 1) := by decide +kernel
theorem dX2_insert_31 : decode cX2_insert 31 = .ok (.iload 5, 2) := by decide +kernel
theorem dX2_insert_33 : decode cX2_insert 33 = .ok (.iload 5, 2) := by decide +kernel
theorem dX2_insert_35 : decode cX2_insert 35 = .ok (.iconst 1, 1) := by decide +kernel
theorem dX2_insert_36 : decode cX2_insert 36 = .ok (.iadd, 1) := by decide +kernel
theorem dX2_insert_37 : decode cX2_insert 37 = .ok (.invokevirtual 52, 3) := by decide +kernel
theorem dX2_insert_40 : decode cX2_insert 40 = .ok (.iload 5, 2) := by decide +kernel
theorem dX2_insert_42 : decode cX2_insert 42 = .ok (.istore 4, 2) := by decide +kernel
theorem dX2_insert_44 : decode cX2_insert 44 = .ok (.iinc 5 (-1), 3) := by decide +kernel
theorem dX2_insert_47 : decode cX2_insert 47 = .ok (.goto (-33), 3) := by decide +kernel
theorem dX2_insert_50 : decode cX2_insert 50 = .ok (.aload_n 0, 1) := by decide +kernel
theorem dX2_insert_51 : decode cX2_insert 51 = .ok (.getfield 9, 3) := by decide +kernel
theorem dX2_insert_54 : decode cX2_insert 54 = .ok (.iload 4, 2) := by decide +kernel
theorem dX2_insert_56 : decode cX2_insert 56 = .ok (.iload_n 1, 1) := by decide +kernel
theorem dX2_insert_57 : decode cX2_insert 57 = .ok (.iastore, 1) := by decide +kernel
theorem dX2_insert_58 : decode cX2_insert 58 = .ok (.aload_n 0, 1) := by decide +kernel
theorem dX2_insert_59 : decode cX2_insert 59 = .ok (.getfield 15, 3) := by decide +kernel
theorem dX2_insert_62 : decode cX2_insert 62 = .ok (.iload 4, 2) := by decide +kernel
theorem dX2_insert_64 : decode cX2_insert 64 = .ok (.iload_n 2, 1) := by decide +kernel
theorem dX2_insert_65 : decode cX2_insert 65 = .ok (.iastore, 1) := by decide +kernel
theorem dX2_insert_66 : decode cX2_insert 66 = .ok (.aload_n 0, 1) := by decide +kernel
theorem dX2_insert_67 : decode cX2_insert 67 = .ok (.iload 4, 2) := by decide +kernel
theorem dX2_insert_69 : decode cX2_insert 69 = .ok (.iload_n 3, 1) := by decide +kernel
theorem dX2_insert_70 : decode cX2_insert 70 = .ok (.invokevirtual 40, 3) := by decide +kernel
theorem dX2_insert_73 : decode cX2_insert 73 = .ok (.aload_n 0, 1) := by decide +kernel
theorem dX2_insert_74 : decode cX2_insert 74 = .ok (.dup, 1) := by decide +kernel
theorem dX2_insert_75 : decode cX2_insert 75 = .ok (.getfield 33, 3) := by decide +kernel
theorem dX2_insert_78 : decode cX2_insert 78 = .ok (.iconst 1, 1) := by decide +kernel
theorem dX2_insert_79 : decode cX2_insert 79 = .ok (.iadd, 1) := by decide +kernel
theorem dX2_insert_80 : decode cX2_insert 80 = .ok (.putfield 33, 3) := by decide +kernel
theorem dX2_insert_83 : decode cX2_insert 83 = .ok (.return_, 1) := by decide +kernel
theorem dX2_isAfter_0 : decode cX2_isAfter 0 = .ok (.aload_n 0, 1) := by decide +kernel
theorem dX2_isAfter_1 : decode cX2_isAfter 1 = .ok (.getfield 9, 3) := by decide +kernel
theorem dX2_isAfter_4 : decode cX2_isAfter 4 = .ok (.iload_n 1, 1) := by decide +kernel
theorem dX2_isAfter_5 : decode cX2_isAfter 5 = .ok (.iaload, 1) := by decide +kernel
theorem dX2_isAfter_6 : decode cX2_isAfter 6 = .ok (.iload_n 2, 1) := by decide +kernel
theorem dX2_isAfter_7 : decode cX2_isAfter 7 = .ok (.if_icmp .gt 23, 3) := by decide +kernel
theorem dX2_isAfter_10 : decode cX2_isAfter 10 = .ok (.aload_n 0, 1) := by decide +kernel
theorem dX2_isAfter_11 : decode cX2_isAfter 11 = .ok (.getfield 9, 3) := by decide +kernel
theorem dX2_isAfter_14 : decode cX2_isAfter 14 = .ok (.iload_n 1, 1) := by decide +kernel
theorem dX2_isAfter_15 : decode cX2_isAfter 15 = .ok (.iaload, 1) := by decide +kernel
theorem dX2_isAfter_16 : decode cX2_isAfter 16 = .ok (.iload_n 2, 1) := by decide +kernel
theorem dX2_isAfter_17 : decode cX2_isAfter 17 = .ok (.if_icmp .ne 17, 3) := by decide +kernel
theorem dX2_isAfter_20 : decode cX2_isAfter 20 = .ok (.aload_n 0, 1) := by decide +kernel
theorem dX2_isAfter_21 : decode cX2_isAfter 21 = .ok (.getfield 15, 3) := by decide +kernel
theorem dX2_isAfter_24 : decode cX2_isAfter 24 = .ok (.iload_n 1, 1) := by decide +kernel
theorem dX2_isAfter_25 : decode cX2_isAfter 25 = .ok (.iaload, 1) := by decide +kernel
theorem dX2_isAfter_26 : decode cX2_isAfter 26 = .ok (.iload_n 3, 1) := by decide +kernel
theorem dX2_isAfter_27 : decode cX2_isAfter 27 = .ok (.if_icmp .le 7, 3) := by decide +kernel
theorem dX2_isAfter_30 : decode cX2_isAfter 30 = .ok (.iconst 1, 1) := by decide +kernel
theorem dX2_isAfter_31 : decode cX2_isAfter 31 = .ok (.goto 4, 3) := by decide +kernel
theorem dX2_isAfter_34 : decode cX2_isAfter 34 = .ok (.iconst 0, 1) := by decide +kernel
theorem dX2_isAfter_35 : decode cX2_isAfter 35 = .ok (.ireturn, 1) := by decide +kernel
theorem dX2_move_0 : decode cX2_move 0 = .ok (.aload_n 0, 1) := by decide +kernel
theorem dX2_move_1 : decode cX2_move 1 = .ok (.getfield 9, 3) := by decide +kernel
theorem dX2_move_4 : decode cX2_move 4 = .ok (.iload_n 2, 1) := by decide +kernel
theorem dX2_move_5 : decode cX2_move 5 = .ok (.aload_n 0, 1) := by decide +kernel
theorem dX2_move_6 : decode cX2_move 6 = .ok (.getfield 9, 3) := by decide +kernel
theorem dX2_move_9 : decode cX2_move 9 = .ok (.iload_n 1, 1) := by decide +kernel
theorem dX2_move_10 : decode cX2_move 10 = .ok (.iaload, 1) := by decide +kernel
theorem dX2_move_11 : decode cX2_move 11 = .ok (.iastore, 1) := by decide +kernel
theorem dX2_move_12 : decode cX2_move 12 = .ok (.aload_n 0, 1) := by decide +kernel
theorem dX2_move_13 : decode cX2_move 13 = .ok (.getfield 15, 3) := by decide +kernel
theorem dX2_move_16 : decode cX2_move 16 = .ok (.iload_n 2, 1) := by decide +kernel
theorem dX2_move_17 : decode cX2_move 17 = .ok (.aload_n 0, 1) := by decide +kernel
theorem dX2_move_18 : decode cX2_move 18 = .ok (.getfield 15, 3) := by decide +kernel
theorem dX2_move_21 : decode cX2_move 21 = .ok (.iload_n 1, 1) := by decide +kernel
theorem dX2_move_22 : decode cX2_move 22 = .ok (.iaload, 1) := by decide +kernel
theorem dX2_move_23 : decode cX2_move 23 = .ok (.iastore, 1) := by decide +kernel
theorem dX2_move_24 : decode cX2_move 24 = .ok (.aload_n 0, 1) := by decide +kernel
theorem dX2_move_25 : decode cX2_move 25 = .ok (.getfield 18, 3) := by decide +kernel
theorem dX2_move_28 : decode cX2_move 28 = .ok (.iload_n 2, 1) := by decide +kernel
theorem dX2_move_29 : decode cX2_move 29 = .ok (.aload_n 0, 1) := by decide +kernel
theorem dX2_move_30 : decode cX2_move 30 = .ok (.getfield 18, 3) := by decide +kernel
theorem dX2_move_33 : decode cX2_move 33 = .ok (.iload_n 1, 1) := by decide +kernel
theorem dX2_move_34 : decode cX2_move 34 = .ok (.iaload, 1) := by decide +kernel
theorem dX2_move_35 : decode cX2_move 35 = .ok (.iastore, 1) := by decide +kernel
theorem dX2_move_36 : decode cX2_move 36 = .ok (.aload_n 0, 1) := by decide +kernel
theorem dX2_move_37 : decode cX2_move 37 = .ok (.getfield 21, 3) := by decide +kernel
theorem dX2_move_40 : decode cX2_move 40 = .ok (.iload_n 2, 1) := by decide +kernel
theorem dX2_move_41 : decode cX2_move 41 = .ok (.aload_n 0, 1) := by decide +kernel
theorem dX2_move_42 : decode cX2_move 42 = .ok (.getfield 21, 3) := by decide +kernel
theorem dX2_move_45 : decode cX2_move 45 = .ok (.iload_n 1, 1) := by decide +kernel
theorem dX2_move_46 : decode cX2_move 46 = .ok (.iaload, 1) := by decide +kernel
theorem dX2_move_47 : decode cX2_move 47 = .ok (.iastore, 1) := by decide +kernel
theorem dX2_move_48 : decode cX2_move 48 = .ok (.return_, 1) := by decide +kernel
theorem dX2_undo_0 : decode cX2_undo 0 = .ok (.aload_n 0, 1) := by decide +kernel
theorem dX2_undo_1 : decode cX2_undo 1 = .ok (.getfield 18, 3) := by decide +kernel
theorem dX2_undo_4 : decode cX2_undo 4 = .ok (.iload_n 1, 1) := by decide +kernel
theorem dX2_undo_5 : decode cX2_undo 5 = .ok (.iconst 0, 1) := by decide +kernel
theorem dX2_undo_6 : decode cX2_undo 6 = .ok (.iastore, 1) := by decide +kernel
theorem dX2_undo_7 : decode cX2_undo 7 = .ok (.return_, 1) := by decide +kernel
set_option maxRecDepth 20000 in
theorem ggX2_sweep_X2_move : GoodIn wsX2_sweep wsX2_move := goodIn_r _ [7, 8, 9, 2, 10, 11, 12, 13, 14, 15] (by decide +kernel) (by decide +kernel)
set_option maxRecDepth 20000 in
theorem gX2_sweep_X2_move : GoodIn wsX2_sweep (wsV RX2 52 RX2 yX2_move wsX2_move) := goodIn_app (goodIn_of _ (by decide +kernel)) ggX2_sweep_X2_move
theorem dX2_sweep_0 : decode cX2_sweep 0 = .ok (.iconst 0, 1) := by decide +kernel
theorem dX2_sweep_1 : decode cX2_sweep 1 = .ok (.istore_n 1, 1) := by decide +kernel
theorem dX2_sweep_2 : decode cX2_sweep 2 = .ok (.iconst 0, 1) := by decide +kernel
theorem dX2_sweep_3 : decode cX2_sweep 3 = .ok (.istore_n 2, 1) := by decide +kernel
theorem dX2_sweep_4 : decode cX2_sweep 4 = .ok (.iload_n 2, 1) := by decide +kernel
theorem dX2_sweep_5 : decode cX2_sweep 5 = .ok (.aload_n 0, 1) := by decide +kernel
theorem dX2_sweep_6 : decode cX2_sweep 6 = .ok (.getfield 33, 3) := by decide +kernel
theorem dX2_sweep_9 : decode cX2_sweep 9 = .ok (.if_icmp .ge 27, 3) := by decide +kernel
theorem dX2_sweep_12 : decode cX2_sweep 12 = .ok (.aload_n 0, 1) := by decide +kernel
theorem dX2_sweep_13 : decode cX2_sweep 13 = .ok (.getfield 18, 3) := by decide +kernel
theorem dX2_sweep_16 : decode cX2_sweep 16 = .ok (.iload_n 2, 1) := by decide +kernel
theorem dX2_sweep_17 : decode cX2_sweep 17 = .ok (.iaload, 1) := by decide +kernel
theorem dX2_sweep_18 : decode cX2_sweep 18 = .ok (.ifCond .le 12, 3) := by decide +kernel
theorem dX2_sweep_21 : decode cX2_sweep 21 = .ok (.aload_n 0, 1) := by decide +kernel
theorem dX2_sweep_22 : decode cX2_sweep 22 = .ok (.iload_n 2, 1) := by decide +kernel
theorem dX2_sweep_23 : decode cX2_sweep 23 = .ok (.iload_n 1, 1) := by decide +kernel
theorem dX2_sweep_24 : decode cX2_sweep 24 = .ok (.invokevirtual 52, 3) := by decide +kernel
theorem dX2_sweep_27 : decode cX2_sweep 27 = .ok (.iinc 1 1, 3) := by decide +kernel
theorem dX2_sweep_30 : decode cX2_sweep 30 = .ok (.iinc 2 1, 3) := by decide +kernel
theorem dX2_sweep_33 : decode cX2_sweep 33 = .ok (.goto (-29), 3) := by decide +kernel
theorem dX2_sweep_36 : decode cX2_sweep 36 = .ok (.aload_n 0, 1) := by decide +kernel
theorem dX2_sweep_37 : decode cX2_sweep 37 = .ok (.iload_n 1, 1) := by decide +kernel
theorem dX2_sweep_38 : decode cX2_sweep 38 = .ok (.putfield 33, 3) := by decide +kernel
theorem dX2_sweep_41 : decode cX2_sweep 41 = .ok (.return_, 1) := by decide +kernel
theorem dX2_copyFrom_0 : decode cX2_copyFrom 0 = .ok (.aload_n 1, 1) := by decide +kernel
theorem dX2_copyFrom_1 : decode cX2_copyFrom 1 = .ok (.getfield 9, 3) := by decide +kernel
theorem dX2_copyFrom_4 : decode cX2_copyFrom 4 = .ok (.iconst 0, 1) := by decide +kernel
theorem dX2_copyFrom_5 : decode cX2_copyFrom 5 = .ok (.aload_n 0, 1) := by decide +kernel
theorem dX2_copyFrom_6 : decode cX2_copyFrom 6 = .ok (.getfield 9, 3) := by decide +kernel
theorem dX2_copyFrom_9 : decode cX2_copyFrom 9 = .ok (.iconst 0, 1) := by decide +kernel
theorem dX2_copyFrom_10 : decode cX2_copyFrom 10 = .ok (.bipush 48, 2) := by decide +kernel
theorem dX2_copyFrom_12 : decode cX2_copyFrom 12 = .ok (.invokestatic 55, 3) := by decide +kernel
theorem dX2_copyFrom_15 : decode cX2_copyFrom 15 = .ok (.aload_n 1, 1) := by decide +kernel
theorem dX2_copyFrom_16 : decode cX2_copyFrom 16 = .ok (.getfield 15, 3) := by decide +kernel
theorem dX2_copyFrom_19 : decode cX2_copyFrom 19 = .ok (.iconst 0, 1) := by decide +kernel
theorem dX2_copyFrom_20 : decode cX2_copyFrom 20 = .ok (.aload_n 0, 1) := by decide +kernel
theorem dX2_copyFrom_21 : decode cX2_copyFrom 21 = .ok (.getfield 15, 3) := by decide +kernel
theorem dX2_copyFrom_24 : decode cX2_copyFrom 24 = .ok (.iconst 0, 1) := by decide +kernel
theorem dX2_copyFrom_25 : decode cX2_copyFrom 25 = .ok (.bipush 48, 2) := by decide +kernel
theorem dX2_copyFrom_27 : decode cX2_copyFrom 27 = .ok (.invokestatic 55, 3) := by decide +kernel
theorem dX2_copyFrom_30 : decode cX2_copyFrom 30 = .ok (.aload_n 1, 1) := by decide +kernel
theorem dX2_copyFrom_31 : decode cX2_copyFrom 31 = .ok (.getfield 18, 3) := by decide +kernel
theorem dX2_copyFrom_34 : decode cX2_copyFrom 34 = .ok (.iconst 0, 1) := by decide +kernel
theorem dX2_copyFrom_35 : decode cX2_copyFrom 35 = .ok (.aload_n 0, 1) := by decide +kernel
theorem dX2_copyFrom_36 : decode cX2_copyFrom 36 = .ok (.getfield 18, 3) := by decide +kernel
theorem dX2_copyFrom_39 : decode cX2_copyFrom 39 = .ok (.iconst 0, 1) := by decide +kernel
theorem dX2_copyFrom_40 : decode cX2_copyFrom 40 = .ok (.bipush 48, 2) := by decide +kernel
theorem dX2_copyFrom_42 : decode cX2_copyFrom 42 = .ok (.invokestatic 55, 3) := by decide +kernel
theorem dX2_copyFrom_45 : decode cX2_copyFrom 45 = .ok (.aload_n 1, 1) := by decide +kernel
theorem dX2_copyFrom_46 : decode cX2_copyFrom 46 = .ok (.getfield 21, 3) := by decide +kernel
theorem dX2_copyFrom_49 : decode cX2_copyFrom 49 = .ok (.iconst 0, 1) := by decide +kernel
theorem dX2_copyFrom_50 : decode cX2_copyFrom 50 = .ok (.aload_n 0, 1) := by decide +kernel
theorem dX2_copyFrom_51 : decode cX2_copyFrom 51 = .ok (.getfield 21, 3) := by decide +kernel
theorem dX2_copyFrom_54 : decode cX2_copyFrom 54 = .ok (.iconst 0, 1) := by decide +kernel
theorem dX2_copyFrom_55 : decode cX2_copyFrom 55 = .ok (.bipush 48, 2) := by decide +kernel
theorem dX2_copyFrom_57 : decode cX2_copyFrom 57 = .ok (.invokestatic 55, 3) := by decide +kernel
theorem dX2_copyFrom_60 : decode cX2_copyFrom 60 = .ok (.aload_n 0, 1) := by decide +kernel
theorem dX2_copyFrom_61 : decode cX2_copyFrom 61 = .ok (.aload_n 1, 1) := by decide +kernel
theorem dX2_copyFrom_62 : decode cX2_copyFrom 62 = .ok (.getfield 33, 3) := by decide +kernel
theorem dX2_copyFrom_65 : decode cX2_copyFrom 65 = .ok (.putfield 33, 3) := by decide +kernel
theorem dX2_copyFrom_68 : decode cX2_copyFrom 68 = .ok (.return_, 1) := by decide +kernel
set_option maxRecDepth 20000 in
theorem ggX3_init_X0_init : GoodIn wsX3_init wsX0_init := goodIn_r _ [20, 21, 2, 3, 16, 22, 23, 24, 25, 26, 27, 28, 29, 30, 31, 32, 45, 46, 47, 48, 49, 50, 51, 52, 53, 54, 55, 56] (by decide +kernel) (by decide +kernel)
set_option maxRecDepth 20000 in
theorem gX3_init_X0_init_n11 : GoodIn wsX3_init (wsX0_init) := ggX3_init_X0_init
set_option maxRecDepth 20000 in
theorem ggX3_init_X1_init : GoodIn wsX3_init wsX1_init := goodIn_r _ [34, 35, 2, 3, 16, 36, 37, 64, 65, 66] (by decide +kernel) (by decide +kernel)
set_option maxRecDepth 20000 in
theorem gX3_init_X1_init_n20 : GoodIn wsX3_init (wsX1_init) := ggX3_init_X1_init
set_option maxRecDepth 20000 in
theorem ggX3_init_X2_init : GoodIn wsX3_init wsX2_init := goodIn_r _ [39, 40, 2, 3, 16, 41, 42, 43, 44, 67, 68, 69, 70, 71] (by decide +kernel) (by decide +kernel)
set_option maxRecDepth 20000 in
theorem gX3_init_X2_init_n27 : GoodIn wsX3_init (wsX2_init) := ggX3_init_X2_init
theorem dX3_init_0 : decode cX3_init 0 = .ok (.aload_n 0, 1) := by decide +kernel
theorem dX3_init_1 : decode cX3_init 1 = .ok (.invokespecial 3, 3) := by decide +kernel
theorem dX3_init_4 : decode cX3_init 4 = .ok (.aload_n 0, 1) := by decide +kernel
theorem dX3_init_5 : decode cX3_init 5 = .ok (.new 9, 3) := by decide +kernel
theorem dX3_init_8 : decode cX3_init 8 = .ok (.dup, 1) := by decide +kernel
theorem dX3_init_9 : decode cX3_init 9 = .ok (.invokespecial 11, 3) := by decide +kernel
theorem dX3_init_12 : decode cX3_init 12 = .ok (.putfield 12, 3) := by decide +kernel
theorem dX3_init_15 : decode cX3_init 15 = .ok (.aload_n 0, 1) := by decide +kernel
theorem dX3_init_16 : decode cX3_init 16 = .ok (.new 18, 3) := by decide +kernel
theorem dX3_init_19 : decode cX3_init 19 = .ok (.dup, 1) := by decide +kernel
theorem dX3_init_20 : decode cX3_init 20 = .ok (.invokespecial 20, 3) := by decide +kernel
theorem dX3_init_23 : decode cX3_init 23 = .ok (.putfield 21, 3) := by decide +kernel
theorem dX3_init_26 : decode cX3_init 26 = .ok (.aload_n 0, 1) := by decide +kernel
theorem dX3_init_27 : decode cX3_init 27 = .ok (.new 25, 3) := by decide +kernel
theorem dX3_init_30 : decode cX3_init 30 = .ok (.dup, 1) := by decide +kernel
theorem dX3_init_31 : decode cX3_init 31 = .ok (.invokespecial 27, 3) := by decide +kernel
theorem dX3_init_34 : decode cX3_init 34 = .ok (.putfield 28, 3) := by decide +kernel
theorem dX3_init_37 : decode cX3_init 37 = .ok (.aload_n 0, 1) := by decide +kernel
theorem dX3_init_38 : decode cX3_init 38 = .ok (.bipush 24, 2) := by decide +kernel
theorem dX3_init_40 : decode cX3_init 40 = .ok (.newarray .int, 2) := by decide +kernel
theorem dX3_init_42 : decode cX3_init 42 = .ok (.putfield 32, 3) := by decide +kernel
theorem dX3_init_45 : decode cX3_init 45 = .ok (.aload_n 0, 1) := by decide +kernel
theorem dX3_init_46 : decode cX3_init 46 = .ok (.bipush 24, 2) := by decide +kernel
theorem dX3_init_48 : decode cX3_init 48 = .ok (.newarray .int, 2) := by decide +kernel
theorem dX3_init_50 : decode cX3_init 50 = .ok (.putfield 36, 3) := by decide +kernel
theorem dX3_init_53 : decode cX3_init 53 = .ok (.return_, 1) := by decide +kernel
set_option maxRecDepth 20000 in
theorem ggX3_copyFrom_X0_copyFrom : GoodIn wsX3_copyFrom wsX0_copyFrom := goodIn_r _ [10, 11, 12, 13, 14, 15, 16, 17, 18, 19, 20, 21, 22, 23, 24, 25, 26, 54, 55, 56, 57, 58, 59, 60, 61, 62, 63, 64, 65] (by decide +kernel) (by decide +kernel)
set_option maxRecDepth 20000 in
theorem gX3_copyFrom_X0_copyFrom : GoodIn wsX3_copyFrom (wsV RX3 39 RX0 yX0_copyFrom wsX0_copyFrom) := goodIn_app (goodIn_of _ (by decide +kernel)) ggX3_copyFrom_X0_copyFrom
set_option maxRecDepth 20000 in
theorem ggX3_copyFrom_X1_copyFrom : GoodIn wsX3_copyFrom wsX1_copyFrom := goodIn_r _ [31, 32, 33, 13, 14, 15, 34, 35, 66, 67, 68] (by decide +kernel) (by decide +kernel)
set_option maxRecDepth 20000 in
theorem gX3_copyFrom_X1_copyFrom : GoodIn wsX3_copyFrom (wsV RX3 43 RX1 yX1_copyFrom wsX1_copyFrom) := goodIn_app (goodIn_of _ (by decide +kernel)) ggX3_copyFrom_X1_copyFrom
set_option maxRecDepth 20000 in
theorem ggX3_copyFrom_X2_copyFrom : GoodIn wsX3_copyFrom wsX2_copyFrom := goodIn_r _ [40, 41, 42, 13, 14, 15, 43, 44, 45, 46, 69, 70, 71, 72, 73] (by decide +kernel) (by decide +kernel)
set_option maxRecDepth 20000 in
theorem gX3_copyFrom_X2_copyFrom : GoodIn wsX3_copyFrom (wsV RX3 46 RX2 yX2_copyFrom wsX2_copyFrom) := goodIn_app (goodIn_of _ (by decide +kernel)) ggX3_copyFrom_X2_copyFrom
theorem dX3_copyFrom_0 : decode cX3_copyFrom 0 = .ok (.aload_n 0, 1) := by decide +kernel
theorem dX3_copyFrom_1 : decode cX3_copyFrom 1 = .ok (.getfield 12, 3) := by decide +kernel
theorem dX3_copyFrom_4 : decode cX3_copyFrom 4 = .ok (.aload_n 1, 1) := by decide +kernel
theorem dX3_copyFrom_5 : decode cX3_copyFrom 5 = .ok (.getfield 12, 3) := by decide +kernel
theorem dX3_copyFrom_8 : decode cX3_copyFrom 8 = .ok (.invokevirtual 39, 3) := by decide +kernel
theorem dX3_copyFrom_11 : decode cX3_copyFrom 11 = .ok (.aload_n 0, 1) := by decide +kernel
theorem dX3_copyFrom_12 : decode cX3_copyFrom 12 = .ok (.getfield 21, 3) := by decide +kernel
theorem dX3_copyFrom_15 : decode cX3_copyFrom 15 = .ok (.aload_n 1, 1) := by decide +kernel
theorem dX3_copyFrom_16 : decode cX3_copyFrom 16 = .ok (.getfield 21, 3) := by decide +kernel
theorem dX3_copyFrom_19 : decode cX3_copyFrom 19 = .ok (.invokevirtual 43, 3) := by decide +kernel
theorem dX3_copyFrom_22 : decode cX3_copyFrom 22 = .ok (.aload_n 0, 1) := by decide +kernel
theorem dX3_copyFrom_23 : decode cX3_copyFrom 23 = .ok (.getfield 28, 3) := by decide +kernel
theorem dX3_copyFrom_26 : decode cX3_copyFrom 26 = .ok (.aload_n 1, 1) := by decide +kernel
theorem dX3_copyFrom_27 : decode cX3_copyFrom 27 = .ok (.getfield 28, 3) := by decide +kernel
theorem dX3_copyFrom_30 : decode cX3_copyFrom 30 = .ok (.invokevirtual 46, 3) := by decide +kernel
theorem dX3_copyFrom_33 : decode cX3_copyFrom 33 = .ok (.aload_n 0, 1) := by decide +kernel
theorem dX3_copyFrom_34 : decode cX3_copyFrom 34 = .ok (.aload_n 1, 1) := by decide +kernel
theorem dX3_copyFrom_35 : decode cX3_copyFrom 35 = .ok (.getfield 49, 3) := by decide +kernel
theorem dX3_copyFrom_38 : decode cX3_copyFrom 38 = .ok (.putfield 49, 3) := by decide +kernel
theorem dX3_copyFrom_41 : decode cX3_copyFrom 41 = .ok (.aload_n 0, 1) := by decide +kernel
theorem dX3_copyFrom_42 : decode cX3_copyFrom 42 = .ok (.aload_n 1, 1) := by decide +kernel
theorem dX3_copyFrom_43 : decode cX3_copyFrom 43 = .ok (.getfield 53, 3) := by decide +kernel
theorem dX3_copyFrom_46 : decode cX3_copyFrom 46 = .ok (.putfield 53, 3) := by decide +kernel
theorem dX3_copyFrom_49 : decode cX3_copyFrom 49 = .ok (.return_, 1) := by decide +kernel
set_option maxRecDepth 20000 in
theorem ggX3_findPieces_X0_standAlone : GoodIn wsX3_findPieces wsX0_standAlone := goodIn_r _ [10, 11, 12, 13, 37, 38, 39, 40, 41, 42, 43, 44, 45, 46, 47, 48] (by decide +kernel) (by decide +kernel)
set_option maxRecDepth 20000 in
theorem gX3_findPieces_X0_standAlone : GoodIn wsX3_findPieces (wsV RX3 56 RX0 yX0_standAlone wsX0_standAlone) := goodIn_app (goodIn_of _ (by decide +kernel)) ggX3_findPieces_X0_standAlone
set_option maxRecDepth 20000 in
theorem ggX3_findPieces_X0_join : GoodIn wsX3_findPieces wsX0_join := goodIn_r _ [17, 12, 18, 19, 20, 21, 22, 23, 24, 11, 37, 38, 39, 40, 41, 42, 43, 44, 45, 46, 47, 48] (by decide +kernel) (by decide +kernel)
set_option maxRecDepth 20000 in
theorem gX3_findPieces_X0_join : GoodIn wsX3_findPieces (wsV RX3 68 RX0 yX0_join wsX0_join) := goodIn_app (goodIn_of _ (by decide +kernel)) ggX3_findPieces_X0_join
theorem dX3_findPieces_0 : decode cX3_findPieces 0 = .ok (.aload_n 0, 1) := by decide +kernel
theorem dX3_findPieces_1 : decode cX3_findPieces 1 = .ok (.getfield 12, 3) := by decide +kernel
theorem dX3_findPieces_4 : decode cX3_findPieces 4 = .ok (.invokevirtual 56, 3) := by decide +kernel
theorem dX3_findPieces_7 : decode cX3_findPieces 7 = .ok (.iconst 0, 1) := by decide +kernel
theorem dX3_findPieces_8 : decode cX3_findPieces 8 = .ok (.istore_n 1, 1) := by decide +kernel
theorem dX3_findPieces_9 : decode cX3_findPieces 9 = .ok (.iload_n 1, 1) := by decide +kernel
theorem dX3_findPieces_10 : decode cX3_findPieces 10 = .ok (.aload_n 0, 1) := by decide +kernel
theorem dX3_findPieces_11 : decode cX3_findPieces 11 = .ok (.getfield 28, 3) := by decide +kernel
theorem dX3_findPieces_14 : decode cX3_findPieces 14 = .ok (.getfield 59, 3) := by decide +kernel
theorem dX3_findPieces_17 : decode cX3_findPieces 17 = .ok (.if_icmp .ge 34, 3) := by decide +kernel
theorem dX3_findPieces_20 : decode cX3_findPieces 20 = .ok (.aload_n 0, 1) := by decide +kernel
theorem dX3_findPieces_21 : decode cX3_findPieces 21 = .ok (.getfield 12, 3) := by decide +kernel
theorem dX3_findPieces_24 : decode cX3_findPieces 24 = .ok (.aload_n 0, 1) := by decide +kernel
theorem dX3_findPieces_25 : decode cX3_findPieces 25 = .ok (.getfield 28, 3) := by decide +kernel
theorem dX3_findPieces_28 : decode cX3_findPieces 28 = .ok (.getfield 62, 3) := by decide +kernel
theorem dX3_findPieces_31 : decode cX3_findPieces 31 = .ok (.iload_n 1, 1) := by decide +kernel
theorem dX3_findPieces_32 : decode cX3_findPieces 32 = .ok (.iaload, 1) := by decide +kernel
theorem dX3_findPieces_33 : decode cX3_findPieces 33 = .ok (.aload_n 0, 1) := by decide +kernel
theorem dX3_findPieces_34 : decode cX3_findPieces 34 = .ok (.getfield 28, 3) := by decide +kernel
theorem dX3_findPieces_37 : decode cX3_findPieces 37 = .ok (.getfield 65, 3) := by decide +kernel
theorem dX3_findPieces_40 : decode cX3_findPieces 40 = .ok (.iload_n 1, 1) := by decide +kernel
theorem dX3_findPieces_41 : decode cX3_findPieces 41 = .ok (.iaload, 1) := by decide +kernel
theorem dX3_findPieces_42 : decode cX3_findPieces 42 = .ok (.invokevirtual 68, 3) := by decide +kernel
theorem dX3_findPieces_45 : decode cX3_findPieces 45 = .ok (.iinc 1 1, 3) := by decide +kernel
theorem dX3_findPieces_48 : decode cX3_findPieces 48 = .ok (.goto (-39), 3) := by decide +kernel
theorem dX3_findPieces_51 : decode cX3_findPieces 51 = .ok (.return_, 1) := by decide +kernel
set_option maxRecDepth 20000 in
theorem ggX3_stress_X4_at : GoodIn wsX3_stress wsX4_at := goodIn_r _ [15, 16, 17, 18, 19, 61, 62, 63, 64, 65, 66, 67] (by decide +kernel) (by decide +kernel)
set_option maxRecDepth 20000 in
theorem gX3_stress_X4_at : GoodIn wsX3_stress (wsV RX3 78 RX4 yX4_at wsX4_at) := goodIn_app (goodIn_of _ (by decide +kernel)) ggX3_stress_X4_at
set_option maxRecDepth 20000 in
theorem ggX3_stress_X4_waveOf : GoodIn wsX3_stress wsX4_waveOf := goodIn_r _ [23, 24, 25, 26, 27, 14, 28, 29, 61, 62, 63, 64, 65, 66, 67] (by decide +kernel) (by decide +kernel)
set_option maxRecDepth 20000 in
theorem gX3_stress_X4_waveOf : GoodIn wsX3_stress (wsV RX3 84 RX4 yX4_waveOf wsX4_waveOf) := goodIn_app (goodIn_of _ (by decide +kernel)) ggX3_stress_X4_waveOf
set_option maxRecDepth 20000 in
theorem ggX3_stress_X0_loadOf : GoodIn wsX3_stress wsX0_loadOf := goodIn_r _ [34, 35, 36, 49, 50, 51, 52, 53, 54, 55, 56, 57, 58, 59, 60] (by decide +kernel) (by decide +kernel)
set_option maxRecDepth 20000 in
theorem gX3_stress_X0_loadOf : GoodIn wsX3_stress (wsV RX3 88 RX0 yX0_loadOf wsX0_loadOf) := goodIn_app (goodIn_of _ (by decide +kernel)) ggX3_stress_X0_loadOf
theorem dX3_stress_0 : decode cX3_stress 0 = .ok (.aload_n 0, 1) := by decide +kernel
theorem dX3_stress_1 : decode cX3_stress 1 = .ok (.getfield 28, 3) := by decide +kernel
theorem dX3_stress_4 : decode cX3_stress 4 = .ok (.getfield 62, 3) := by decide +kernel
theorem dX3_stress_7 : decode cX3_stress 7 = .ok (.iload_n 1, 1) := by decide +kernel
theorem dX3_stress_8 : decode cX3_stress 8 = .ok (.iaload, 1) := by decide +kernel
theorem dX3_stress_9 : decode cX3_stress 9 = .ok (.istore_n 3, 1) := by decide +kernel
theorem dX3_stress_10 : decode cX3_stress 10 = .ok (.aload_n 0, 1) := by decide +kernel
theorem dX3_stress_11 : decode cX3_stress 11 = .ok (.getfield 28, 3) := by decide +kernel
theorem dX3_stress_14 : decode cX3_stress 14 = .ok (.getfield 65, 3) := by decide +kernel
theorem dX3_stress_17 : decode cX3_stress 17 = .ok (.iload_n 1, 1) := by decide +kernel
theorem dX3_stress_18 : decode cX3_stress 18 = .ok (.iaload, 1) := by decide +kernel
theorem dX3_stress_19 : decode cX3_stress 19 = .ok (.istore 4, 2) := by decide +kernel
theorem dX3_stress_21 : decode cX3_stress 21 = .ok (.aload_n 2, 1) := by decide +kernel
theorem dX3_stress_22 : decode cX3_stress 22 = .ok (.aload_n 2, 1) := by decide +kernel
theorem dX3_stress_23 : decode cX3_stress 23 = .ok (.aload_n 0, 1) := by decide +kernel
theorem dX3_stress_24 : decode cX3_stress 24 = .ok (.getfield 12, 3) := by decide +kernel
theorem dX3_stress_27 : decode cX3_stress 27 = .ok (.getfield 72, 3) := by decide +kernel
theorem dX3_stress_30 : decode cX3_stress 30 = .ok (.iload_n 3, 1) := by decide +kernel
theorem dX3_stress_31 : decode cX3_stress 31 = .ok (.iaload, 1) := by decide +kernel
theorem dX3_stress_32 : decode cX3_stress 32 = .ok (.aload_n 0, 1) := by decide +kernel
theorem dX3_stress_33 : decode cX3_stress 33 = .ok (.getfield 12, 3) := by decide +kernel
theorem dX3_stress_36 : decode cX3_stress 36 = .ok (.getfield 75, 3) := by decide +kernel
theorem dX3_stress_39 : decode cX3_stress 39 = .ok (.iload_n 3, 1) := by decide +kernel
theorem dX3_stress_40 : decode cX3_stress 40 = .ok (.iaload, 1) := by decide +kernel
theorem dX3_stress_41 : decode cX3_stress 41 = .ok (.invokevirtual 78, 3) := by decide +kernel
theorem dX3_stress_44 : decode cX3_stress 44 = .ok (.invokevirtual 84, 3) := by decide +kernel
theorem dX3_stress_47 : decode cX3_stress 47 = .ok (.istore 5, 2) := by decide +kernel
theorem dX3_stress_49 : decode cX3_stress 49 = .ok (.iload 5, 2) := by decide +kernel
theorem dX3_stress_51 : decode cX3_stress 51 = .ok (.aload_n 0, 1) := by decide +kernel
theorem dX3_stress_52 : decode cX3_stress 52 = .ok (.getfield 12, 3) := by decide +kernel
theorem dX3_stress_55 : decode cX3_stress 55 = .ok (.iload_n 3, 1) := by decide +kernel
theorem dX3_stress_56 : decode cX3_stress 56 = .ok (.invokevirtual 88, 3) := by decide +kernel
theorem dX3_stress_59 : decode cX3_stress 59 = .ok (.aload_n 0, 1) := by decide +kernel
theorem dX3_stress_60 : decode cX3_stress 60 = .ok (.getfield 12, 3) := by decide +kernel
theorem dX3_stress_63 : decode cX3_stress 63 = .ok (.iload 4, 2) := by decide +kernel
theorem dX3_stress_65 : decode cX3_stress 65 = .ok (.invokevirtual 88, 3) := by decide +kernel
theorem dX3_stress_68 : decode cX3_stress 68 = .ok (.isub, 1) := by decide +kernel
theorem dX3_stress_69 : decode cX3_stress 69 = .ok (.invokestatic 91, 3) := by decide +kernel
theorem dX3_stress_72 : decode cX3_stress 72 = .ok (.iconst 2, 1) := by decide +kernel
theorem dX3_stress_73 : decode cX3_stress 73 = .ok (.idiv, 1) := by decide +kernel
theorem dX3_stress_74 : decode cX3_stress 74 = .ok (.iadd, 1) := by decide +kernel
theorem dX3_stress_75 : decode cX3_stress 75 = .ok (.ireturn, 1) := by decide +kernel
set_option maxRecDepth 20000 in
theorem ggX3_passHours_X0_firstAfloat : GoodIn wsX3_passHours wsX0_firstAfloat := goodIn_r _ [7, 8, 9, 180, 181, 182, 183, 184, 185, 186, 187, 188, 189, 190, 191] (by decide +kernel) (by decide +kernel)
set_option maxRecDepth 20000 in
theorem gX3_passHours_X0_firstAfloat : GoodIn wsX3_passHours (wsV RX3 96 RX0 yX0_firstAfloat wsX0_firstAfloat) := goodIn_app (goodIn_of _ (by decide +kernel)) ggX3_passHours_X0_firstAfloat
set_option maxRecDepth 20000 in
theorem ggX3_passHours_X0_takeInWater : GoodIn wsX3_passHours wsX0_takeInWater := goodIn_r _ [13, 8, 9, 14, 15, 16, 17, 18, 19, 180, 181, 182, 183, 184, 185, 186, 187, 188, 189, 190, 191] (by decide +kernel) (by decide +kernel)
set_option maxRecDepth 20000 in
theorem gX3_passHours_X0_takeInWater : GoodIn wsX3_passHours (wsV RX3 100 RX0 yX0_takeInWater wsX0_takeInWater) := goodIn_app (goodIn_of _ (by decide +kernel)) ggX3_passHours_X0_takeInWater
set_option maxRecDepth 20000 in
theorem ggX3_passHours_X3_loseOverloaded : GoodIn wsX3_passHours wsX3_loseOverloaded := goodIn_r _ [24, 1, 25, 26, 27, 28, 29, 30, 31, 23, 32, 33, 34, 35, 6, 36, 37, 14, 38, 39, 40, 41, 42, 43, 44, 45, 46, 47, 9, 48, 49, 50, 51, 52, 53, 54, 55, 56, 57, 58, 59, 60, 61, 62, 63, 64, 65, 66, 67, 68, 69, 8, 70, 71, 72, 73, 74, 75, 76, 77, 78, 79, 80, 81, 82, 83, 84, 85, 86, 87, 88, 89, 90, 91, 92, 173, 174, 175, 176, 177, 178, 179, 180, 181, 182, 183, 184, 185, 186, 187, 188, 189, 190, 191, 192, 193, 194, 195, 196, 197, 198, 199] (by decide +kernel) (by decide +kernel)
set_option maxRecDepth 20000 in
theorem gX3_passHours_X3_loseOverloaded : GoodIn wsX3_passHours (wsV RX3 103 RX3 yX3_loseOverloaded wsX3_loseOverloaded) := goodIn_app (goodIn_of _ (by decide +kernel)) ggX3_passHours_X3_loseOverloaded
set_option maxRecDepth 20000 in
theorem ggX3_passHours_X3_wearLashings : GoodIn wsX3_passHours wsX3_wearLashings := goodIn_r _ [96, 54, 55, 97, 98, 99, 100, 101, 23, 102, 56, 103, 1, 104, 105, 106, 107, 18, 108, 109, 110, 111, 112, 113, 114, 115, 116, 117, 118, 119, 120, 121, 122, 123, 124, 125, 126, 127, 38, 39, 40, 6, 41, 42, 43, 128, 129, 130, 78, 131, 80, 92, 75, 76, 77, 79, 81, 82, 83, 84, 85, 86, 87, 88, 89, 90, 91, 132, 133, 134, 135, 136, 137, 138, 139, 8, 48, 9, 140, 141, 142, 143, 16, 17, 19, 144, 145, 146, 173, 174, 175, 176, 177, 178, 179, 192, 193, 194, 195, 196, 180, 181, 182, 183, 184, 185, 186, 187, 188, 189, 190, 191, 200, 201, 202, 203, 204, 205, 206] (by decide +kernel) (by decide +kernel)
set_option maxRecDepth 20000 in
theorem gX3_passHours_X3_wearLashings : GoodIn wsX3_passHours (wsV RX3 106 RX3 yX3_wearLashings wsX3_wearLashings) := goodIn_app (goodIn_of _ (by decide +kernel)) ggX3_passHours_X3_wearLashings
set_option maxRecDepth 20000 in
theorem ggX3_passHours_X3_drift : GoodIn wsX3_passHours wsX3_drift := goodIn_r _ [150, 1, 25, 26, 104, 105, 29, 30, 31, 23, 32, 28, 27, 33, 34, 35, 6, 36, 37, 14, 38, 39, 40, 41, 42, 43, 151, 152, 153, 154, 155, 156, 157, 17, 18, 19, 158, 145, 146, 109, 110, 111, 112, 113, 114, 115, 116, 117, 159, 160, 161, 162, 163, 123, 124, 125, 126, 127, 164, 165, 166, 167, 168, 173, 174, 175, 176, 177, 178, 179, 180, 181, 182, 183, 184, 185, 186, 187, 188, 189, 190, 191, 200, 201, 202, 203, 204, 205, 206] (by decide +kernel) (by decide +kernel)
set_option maxRecDepth 20000 in
theorem gX3_passHours_X3_drift : GoodIn wsX3_passHours (wsV RX3 110 RX3 yX3_drift wsX3_drift) := goodIn_app (goodIn_of _ (by decide +kernel)) ggX3_passHours_X3_drift
set_option maxRecDepth 20000 in
theorem ggX3_passHours_X3_saveAshore : GoodIn wsX3_passHours wsX3_saveAshore := goodIn_r _ [172, 1, 25, 104, 70, 71, 72, 6, 73, 9, 74, 67, 68, 69, 8, 44, 45, 46, 47, 48, 43, 42, 49, 50, 51, 23, 52, 53, 54, 55, 56, 57, 58, 59, 60, 61, 62, 63, 64, 65, 66, 75, 76, 77, 78, 79, 80, 81, 82, 83, 84, 85, 86, 87, 88, 89, 90, 91, 92, 173, 174, 175, 176, 177, 178, 179, 180, 181, 182, 183, 184, 185, 186, 187, 188, 189, 190, 191, 192, 193, 194, 195, 196, 197, 198, 199] (by decide +kernel) (by decide +kernel)
set_option maxRecDepth 20000 in
theorem gX3_passHours_X3_saveAshore : GoodIn wsX3_passHours (wsV RX3 113 RX3 yX3_saveAshore wsX3_saveAshore) := goodIn_app (goodIn_of _ (by decide +kernel)) ggX3_passHours_X3_saveAshore
theorem dX3_passHours_0 : decode cX3_passHours 0 = .ok (.iconst 0, 1) := by decide +kernel
theorem dX3_passHours_1 : decode cX3_passHours 1 = .ok (.istore_n 3, 1) := by decide +kernel
theorem dX3_passHours_2 : decode cX3_passHours 2 = .ok (.iload_n 3, 1) := by decide +kernel
theorem dX3_passHours_3 : decode cX3_passHours 3 = .ok (.iload_n 1, 1) := by decide +kernel
theorem dX3_passHours_4 : decode cX3_passHours 4 = .ok (.if_icmp .ge 44, 3) := by decide +kernel
theorem dX3_passHours_7 : decode cX3_passHours 7 = .ok (.aload_n 0, 1) := by decide +kernel
theorem dX3_passHours_8 : decode cX3_passHours 8 = .ok (.getfield 12, 3) := by decide +kernel
theorem dX3_passHours_11 : decode cX3_passHours 11 = .ok (.invokevirtual 96, 3) := by decide +kernel
theorem dX3_passHours_14 : decode cX3_passHours 14 = .ok (.ifCond .lt 34, 3) := by decide +kernel
theorem dX3_passHours_17 : decode cX3_passHours 17 = .ok (.aload_n 0, 1) := by decide +kernel
theorem dX3_passHours_18 : decode cX3_passHours 18 = .ok (.getfield 12, 3) := by decide +kernel
theorem dX3_passHours_21 : decode cX3_passHours 21 = .ok (.invokevirtual 100, 3) := by decide +kernel
theorem dX3_passHours_24 : decode cX3_passHours 24 = .ok (.aload_n 0, 1) := by decide +kernel
theorem dX3_passHours_25 : decode cX3_passHours 25 = .ok (.invokevirtual 103, 3) := by decide +kernel
theorem dX3_passHours_28 : decode cX3_passHours 28 = .ok (.aload_n 0, 1) := by decide +kernel
theorem dX3_passHours_29 : decode cX3_passHours 29 = .ok (.aload_n 2, 1) := by decide +kernel
theorem dX3_passHours_30 : decode cX3_passHours 30 = .ok (.invokevirtual 106, 3) := by decide +kernel
theorem dX3_passHours_33 : decode cX3_passHours 33 = .ok (.aload_n 0, 1) := by decide +kernel
theorem dX3_passHours_34 : decode cX3_passHours 34 = .ok (.aload_n 2, 1) := by decide +kernel
theorem dX3_passHours_35 : decode cX3_passHours 35 = .ok (.invokevirtual 110, 3) := by decide +kernel
theorem dX3_passHours_38 : decode cX3_passHours 38 = .ok (.aload_n 0, 1) := by decide +kernel
theorem dX3_passHours_39 : decode cX3_passHours 39 = .ok (.invokevirtual 113, 3) := by decide +kernel
theorem dX3_passHours_42 : decode cX3_passHours 42 = .ok (.iinc 3 1, 3) := by decide +kernel
theorem dX3_passHours_45 : decode cX3_passHours 45 = .ok (.goto (-43), 3) := by decide +kernel
theorem dX3_passHours_48 : decode cX3_passHours 48 = .ok (.aload_n 0, 1) := by decide +kernel
theorem dX3_passHours_49 : decode cX3_passHours 49 = .ok (.dup, 1) := by decide +kernel
theorem dX3_passHours_50 : decode cX3_passHours 50 = .ok (.getfield 49, 3) := by decide +kernel
theorem dX3_passHours_53 : decode cX3_passHours 53 = .ok (.iload_n 1, 1) := by decide +kernel
theorem dX3_passHours_54 : decode cX3_passHours 54 = .ok (.iadd, 1) := by decide +kernel
theorem dX3_passHours_55 : decode cX3_passHours 55 = .ok (.putfield 49, 3) := by decide +kernel
theorem dX3_passHours_58 : decode cX3_passHours 58 = .ok (.return_, 1) := by decide +kernel
set_option maxRecDepth 20000 in
theorem ggX3_loseOverloaded_X3_weighPieces : GoodIn wsX3_loseOverloaded wsX3_weighPieces := goodIn_r _ [10, 1, 2, 5, 4, 3, 11, 12, 13, 14, 15, 16, 17, 18, 19, 20, 21, 22, 23, 75, 76, 77, 78, 79, 80, 81, 82, 83, 84, 85, 86, 87, 88, 89, 90, 91, 92, 93] (by decide +kernel) (by decide +kernel)
set_option maxRecDepth 20000 in
theorem gX3_loseOverloaded_X3_weighPieces : GoodIn wsX3_loseOverloaded (wsV RX3 116 RX3 yX3_weighPieces wsX3_weighPieces) := goodIn_app (goodIn_of _ (by decide +kernel)) ggX3_loseOverloaded_X3_weighPieces
set_option maxRecDepth 20000 in
theorem ggX3_loseOverloaded_X0_end : GoodIn wsX3_loseOverloaded wsX0_end := goodIn_r _ [27, 28, 29, 23, 22, 82, 83, 84, 85, 86, 87, 88, 89, 90, 91, 92, 93] (by decide +kernel) (by decide +kernel)
set_option maxRecDepth 20000 in
theorem gX3_loseOverloaded_X0_end : GoodIn wsX3_loseOverloaded (wsV RX3 123 RX0 yX0_end wsX0_end) := goodIn_app (goodIn_of _ (by decide +kernel)) ggX3_loseOverloaded_X0_end
set_option maxRecDepth 20000 in
theorem ggX3_loseOverloaded_X3_leaveEnded : GoodIn wsX3_loseOverloaded wsX3_leaveEnded := goodIn_r _ [33, 34, 1, 35, 36, 37, 38, 39, 40, 41, 42, 43, 44, 45, 46, 47, 48, 49, 14, 50, 51, 52, 53, 54, 55, 28, 56, 57, 58, 59, 60, 61, 62, 63, 64, 65, 66, 67, 68, 69, 70, 71, 72, 73, 74, 75, 76, 77, 78, 79, 80, 81, 94, 95, 96, 97, 98, 99, 100, 101, 82, 83, 84, 85, 86, 87, 88, 89, 90, 91, 92, 93] (by decide +kernel) (by decide +kernel)
set_option maxRecDepth 20000 in
theorem gX3_loseOverloaded_X3_leaveEnded : GoodIn wsX3_loseOverloaded (wsV RX3 126 RX3 yX3_leaveEnded wsX3_leaveEnded) := goodIn_app (goodIn_of _ (by decide +kernel)) ggX3_loseOverloaded_X3_leaveEnded
theorem dX3_loseOverloaded_0 : decode cX3_loseOverloaded 0 = .ok (.aload_n 0, 1) := by decide +kernel
theorem dX3_loseOverloaded_1 : decode cX3_loseOverloaded 1 = .ok (.invokevirtual 116, 3) := by decide +kernel
theorem dX3_loseOverloaded_4 : decode cX3_loseOverloaded 4 = .ok (.iconst 0, 1) := by decide +kernel
theorem dX3_loseOverloaded_5 : decode cX3_loseOverloaded 5 = .ok (.istore_n 1, 1) := by decide +kernel
theorem dX3_loseOverloaded_6 : decode cX3_loseOverloaded 6 = .ok (.iconst 0, 1) := by decide +kernel
theorem dX3_loseOverloaded_7 : decode cX3_loseOverloaded 7 = .ok (.istore_n 2, 1) := by decide +kernel
theorem dX3_loseOverloaded_8 : decode cX3_loseOverloaded 8 = .ok (.iload_n 2, 1) := by decide +kernel
theorem dX3_loseOverloaded_9 : decode cX3_loseOverloaded 9 = .ok (.aload_n 0, 1) := by decide +kernel
theorem dX3_loseOverloaded_10 : decode cX3_loseOverloaded 10 = .ok (.getfield 12, 3) := by decide +kernel
theorem dX3_loseOverloaded_13 : decode cX3_loseOverloaded 13 = .ok (.getfield 119, 3) := by decide +kernel
theorem dX3_loseOverloaded_16 : decode cX3_loseOverloaded 16 = .ok (.if_icmp .ge 49, 3) := by decide +kernel
theorem dX3_loseOverloaded_19 : decode cX3_loseOverloaded 19 = .ok (.aload_n 0, 1) := by decide +kernel
theorem dX3_loseOverloaded_20 : decode cX3_loseOverloaded 20 = .ok (.getfield 12, 3) := by decide +kernel
theorem dX3_loseOverloaded_23 : decode cX3_loseOverloaded 23 = .ok (.getfield 120, 3) := by decide +kernel
theorem dX3_loseOverloaded_26 : decode cX3_loseOverloaded 26 = .ok (.iload_n 2, 1) := by decide +kernel
theorem dX3_loseOverloaded_27 : decode cX3_loseOverloaded 27 = .ok (.iaload, 1) := by decide +kernel
theorem dX3_loseOverloaded_28 : decode cX3_loseOverloaded 28 = .ok (.istore_n 3, 1) := by decide +kernel
theorem dX3_loseOverloaded_29 : decode cX3_loseOverloaded 29 = .ok (.iload_n 3, 1) := by decide +kernel
theorem dX3_loseOverloaded_30 : decode cX3_loseOverloaded 30 = .ok (.ifCond .lt 29, 3) := by decide +kernel
theorem dX3_loseOverloaded_33 : decode cX3_loseOverloaded 33 = .ok (.aload_n 0, 1) := by decide +kernel
theorem dX3_loseOverloaded_34 : decode cX3_loseOverloaded 34 = .ok (.getfield 36, 3) := by decide +kernel
theorem dX3_loseOverloaded_37 : decode cX3_loseOverloaded 37 = .ok (.iload_n 3, 1) := by decide +kernel
theorem dX3_loseOverloaded_38 : decode cX3_loseOverloaded 38 = .ok (.iaload, 1) := by decide +kernel
theorem dX3_loseOverloaded_39 : decode cX3_loseOverloaded 39 = .ok (.aload_n 0, 1) := by decide +kernel
theorem dX3_loseOverloaded_40 : decode cX3_loseOverloaded 40 = .ok (.getfield 32, 3) := by decide +kernel
theorem dX3_loseOverloaded_43 : decode cX3_loseOverloaded 43 = .ok (.iload_n 3, 1) := by decide +kernel
theorem dX3_loseOverloaded_44 : decode cX3_loseOverloaded 44 = .ok (.iaload, 1) := by decide +kernel
theorem dX3_loseOverloaded_45 : decode cX3_loseOverloaded 45 = .ok (.if_icmp .le 14, 3) := by decide +kernel
theorem dX3_loseOverloaded_48 : decode cX3_loseOverloaded 48 = .ok (.aload_n 0, 1) := by decide +kernel
theorem dX3_loseOverloaded_49 : decode cX3_loseOverloaded 49 = .ok (.getfield 12, 3) := by decide +kernel
theorem dX3_loseOverloaded_52 : decode cX3_loseOverloaded 52 = .ok (.iload_n 2, 1) := by decide +kernel
theorem dX3_loseOverloaded_53 : decode cX3_loseOverloaded 53 = .ok (.iconst 1, 1) := by decide +kernel
theorem dX3_loseOverloaded_54 : decode cX3_loseOverloaded 54 = .ok (.invokevirtual 123, 3) := by decide +kernel
theorem dX3_loseOverloaded_57 : decode cX3_loseOverloaded 57 = .ok (.iconst 1, 1) := by decide +kernel
theorem dX3_loseOverloaded_58 : decode cX3_loseOverloaded 58 = .ok (.istore_n 1, 1) := by decide +kernel
theorem dX3_loseOverloaded_59 : decode cX3_loseOverloaded 59 = .ok (.iinc 2 1, 3) := by decide +kernel
theorem dX3_loseOverloaded_62 : decode cX3_loseOverloaded 62 = .ok (.goto (-54), 3) := by decide +kernel
theorem dX3_loseOverloaded_65 : decode cX3_loseOverloaded 65 = .ok (.iload_n 1, 1) := by decide +kernel
theorem dX3_loseOverloaded_66 : decode cX3_loseOverloaded 66 = .ok (.ifCond .eq 7, 3) := by decide +kernel
theorem dX3_loseOverloaded_69 : decode cX3_loseOverloaded 69 = .ok (.aload_n 0, 1) := by decide +kernel
theorem dX3_loseOverloaded_70 : decode cX3_loseOverloaded 70 = .ok (.invokevirtual 126, 3) := by decide +kernel
theorem dX3_loseOverloaded_73 : decode cX3_loseOverloaded 73 = .ok (.return_, 1) := by decide +kernel
set_option maxRecDepth 20000 in
theorem ggX3_wearLashings_X3_stress : GoodIn wsX3_wearLashings wsX3_stress := goodIn_r _ [9, 1, 10, 11, 12, 13, 14, 15, 16, 17, 18, 19, 20, 21, 22, 23, 24, 25, 26, 27, 28, 29, 30, 31, 32, 33, 34, 35, 36, 37, 38, 39, 40, 41, 42, 43, 44, 88, 89, 90, 91, 92, 93, 94, 95, 96, 97, 98, 99, 100, 101, 102, 103, 104, 105, 106, 107, 108, 109, 110, 111, 112, 113, 114, 115, 116, 117, 118] (by decide +kernel) (by decide +kernel)
set_option maxRecDepth 20000 in
theorem gX3_wearLashings_X3_stress : GoodIn wsX3_wearLashings (wsV RX3 129 RX3 yX3_stress wsX3_stress) := goodIn_app (goodIn_of _ (by decide +kernel)) ggX3_wearLashings_X3_stress
set_option maxRecDepth 20000 in
theorem ggX3_wearLashings_X2_left : GoodIn wsX3_wearLashings wsX2_left := goodIn_r _ [49, 50, 51, 95, 96, 97, 98, 99] (by decide +kernel) (by decide +kernel)
set_option maxRecDepth 20000 in
theorem gX3_wearLashings_X2_left : GoodIn wsX3_wearLashings (wsV RX3 133 RX2 yX2_left wsX2_left) := goodIn_app (goodIn_of _ (by decide +kernel)) ggX3_wearLashings_X2_left
set_option maxRecDepth 20000 in
theorem ggX3_wearLashings_X2_undo : GoodIn wsX3_wearLashings wsX2_undo := goodIn_r _ [55, 50, 95, 96, 97, 98, 99] (by decide +kernel) (by decide +kernel)
set_option maxRecDepth 20000 in
theorem gX3_wearLashings_X2_undo : GoodIn wsX3_wearLashings (wsV RX3 136 RX2 yX2_undo wsX2_undo) := goodIn_app (goodIn_of _ (by decide +kernel)) ggX3_wearLashings_X2_undo
set_option maxRecDepth 20000 in
theorem ggX3_wearLashings_X2_sweep : GoodIn wsX3_wearLashings wsX2_sweep := goodIn_r _ [59, 60, 50, 61, 62, 63, 48, 64, 65, 66, 51, 95, 96, 97, 98, 99] (by decide +kernel) (by decide +kernel)
set_option maxRecDepth 20000 in
theorem gX3_wearLashings_X2_sweep : GoodIn wsX3_wearLashings (wsV RX3 143 RX2 yX2_sweep wsX2_sweep) := goodIn_app (goodIn_of _ (by decide +kernel)) ggX3_wearLashings_X2_sweep
