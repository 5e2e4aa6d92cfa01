theorem dX6_singleLashings_49 : decode cX6_singleLashings 49 = .ok (.getfield 29, 3) := by decide +kernel
theorem dX6_singleLashings_52 : decode cX6_singleLashings 52 = .ok (.aload_n 2, 1) := by decide +kernel
theorem dX6_singleLashings_53 : decode cX6_singleLashings 53 = .ok (.iload 5, 2) := by decide +kernel
theorem dX6_singleLashings_55 : decode cX6_singleLashings 55 = .ok (.aload_n 2, 1) := by decide +kernel
theorem dX6_singleLashings_56 : decode cX6_singleLashings 56 = .ok (.getfield 278, 3) := by decide +kernel
theorem dX6_singleLashings_59 : decode cX6_singleLashings 59 = .ok (.iload 4, 2) := by decide +kernel
theorem dX6_singleLashings_61 : decode cX6_singleLashings 61 = .ok (.iaload, 1) := by decide +kernel
theorem dX6_singleLashings_62 : decode cX6_singleLashings 62 = .ok (.invokevirtual 243, 3) := by decide +kernel
theorem dX6_singleLashings_65 : decode cX6_singleLashings 65 = .ok (.iconst 1, 1) := by decide +kernel
theorem dX6_singleLashings_66 : decode cX6_singleLashings 66 = .ok (.if_icmp .ne 6, 3) := by decide +kernel
theorem dX6_singleLashings_69 : decode cX6_singleLashings 69 = .ok (.iinc 3 1, 3) := by decide +kernel
theorem dX6_singleLashings_72 : decode cX6_singleLashings 72 = .ok (.iinc 4 1, 3) := by decide +kernel
theorem dX6_singleLashings_75 : decode cX6_singleLashings 75 = .ok (.goto (-62), 3) := by decide +kernel
theorem dX6_singleLashings_78 : decode cX6_singleLashings 78 = .ok (.iload_n 3, 1) := by decide +kernel
theorem dX6_singleLashings_79 : decode cX6_singleLashings 79 = .ok (.ireturn, 1) := by decide +kernel
set_option maxRecDepth 20000 in
theorem ggX6_savedWith_X3_copyFrom : GoodIn wsX6_savedWith wsX3_copyFrom := goodIn_r _ [11, 12, 13, 14, 15, 16, 17, 18, 19, 20, 21, 22, 23, 24, 25, 26, 27, 28, 29, 30, 31, 32, 33, 34, 35, 36, 37, 38, 39, 40, 41, 42, 43, 44, 45, 46, 47, 48, 49, 50, 51, 52, 53, 54, 55, 56, 57, 222, 223, 224, 225, 226, 227, 228, 234, 235, 236, 237, 238, 239, 240, 241, 242, 243, 244, 245, 246, 247, 248, 229, 230, 231, 232, 233] (by decide +kernel) (by decide +kernel)
set_option maxRecDepth 20000 in
theorem gX6_savedWith_X3_copyFrom : GoodIn wsX6_savedWith (wsV RX6 259 RX3 yX3_copyFrom wsX3_copyFrom) := goodIn_app (goodIn_of _ (by decide +kernel)) ggX6_savedWith_X3_copyFrom
set_option maxRecDepth 20000 in
theorem ggX6_savedWith_X2_renew : GoodIn wsX6_savedWith wsX2_renew := goodIn_r _ [61, 55, 56, 229, 230, 231, 232, 233] (by decide +kernel) (by decide +kernel)
set_option maxRecDepth 20000 in
theorem gX6_savedWith_X2_renew : GoodIn wsX6_savedWith (wsV RX6 322 RX2 yX2_renew wsX2_renew) := goodIn_app (goodIn_of _ (by decide +kernel)) ggX6_savedWith_X2_renew
set_option maxRecDepth 20000 in
theorem ggX6_savedWith_X3_passHours : GoodIn wsX6_savedWith wsX3_passHours := goodIn_r _ [65, 12, 15, 66, 67, 68, 20, 69, 37, 33, 70, 71, 72, 73, 30, 29, 74, 75, 76, 77, 78, 79, 80, 10, 81, 82, 83, 84, 85, 86, 87, 88, 89, 90, 91, 92, 93, 28, 94, 95, 96, 97, 31, 32, 98, 99, 100, 101, 36, 102, 103, 104, 105, 13, 14, 106, 107, 108, 109, 110, 41, 111, 46, 43, 112, 45, 113, 114, 115, 116, 117, 118, 119, 120, 121, 122, 123, 124, 50, 125, 55, 126, 127, 128, 129, 57, 130, 131, 132, 133, 52, 54, 56, 134, 135, 136, 137, 138, 16, 139, 140, 141, 142, 143, 144, 145, 146, 147, 148, 149, 150, 151, 152, 153, 154, 155, 156, 157, 158, 159, 160, 161, 162, 163, 164, 165, 166, 167, 168, 169, 170, 171, 172, 173, 174, 175, 176, 177, 178, 179, 180, 181, 182, 183, 184, 185, 186, 187, 188, 189, 190, 191, 192, 193, 194, 195, 196, 197, 198, 199, 200, 201, 202, 203, 204, 205, 206, 207, 208, 209, 210, 211, 212, 222, 223, 224, 225, 226, 227, 228, 234, 235, 236, 237, 238, 239, 240, 241, 242, 243, 244, 245, 229, 230, 231, 232, 233, 246, 247, 248, 249, 250, 251, 252, 253, 254, 255] (by decide +kernel) (by decide +kernel)
set_option maxRecDepth 20000 in
theorem gX6_savedWith_X3_passHours : GoodIn wsX6_savedWith (wsV RX6 234 RX3 yX3_passHours wsX3_passHours) := goodIn_app (goodIn_of _ (by decide +kernel)) ggX6_savedWith_X3_passHours
set_option maxRecDepth 20000 in
theorem ggX6_savedWith_X1_countOf : GoodIn wsX6_savedWith wsX1_countOf := goodIn_r _ [216, 46, 45, 246, 247, 248] (by decide +kernel) (by decide +kernel)
set_option maxRecDepth 20000 in
theorem gX6_savedWith_X1_countOf : GoodIn wsX6_savedWith (wsV RX6 266 RX1 yX1_countOf wsX1_countOf) := goodIn_app (goodIn_of _ (by decide +kernel)) ggX6_savedWith_X1_countOf
theorem dX6_savedWith_0 : decode cX6_savedWith 0 = .ok (.aload_n 0, 1) := by decide +kernel
theorem dX6_savedWith_1 : decode cX6_savedWith 1 = .ok (.getfield 23, 3) := by decide +kernel
theorem dX6_savedWith_4 : decode cX6_savedWith 4 = .ok (.aload_n 0, 1) := by decide +kernel
theorem dX6_savedWith_5 : decode cX6_savedWith 5 = .ok (.getfield 19, 3) := by decide +kernel
theorem dX6_savedWith_8 : decode cX6_savedWith 8 = .ok (.invokevirtual 259, 3) := by decide +kernel
theorem dX6_savedWith_11 : decode cX6_savedWith 11 = .ok (.iload_n 1, 1) := by decide +kernel
theorem dX6_savedWith_12 : decode cX6_savedWith 12 = .ok (.ifCond .lt 30, 3) := by decide +kernel
theorem dX6_savedWith_15 : decode cX6_savedWith 15 = .ok (.iload_n 1, 1) := by decide +kernel
theorem dX6_savedWith_16 : decode cX6_savedWith 16 = .ok (.aload_n 0, 1) := by decide +kernel
theorem dX6_savedWith_17 : decode cX6_savedWith 17 = .ok (.getfield 23, 3) := by decide +kernel
theorem dX6_savedWith_20 : decode cX6_savedWith 20 = .ok (.getfield 136, 3) := by decide +kernel
theorem dX6_savedWith_23 : decode cX6_savedWith 23 = .ok (.getfield 271, 3) := by decide +kernel
theorem dX6_savedWith_26 : decode cX6_savedWith 26 = .ok (.if_icmp .ge 16, 3) := by decide +kernel
theorem dX6_savedWith_29 : decode cX6_savedWith 29 = .ok (.aload_n 0, 1) := by decide +kernel
theorem dX6_savedWith_30 : decode cX6_savedWith 30 = .ok (.getfield 23, 3) := by decide +kernel
theorem dX6_savedWith_33 : decode cX6_savedWith 33 = .ok (.getfield 136, 3) := by decide +kernel
theorem dX6_savedWith_36 : decode cX6_savedWith 36 = .ok (.iload_n 1, 1) := by decide +kernel
theorem dX6_savedWith_37 : decode cX6_savedWith 37 = .ok (.bipush 50, 2) := by decide +kernel
theorem dX6_savedWith_39 : decode cX6_savedWith 39 = .ok (.invokevirtual 322, 3) := by decide +kernel
theorem dX6_savedWith_42 : decode cX6_savedWith 42 = .ok (.aload_n 0, 1) := by decide +kernel
theorem dX6_savedWith_43 : decode cX6_savedWith 43 = .ok (.getfield 23, 3) := by decide +kernel
theorem dX6_savedWith_46 : decode cX6_savedWith 46 = .ok (.iload_n 2, 1) := by decide +kernel
theorem dX6_savedWith_47 : decode cX6_savedWith 47 = .ok (.aload_n 0, 1) := by decide +kernel
theorem dX6_savedWith_48 : decode cX6_savedWith 48 = .ok (.getfield 12, 3) := by decide +kernel
theorem dX6_savedWith_51 : decode cX6_savedWith 51 = .ok (.invokevirtual 234, 3) := by decide +kernel
theorem dX6_savedWith_54 : decode cX6_savedWith 54 = .ok (.aload_n 0, 1) := by decide +kernel
theorem dX6_savedWith_55 : decode cX6_savedWith 55 = .ok (.getfield 23, 3) := by decide +kernel
theorem dX6_savedWith_58 : decode cX6_savedWith 58 = .ok (.getfield 195, 3) := by decide +kernel
theorem dX6_savedWith_61 : decode cX6_savedWith 61 = .ok (.iconst 2, 1) := by decide +kernel
theorem dX6_savedWith_62 : decode cX6_savedWith 62 = .ok (.invokevirtual 266, 3) := by decide +kernel
theorem dX6_savedWith_65 : decode cX6_savedWith 65 = .ok (.ireturn, 1) := by decide +kernel
theorem dX7_init_0 : decode cX7_init 0 = .ok (.aload_n 0, 1) := by decide +kernel
theorem dX7_init_1 : decode cX7_init 1 = .ok (.invokespecial 3, 3) := by decide +kernel
theorem dX7_init_4 : decode cX7_init 4 = .ok (.aload_n 0, 1) := by decide +kernel
theorem dX7_init_5 : decode cX7_init 5 = .ok (.bipush 56, 2) := by decide +kernel
theorem dX7_init_7 : decode cX7_init 7 = .ok (.newarray .int, 2) := by decide +kernel
theorem dX7_init_9 : decode cX7_init 9 = .ok (.putfield 9, 3) := by decide +kernel
theorem dX7_init_12 : decode cX7_init 12 = .ok (.aload_n 0, 1) := by decide +kernel
theorem dX7_init_13 : decode cX7_init 13 = .ok (.bipush 72, 2) := by decide +kernel
theorem dX7_init_15 : decode cX7_init 15 = .ok (.newarray .int, 2) := by decide +kernel
theorem dX7_init_17 : decode cX7_init 17 = .ok (.putfield 13, 3) := by decide +kernel
theorem dX7_init_20 : decode cX7_init 20 = .ok (.aload_n 0, 1) := by decide +kernel
theorem dX7_init_21 : decode cX7_init 21 = .ok (.bipush 120, 2) := by decide +kernel
theorem dX7_init_23 : decode cX7_init 23 = .ok (.newarray .int, 2) := by decide +kernel
theorem dX7_init_25 : decode cX7_init 25 = .ok (.putfield 16, 3) := by decide +kernel
theorem dX7_init_28 : decode cX7_init 28 = .ok (.aload_n 0, 1) := by decide +kernel
theorem dX7_init_29 : decode cX7_init 29 = .ok (.sipush 576, 3) := by decide +kernel
theorem dX7_init_32 : decode cX7_init 32 = .ok (.newarray .int, 2) := by decide +kernel
theorem dX7_init_34 : decode cX7_init 34 = .ok (.putfield 19, 3) := by decide +kernel
theorem dX7_init_37 : decode cX7_init 37 = .ok (.aload_n 0, 1) := by decide +kernel
theorem dX7_init_38 : decode cX7_init 38 = .ok (.sipush 576, 3) := by decide +kernel
theorem dX7_init_41 : decode cX7_init 41 = .ok (.newarray .int, 2) := by decide +kernel
theorem dX7_init_43 : decode cX7_init 43 = .ok (.putfield 22, 3) := by decide +kernel
theorem dX7_init_46 : decode cX7_init 46 = .ok (.aload_n 0, 1) := by decide +kernel
theorem dX7_init_47 : decode cX7_init 47 = .ok (.bipush 16, 2) := by decide +kernel
theorem dX7_init_49 : decode cX7_init 49 = .ok (.newarray .int, 2) := by decide +kernel
theorem dX7_init_51 : decode cX7_init 51 = .ok (.putfield 25, 3) := by decide +kernel
theorem dX7_init_54 : decode cX7_init 54 = .ok (.aload_n 0, 1) := by decide +kernel
theorem dX7_init_55 : decode cX7_init 55 = .ok (.iconst 3, 1) := by decide +kernel
theorem dX7_init_56 : decode cX7_init 56 = .ok (.newarray .int, 2) := by decide +kernel
theorem dX7_init_58 : decode cX7_init 58 = .ok (.dup, 1) := by decide +kernel
theorem dX7_init_59 : decode cX7_init 59 = .ok (.iconst 0, 1) := by decide +kernel
theorem dX7_init_60 : decode cX7_init 60 = .ok (.iconst 0, 1) := by decide +kernel
theorem dX7_init_61 : decode cX7_init 61 = .ok (.iastore, 1) := by decide +kernel
theorem dX7_init_62 : decode cX7_init 62 = .ok (.dup, 1) := by decide +kernel
theorem dX7_init_63 : decode cX7_init 63 = .ok (.iconst 1, 1) := by decide +kernel
theorem dX7_init_64 : decode cX7_init 64 = .ok (.bipush 10, 2) := by decide +kernel
theorem dX7_init_66 : decode cX7_init 66 = .ok (.iastore, 1) := by decide +kernel
theorem dX7_init_67 : decode cX7_init 67 = .ok (.dup, 1) := by decide +kernel
theorem dX7_init_68 : decode cX7_init 68 = .ok (.iconst 2, 1) := by decide +kernel
theorem dX7_init_69 : decode cX7_init 69 = .ok (.iconst 0, 1) := by decide +kernel
theorem dX7_init_70 : decode cX7_init 70 = .ok (.iastore, 1) := by decide +kernel
theorem dX7_init_71 : decode cX7_init 71 = .ok (.putfield 28, 3) := by decide +kernel
theorem dX7_init_74 : decode cX7_init 74 = .ok (.aload_n 0, 1) := by decide +kernel
theorem dX7_init_75 : decode cX7_init 75 = .ok (.bipush 24, 2) := by decide +kernel
theorem dX7_init_77 : decode cX7_init 77 = .ok (.newarray .int, 2) := by decide +kernel
theorem dX7_init_79 : decode cX7_init 79 = .ok (.putfield 31, 3) := by decide +kernel
theorem dX7_init_82 : decode cX7_init 82 = .ok (.aload_n 0, 1) := by decide +kernel
theorem dX7_init_83 : decode cX7_init 83 = .ok (.sipush 576, 3) := by decide +kernel
theorem dX7_init_86 : decode cX7_init 86 = .ok (.newarray .boolean, 2) := by decide +kernel
theorem dX7_init_88 : decode cX7_init 88 = .ok (.putfield 34, 3) := by decide +kernel
theorem dX7_init_91 : decode cX7_init 91 = .ok (.aload_n 0, 1) := by decide +kernel
theorem dX7_init_92 : decode cX7_init 92 = .ok (.bipush 24, 2) := by decide +kernel
theorem dX7_init_94 : decode cX7_init 94 = .ok (.newarray .int, 2) := by decide +kernel
theorem dX7_init_96 : decode cX7_init 96 = .ok (.putfield 38, 3) := by decide +kernel
theorem dX7_init_99 : decode cX7_init 99 = .ok (.aload_n 0, 1) := by decide +kernel
theorem dX7_init_100 : decode cX7_init 100 = .ok (.bipush 24, 2) := by decide +kernel
theorem dX7_init_102 : decode cX7_init 102 = .ok (.newarray .int, 2) := by decide +kernel
theorem dX7_init_104 : decode cX7_init 104 = .ok (.putfield 41, 3) := by decide +kernel
theorem dX7_init_107 : decode cX7_init 107 = .ok (.aload_n 0, 1) := by decide +kernel
theorem dX7_init_108 : decode cX7_init 108 = .ok (.bipush 24, 2) := by decide +kernel
theorem dX7_init_110 : decode cX7_init 110 = .ok (.newarray .boolean, 2) := by decide +kernel
theorem dX7_init_112 : decode cX7_init 112 = .ok (.putfield 44, 3) := by decide +kernel
theorem dX7_init_115 : decode cX7_init 115 = .ok (.return_, 1) := by decide +kernel
theorem dX7_thrown_0 : decode cX7_thrown 0 = .ok (.aload_n 0, 1) := by decide +kernel
theorem dX7_thrown_1 : decode cX7_thrown 1 = .ok (.getfield 47, 3) := by decide +kernel
theorem dX7_thrown_4 : decode cX7_thrown 4 = .ok (.ireturn, 1) := by decide +kernel
theorem dX7_fail_0 : decode cX7_fail 0 = .ok (.aload_n 0, 1) := by decide +kernel
theorem dX7_fail_1 : decode cX7_fail 1 = .ok (.iload_n 1, 1) := by decide +kernel
theorem dX7_fail_2 : decode cX7_fail 2 = .ok (.putfield 47, 3) := by decide +kernel
theorem dX7_fail_5 : decode cX7_fail 5 = .ok (.iconst 0, 1) := by decide +kernel
theorem dX7_fail_6 : decode cX7_fail 6 = .ok (.ireturn, 1) := by decide +kernel
theorem dX7_isIn_0 : decode cX7_isIn 0 = .ok (.iload_n 0, 1) := by decide +kernel
theorem dX7_isIn_1 : decode cX7_isIn 1 = .ok (.iload_n 1, 1) := by decide +kernel
theorem dX7_isIn_2 : decode cX7_isIn 2 = .ok (.if_icmp .lt 12, 3) := by decide +kernel
theorem dX7_isIn_5 : decode cX7_isIn 5 = .ok (.iload_n 0, 1) := by decide +kernel
theorem dX7_isIn_6 : decode cX7_isIn 6 = .ok (.iload_n 2, 1) := by decide +kernel
theorem dX7_isIn_7 : decode cX7_isIn 7 = .ok (.if_icmp .gt 7, 3) := by decide +kernel
theorem dX7_isIn_10 : decode cX7_isIn 10 = .ok (.iconst 1, 1) := by decide +kernel
theorem dX7_isIn_11 : decode cX7_isIn 11 = .ok (.goto 4, 3) := by decide +kernel
theorem dX7_isIn_14 : decode cX7_isIn 14 = .ok (.iconst 0, 1) := by decide +kernel
theorem dX7_isIn_15 : decode cX7_isIn 15 = .ok (.ireturn, 1) := by decide +kernel
set_option maxRecDepth 20000 in
theorem ggX7_isBarrel_X7_isIn : GoodIn wsX7_isBarrel wsX7_isIn := goodIn_r _ [5] (by decide +kernel) (by decide +kernel)
set_option maxRecDepth 20000 in
theorem gX7_isBarrel_X7_isIn : GoodIn wsX7_isBarrel (va_wsS RX7 54 yX7_isIn wsX7_isIn) := goodIn_app (goodIn_of _ (by decide +kernel)) ggX7_isBarrel_X7_isIn
theorem dX7_isBarrel_0 : decode cX7_isBarrel 0 = .ok (.iload_n 1, 1) := by decide +kernel
theorem dX7_isBarrel_1 : decode cX7_isBarrel 1 = .ok (.iconst 0, 1) := by decide +kernel
theorem dX7_isBarrel_2 : decode cX7_isBarrel 2 = .ok (.aload_n 0, 1) := by decide +kernel
theorem dX7_isBarrel_3 : decode cX7_isBarrel 3 = .ok (.getfield 51, 3) := by decide +kernel
theorem dX7_isBarrel_6 : decode cX7_isBarrel 6 = .ok (.iconst 1, 1) := by decide +kernel
theorem dX7_isBarrel_7 : decode cX7_isBarrel 7 = .ok (.isub, 1) := by decide +kernel
theorem dX7_isBarrel_8 : decode cX7_isBarrel 8 = .ok (.invokestatic 54, 3) := by decide +kernel
theorem dX7_isBarrel_11 : decode cX7_isBarrel 11 = .ok (.ireturn, 1) := by decide +kernel
theorem dX7_fx_0 : decode cX7_fx 0 = .ok (.aload_n 0, 1) := by decide +kernel
theorem dX7_fx_1 : decode cX7_fx 1 = .ok (.getfield 13, 3) := by decide +kernel
theorem dX7_fx_4 : decode cX7_fx 4 = .ok (.iconst 3, 1) := by decide +kernel
theorem dX7_fx_5 : decode cX7_fx 5 = .ok (.iload_n 1, 1) := by decide +kernel
theorem dX7_fx_6 : decode cX7_fx 6 = .ok (.imul, 1) := by decide +kernel
theorem dX7_fx_7 : decode cX7_fx 7 = .ok (.iload_n 2, 1) := by decide +kernel
theorem dX7_fx_8 : decode cX7_fx 8 = .ok (.iadd, 1) := by decide +kernel
theorem dX7_fx_9 : decode cX7_fx 9 = .ok (.iaload, 1) := by decide +kernel
theorem dX7_fx_10 : decode cX7_fx 10 = .ok (.ireturn, 1) := by decide +kernel
theorem dX7_ba_0 : decode cX7_ba 0 = .ok (.aload_n 0, 1) := by decide +kernel
theorem dX7_ba_1 : decode cX7_ba 1 = .ok (.getfield 16, 3) := by decide +kernel
theorem dX7_ba_4 : decode cX7_ba 4 = .ok (.iconst 5, 1) := by decide +kernel
theorem dX7_ba_5 : decode cX7_ba 5 = .ok (.iload_n 1, 1) := by decide +kernel
theorem dX7_ba_6 : decode cX7_ba 6 = .ok (.imul, 1) := by decide +kernel
theorem dX7_ba_7 : decode cX7_ba 7 = .ok (.iload_n 2, 1) := by decide +kernel
theorem dX7_ba_8 : decode cX7_ba 8 = .ok (.iadd, 1) := by decide +kernel
theorem dX7_ba_9 : decode cX7_ba 9 = .ok (.iaload, 1) := by decide +kernel
theorem dX7_ba_10 : decode cX7_ba 10 = .ok (.ireturn, 1) := by decide +kernel
theorem dX7_set_0 : decode cX7_set 0 = .ok (.aload_n 0, 1) := by decide +kernel
theorem dX7_set_1 : decode cX7_set 1 = .ok (.getfield 16, 3) := by decide +kernel
theorem dX7_set_4 : decode cX7_set 4 = .ok (.iconst 5, 1) := by decide +kernel
theorem dX7_set_5 : decode cX7_set 5 = .ok (.iload_n 1, 1) := by decide +kernel
theorem dX7_set_6 : decode cX7_set 6 = .ok (.imul, 1) := by decide +kernel
theorem dX7_set_7 : decode cX7_set 7 = .ok (.iload_n 2, 1) := by decide +kernel
theorem dX7_set_8 : decode cX7_set 8 = .ok (.iadd, 1) := by decide +kernel
theorem dX7_set_9 : decode cX7_set 9 = .ok (.iload_n 3, 1) := by decide +kernel
theorem dX7_set_10 : decode cX7_set 10 = .ok (.iastore, 1) := by decide +kernel
theorem dX7_set_11 : decode cX7_set 11 = .ok (.return_, 1) := by decide +kernel
set_option maxRecDepth 20000 in
theorem ggX7_floats_X7_ba : GoodIn wsX7_floats wsX7_ba := goodIn_r _ [5, 6, 7, 8, 9, 10, 11, 12, 13, 14, 15, 16, 17, 18, 19, 20, 21, 22, 23, 24] (by decide +kernel) (by decide +kernel)
set_option maxRecDepth 20000 in
theorem gX7_floats_X7_ba : GoodIn wsX7_floats (wsV RX7 58 RX7 yX7_ba wsX7_ba) := goodIn_app (goodIn_of _ (by decide +kernel)) ggX7_floats_X7_ba
theorem dX7_floats_0 : decode cX7_floats 0 = .ok (.aload_n 0, 1) := by decide +kernel
theorem dX7_floats_1 : decode cX7_floats 1 = .ok (.iload_n 1, 1) := by decide +kernel
theorem dX7_floats_2 : decode cX7_floats 2 = .ok (.iconst 2, 1) := by decide +kernel
theorem dX7_floats_3 : decode cX7_floats 3 = .ok (.invokevirtual 58, 3) := by decide +kernel
theorem dX7_floats_6 : decode cX7_floats 6 = .ok (.ifCond .ne 7, 3) := by decide +kernel
theorem dX7_floats_9 : decode cX7_floats 9 = .ok (.iconst 1, 1) := by decide +kernel
theorem dX7_floats_10 : decode cX7_floats 10 = .ok (.goto 4, 3) := by decide +kernel
theorem dX7_floats_13 : decode cX7_floats 13 = .ok (.iconst 0, 1) := by decide +kernel
theorem dX7_floats_14 : decode cX7_floats 14 = .ok (.ireturn, 1) := by decide +kernel
theorem dX7_pair_0 : decode cX7_pair 0 = .ok (.bipush 24, 2) := by decide +kernel
theorem dX7_pair_2 : decode cX7_pair 2 = .ok (.iload_n 0, 1) := by decide +kernel
theorem dX7_pair_3 : decode cX7_pair 3 = .ok (.iload_n 1, 1) := by decide +kernel
theorem dX7_pair_4 : decode cX7_pair 4 = .ok (.invokestatic 62, 3) := by decide +kernel
theorem dX7_pair_7 : decode cX7_pair 7 = .ok (.imul, 1) := by decide +kernel
theorem dX7_pair_8 : decode cX7_pair 8 = .ok (.iload_n 0, 1) := by decide +kernel
theorem dX7_pair_9 : decode cX7_pair 9 = .ok (.iload_n 1, 1) := by decide +kernel
theorem dX7_pair_10 : decode cX7_pair 10 = .ok (.invokestatic 67, 3) := by decide +kernel
theorem dX7_pair_13 : decode cX7_pair 13 = .ok (.iadd, 1) := by decide +kernel
theorem dX7_pair_14 : decode cX7_pair 14 = .ok (.ireturn, 1) := by decide +kernel
set_option maxRecDepth 20000 in
theorem ggX7_isTied_X7_pair : GoodIn wsX7_isTied wsX7_pair := goodIn_r _ [5, 6, 7, 8, 9, 10, 11, 12] (by decide +kernel) (by decide +kernel)
set_option maxRecDepth 20000 in
theorem gX7_isTied_X7_pair : GoodIn wsX7_isTied (va_wsS RX7 70 yX7_pair wsX7_pair) := goodIn_app (goodIn_of _ (by decide +kernel)) ggX7_isTied_X7_pair
theorem dX7_isTied_0 : decode cX7_isTied 0 = .ok (.aload_n 0, 1) := by decide +kernel
theorem dX7_isTied_1 : decode cX7_isTied 1 = .ok (.getfield 19, 3) := by decide +kernel
theorem dX7_isTied_4 : decode cX7_isTied 4 = .ok (.iload_n 1, 1) := by decide +kernel
theorem dX7_isTied_5 : decode cX7_isTied 5 = .ok (.iload_n 2, 1) := by decide +kernel
theorem dX7_isTied_6 : decode cX7_isTied 6 = .ok (.invokestatic 70, 3) := by decide +kernel
theorem dX7_isTied_9 : decode cX7_isTied 9 = .ok (.iaload, 1) := by decide +kernel
theorem dX7_isTied_10 : decode cX7_isTied 10 = .ok (.ifCond .le 7, 3) := by decide +kernel
theorem dX7_isTied_13 : decode cX7_isTied 13 = .ok (.iconst 1, 1) := by decide +kernel
theorem dX7_isTied_14 : decode cX7_isTied 14 = .ok (.goto 4, 3) := by decide +kernel
theorem dX7_isTied_17 : decode cX7_isTied 17 = .ok (.iconst 0, 1) := by decide +kernel
theorem dX7_isTied_18 : decode cX7_isTied 18 = .ok (.ireturn, 1) := by decide +kernel
set_option maxRecDepth 20000 in
theorem ggX7_addWater_X7_isIn : GoodIn wsX7_addWater wsX7_isIn := goodIn_r _ [12] (by decide +kernel) (by decide +kernel)
set_option maxRecDepth 20000 in
theorem gX7_addWater_X7_isIn : GoodIn wsX7_addWater (va_wsS RX7 54 yX7_isIn wsX7_isIn) := goodIn_app (goodIn_of _ (by decide +kernel)) ggX7_addWater_X7_isIn
set_option maxRecDepth 20000 in
theorem ggX7_addWater_X7_fail : GoodIn wsX7_addWater wsX7_fail := goodIn_r _ [16, 1, 17, 18, 19, 20, 21, 22, 23, 24, 25, 26, 27, 28, 29, 30, 31, 32, 33, 34] (by decide +kernel) (by decide +kernel)
set_option maxRecDepth 20000 in
theorem gX7_addWater_X7_fail : GoodIn wsX7_addWater (wsV RX7 73 RX7 yX7_fail wsX7_fail) := goodIn_app (goodIn_of _ (by decide +kernel)) ggX7_addWater_X7_fail
theorem dX7_addWater_0 : decode cX7_addWater 0 = .ok (.aload_n 0, 1) := by decide +kernel
theorem dX7_addWater_1 : decode cX7_addWater 1 = .ok (.iconst 0, 1) := by decide +kernel
theorem dX7_addWater_2 : decode cX7_addWater 2 = .ok (.putfield 47, 3) := by decide +kernel
theorem dX7_addWater_5 : decode cX7_addWater 5 = .ok (.iload_n 1, 1) := by decide +kernel
theorem dX7_addWater_6 : decode cX7_addWater 6 = .ok (.iconst 0, 1) := by decide +kernel
theorem dX7_addWater_7 : decode cX7_addWater 7 = .ok (.bipush 29, 2) := by decide +kernel
theorem dX7_addWater_9 : decode cX7_addWater 9 = .ok (.invokestatic 54, 3) := by decide +kernel
theorem dX7_addWater_12 : decode cX7_addWater 12 = .ok (.ifCond .eq 71, 3) := by decide +kernel
theorem dX7_addWater_15 : decode cX7_addWater 15 = .ok (.iload_n 2, 1) := by decide +kernel
theorem dX7_addWater_16 : decode cX7_addWater 16 = .ok (.iconst 0, 1) := by decide +kernel
theorem dX7_addWater_17 : decode cX7_addWater 17 = .ok (.bipush 19, 2) := by decide +kernel
theorem dX7_addWater_19 : decode cX7_addWater 19 = .ok (.invokestatic 54, 3) := by decide +kernel
theorem dX7_addWater_22 : decode cX7_addWater 22 = .ok (.ifCond .eq 61, 3) := by decide +kernel
theorem dX7_addWater_25 : decode cX7_addWater 25 = .ok (.iload_n 3, 1) := by decide +kernel
theorem dX7_addWater_26 : decode cX7_addWater 26 = .ok (.iconst 1, 1) := by decide +kernel
theorem dX7_addWater_27 : decode cX7_addWater 27 = .ok (.bipush 30, 2) := by decide +kernel
theorem dX7_addWater_29 : decode cX7_addWater 29 = .ok (.iload_n 1, 1) := by decide +kernel
theorem dX7_addWater_30 : decode cX7_addWater 30 = .ok (.isub, 1) := by decide +kernel
theorem dX7_addWater_31 : decode cX7_addWater 31 = .ok (.invokestatic 54, 3) := by decide +kernel
theorem dX7_addWater_34 : decode cX7_addWater 34 = .ok (.ifCond .eq 49, 3) := by decide +kernel
theorem dX7_addWater_37 : decode cX7_addWater 37 = .ok (.iload 4, 2) := by decide +kernel
theorem dX7_addWater_39 : decode cX7_addWater 39 = .ok (.iconst 1, 1) := by decide +kernel
theorem dX7_addWater_40 : decode cX7_addWater 40 = .ok (.bipush 20, 2) := by decide +kernel
theorem dX7_addWater_42 : decode cX7_addWater 42 = .ok (.iload_n 2, 1) := by decide +kernel
theorem dX7_addWater_43 : decode cX7_addWater 43 = .ok (.isub, 1) := by decide +kernel
theorem dX7_addWater_44 : decode cX7_addWater 44 = .ok (.invokestatic 54, 3) := by decide +kernel
theorem dX7_addWater_47 : decode cX7_addWater 47 = .ok (.ifCond .eq 36, 3) := by decide +kernel
theorem dX7_addWater_50 : decode cX7_addWater 50 = .ok (.iload 5, 2) := by decide +kernel
theorem dX7_addWater_52 : decode cX7_addWater 52 = .ok (.bipush (-2), 2) := by decide +kernel
theorem dX7_addWater_54 : decode cX7_addWater 54 = .ok (.iconst 2, 1) := by decide +kernel
theorem dX7_addWater_55 : decode cX7_addWater 55 = .ok (.invokestatic 54, 3) := by decide +kernel
theorem dX7_addWater_58 : decode cX7_addWater 58 = .ok (.ifCond .eq 25, 3) := by decide +kernel
theorem dX7_addWater_61 : decode cX7_addWater 61 = .ok (.iload 6, 2) := by decide +kernel
theorem dX7_addWater_63 : decode cX7_addWater 63 = .ok (.bipush (-2), 2) := by decide +kernel
theorem dX7_addWater_65 : decode cX7_addWater 65 = .ok (.iconst 2, 1) := by decide +kernel
theorem dX7_addWater_66 : decode cX7_addWater 66 = .ok (.invokestatic 54, 3) := by decide +kernel
theorem dX7_addWater_69 : decode cX7_addWater 69 = .ok (.ifCond .eq 14, 3) := by decide +kernel
theorem dX7_addWater_72 : decode cX7_addWater 72 = .ok (.iload 7, 2) := by decide +kernel
theorem dX7_addWater_74 : decode cX7_addWater 74 = .ok (.iconst 0, 1) := by decide +kernel
theorem dX7_addWater_75 : decode cX7_addWater 75 = .ok (.bipush 20, 2) := by decide +kernel
theorem dX7_addWater_77 : decode cX7_addWater 77 = .ok (.invokestatic 54, 3) := by decide +kernel
theorem dX7_addWater_80 : decode cX7_addWater 80 = .ok (.ifCond .ne 9, 3) := by decide +kernel
theorem dX7_addWater_83 : decode cX7_addWater 83 = .ok (.aload_n 0, 1) := by decide +kernel
theorem dX7_addWater_84 : decode cX7_addWater 84 = .ok (.iconst 1, 1) := by decide +kernel
theorem dX7_addWater_85 : decode cX7_addWater 85 = .ok (.invokevirtual 73, 3) := by decide +kernel
theorem dX7_addWater_88 : decode cX7_addWater 88 = .ok (.ireturn, 1) := by decide +kernel
theorem dX7_addWater_89 : decode cX7_addWater 89 = .ok (.aload_n 0, 1) := by decide +kernel
theorem dX7_addWater_90 : decode cX7_addWater 90 = .ok (.getfield 77, 3) := by decide +kernel
theorem dX7_addWater_93 : decode cX7_addWater 93 = .ok (.bipush 8, 2) := by decide +kernel
theorem dX7_addWater_95 : decode cX7_addWater 95 = .ok (.if_icmp .ne 9, 3) := by decide +kernel
theorem dX7_addWater_98 : decode cX7_addWater 98 = .ok (.aload_n 0, 1) := by decide +kernel
theorem dX7_addWater_99 : decode cX7_addWater 99 = .ok (.iconst 2, 1) := by decide +kernel
theorem dX7_addWater_100 : decode cX7_addWater 100 = .ok (.invokevirtual 73, 3) := by decide +kernel
theorem dX7_addWater_103 : decode cX7_addWater 103 = .ok (.ireturn, 1) := by decide +kernel
theorem dX7_addWater_104 : decode cX7_addWater 104 = .ok (.bipush 7, 2) := by decide +kernel
theorem dX7_addWater_106 : decode cX7_addWater 106 = .ok (.newarray .int, 2) := by decide +kernel
theorem dX7_addWater_108 : decode cX7_addWater 108 = .ok (.dup, 1) := by decide +kernel
theorem dX7_addWater_109 : decode cX7_addWater 109 = .ok (.iconst 0, 1) := by decide +kernel
theorem dX7_addWater_110 : decode cX7_addWater 110 = .ok (.iload_n 1, 1) := by decide +kernel
theorem dX7_addWater_111 : decode cX7_addWater 111 = .ok (.iastore, 1) := by decide +kernel
theorem dX7_addWater_112 : decode cX7_addWater 112 = .ok (.dup, 1) := by decide +kernel
theorem dX7_addWater_113 : decode cX7_addWater 113 = .ok (.iconst 1, 1) := by decide +kernel
theorem dX7_addWater_114 : decode cX7_addWater 114 = .ok (.iload_n 2, 1) := by decide +kernel
theorem dX7_addWater_115 : decode cX7_addWater 115 = .ok (.iastore, 1) := by decide +kernel
theorem dX7_addWater_116 : decode cX7_addWater 116 = .ok (.dup, 1) := by decide +kernel
theorem dX7_addWater_117 : decode cX7_addWater 117 = .ok (.iconst 2, 1) := by decide +kernel
theorem dX7_addWater_118 : decode cX7_addWater 118 = .ok (.iload_n 3, 1) := by decide +kernel
theorem dX7_addWater_119 : decode cX7_addWater 119 = .ok (.iastore, 1) := by decide +kernel
theorem dX7_addWater_120 : decode cX7_addWater 120 = .ok (.dup, 1) := by decide +kernel
theorem dX7_addWater_121 : decode cX7_addWater 121 = .ok (.iconst 3, 1) := by decide +kernel
theorem dX7_addWater_122 : decode cX7_addWater 122 = .ok (.iload 4, 2) := by decide +kernel
theorem dX7_addWater_124 : decode cX7_addWater 124 = .ok (.iastore, 1) := by decide +kernel
theorem dX7_addWater_125 : decode cX7_addWater 125 = .ok (.dup, 1) := by decide +kernel
theorem dX7_addWater_126 : decode cX7_addWater 126 = .ok (.iconst 4, 1) := by decide +kernel
theorem dX7_addWater_127 : decode cX7_addWater 127 = .ok (.iload 5, 2) := by decide +kernel
theorem dX7_addWater_129 : decode cX7_addWater 129 = .ok (.iastore, 1) := by decide +kernel
theorem dX7_addWater_130 : decode cX7_addWater 130 = .ok (.dup, 1) := by decide +kernel
theorem dX7_addWater_131 : decode cX7_addWater 131 = .ok (.iconst 5, 1) := by decide +kernel
theorem dX7_addWater_132 : decode cX7_addWater 132 = .ok (.iload 6, 2) := by decide +kernel
theorem dX7_addWater_134 : decode cX7_addWater 134 = .ok (.iastore, 1) := by decide +kernel
theorem dX7_addWater_135 : decode cX7_addWater 135 = .ok (.dup, 1) := by decide +kernel
theorem dX7_addWater_136 : decode cX7_addWater 136 = .ok (.bipush 6, 2) := by decide +kernel
theorem dX7_addWater_138 : decode cX7_addWater 138 = .ok (.iload 7, 2) := by decide +kernel
theorem dX7_addWater_140 : decode cX7_addWater 140 = .ok (.iastore, 1) := by decide +kernel
theorem dX7_addWater_141 : decode cX7_addWater 141 = .ok (.astore 8, 2) := by decide +kernel
theorem dX7_addWater_143 : decode cX7_addWater 143 = .ok (.aload 8, 2) := by decide +kernel
theorem dX7_addWater_145 : decode cX7_addWater 145 = .ok (.iconst 0, 1) := by decide +kernel
theorem dX7_addWater_146 : decode cX7_addWater 146 = .ok (.aload_n 0, 1) := by decide +kernel
theorem dX7_addWater_147 : decode cX7_addWater 147 = .ok (.getfield 9, 3) := by decide +kernel
theorem dX7_addWater_150 : decode cX7_addWater 150 = .ok (.bipush 7, 2) := by decide +kernel
theorem dX7_addWater_152 : decode cX7_addWater 152 = .ok (.aload_n 0, 1) := by decide +kernel
theorem dX7_addWater_153 : decode cX7_addWater 153 = .ok (.getfield 77, 3) := by decide +kernel
theorem dX7_addWater_156 : decode cX7_addWater 156 = .ok (.imul, 1) := by decide +kernel
theorem dX7_addWater_157 : decode cX7_addWater 157 = .ok (.bipush 7, 2) := by decide +kernel
theorem dX7_addWater_159 : decode cX7_addWater 159 = .ok (.invokestatic 80, 3) := by decide +kernel
theorem dX7_addWater_162 : decode cX7_addWater 162 = .ok (.aload_n 0, 1) := by decide +kernel
theorem dX7_addWater_163 : decode cX7_addWater 163 = .ok (.dup, 1) := by decide +kernel
theorem dX7_addWater_164 : decode cX7_addWater 164 = .ok (.getfield 77, 3) := by decide +kernel
theorem dX7_addWater_167 : decode cX7_addWater 167 = .ok (.iconst 1, 1) := by decide +kernel
theorem dX7_addWater_168 : decode cX7_addWater 168 = .ok (.iadd, 1) := by decide +kernel
theorem dX7_addWater_169 : decode cX7_addWater 169 = .ok (.putfield 77, 3) := by decide +kernel
theorem dX7_addWater_172 : decode cX7_addWater 172 = .ok (.aload_n 0, 1) := by decide +kernel
theorem dX7_addWater_173 : decode cX7_addWater 173 = .ok (.getfield 77, 3) := by decide +kernel
theorem dX7_addWater_176 : decode cX7_addWater 176 = .ok (.iconst 1, 1) := by decide +kernel
theorem dX7_addWater_177 : decode cX7_addWater 177 = .ok (.isub, 1) := by decide +kernel
theorem dX7_addWater_178 : decode cX7_addWater 178 = .ok (.ireturn, 1) := by decide +kernel
set_option maxRecDepth 20000 in
theorem ggX7_waterAt_X7_isIn : GoodIn wsX7_waterAt wsX7_isIn := goodIn_r _ [6] (by decide +kernel) (by decide +kernel)
set_option maxRecDepth 20000 in
theorem gX7_waterAt_X7_isIn : GoodIn wsX7_waterAt (va_wsS RX7 54 yX7_isIn wsX7_isIn) := goodIn_app (goodIn_of _ (by decide +kernel)) ggX7_waterAt_X7_isIn
theorem dX7_waterAt_0 : decode cX7_waterAt 0 = .ok (.aload_n 0, 1) := by decide +kernel
theorem dX7_waterAt_1 : decode cX7_waterAt 1 = .ok (.getfield 77, 3) := by decide +kernel
theorem dX7_waterAt_4 : decode cX7_waterAt 4 = .ok (.iconst 1, 1) := by decide +kernel
theorem dX7_waterAt_5 : decode cX7_waterAt 5 = .ok (.isub, 1) := by decide +kernel
theorem dX7_waterAt_6 : decode cX7_waterAt 6 = .ok (.istore_n 3, 1) := by decide +kernel
theorem dX7_waterAt_7 : decode cX7_waterAt 7 = .ok (.iload_n 3, 1) := by decide +kernel
theorem dX7_waterAt_8 : decode cX7_waterAt 8 = .ok (.ifCond .lt 73, 3) := by decide +kernel
theorem dX7_waterAt_11 : decode cX7_waterAt 11 = .ok (.bipush 7, 2) := by decide +kernel
theorem dX7_waterAt_13 : decode cX7_waterAt 13 = .ok (.iload_n 3, 1) := by decide +kernel
theorem dX7_waterAt_14 : decode cX7_waterAt 14 = .ok (.imul, 1) := by decide +kernel
theorem dX7_waterAt_15 : decode cX7_waterAt 15 = .ok (.istore 4, 2) := by decide +kernel
theorem dX7_waterAt_17 : decode cX7_waterAt 17 = .ok (.iload_n 1, 1) := by decide +kernel
theorem dX7_waterAt_18 : decode cX7_waterAt 18 = .ok (.aload_n 0, 1) := by decide +kernel
theorem dX7_waterAt_19 : decode cX7_waterAt 19 = .ok (.getfield 9, 3) := by decide +kernel
theorem dX7_waterAt_22 : decode cX7_waterAt 22 = .ok (.iload 4, 2) := by decide +kernel
theorem dX7_waterAt_24 : decode cX7_waterAt 24 = .ok (.iaload, 1) := by decide +kernel
theorem dX7_waterAt_25 : decode cX7_waterAt 25 = .ok (.isub, 1) := by decide +kernel
theorem dX7_waterAt_26 : decode cX7_waterAt 26 = .ok (.iconst 0, 1) := by decide +kernel
theorem dX7_waterAt_27 : decode cX7_waterAt 27 = .ok (.aload_n 0, 1) := by decide +kernel
theorem dX7_waterAt_28 : decode cX7_waterAt 28 = .ok (.getfield 9, 3) := by decide +kernel
theorem dX7_waterAt_31 : decode cX7_waterAt 31 = .ok (.iload 4, 2) := by decide +kernel
theorem dX7_waterAt_33 : decode cX7_waterAt 33 = .ok (.iconst 2, 1) := by decide +kernel
theorem dX7_waterAt_34 : decode cX7_waterAt 34 = .ok (.iadd, 1) := by decide +kernel
theorem dX7_waterAt_35 : decode cX7_waterAt 35 = .ok (.iaload, 1) := by decide +kernel
theorem dX7_waterAt_36 : decode cX7_waterAt 36 = .ok (.iconst 1, 1) := by decide +kernel
theorem dX7_waterAt_37 : decode cX7_waterAt 37 = .ok (.isub, 1) := by decide +kernel
theorem dX7_waterAt_38 : decode cX7_waterAt 38 = .ok (.invokestatic 54, 3) := by decide +kernel
theorem dX7_waterAt_41 : decode cX7_waterAt 41 = .ok (.ifCond .eq 34, 3) := by decide +kernel
theorem dX7_waterAt_44 : decode cX7_waterAt 44 = .ok (.iload_n 2, 1) := by decide +kernel
theorem dX7_waterAt_45 : decode cX7_waterAt 45 = .ok (.aload_n 0, 1) := by decide +kernel
theorem dX7_waterAt_46 : decode cX7_waterAt 46 = .ok (.getfield 9, 3) := by decide +kernel
theorem dX7_waterAt_49 : decode cX7_waterAt 49 = .ok (.iload 4, 2) := by decide +kernel
theorem dX7_waterAt_51 : decode cX7_waterAt 51 = .ok (.iconst 1, 1) := by decide +kernel
theorem dX7_waterAt_52 : decode cX7_waterAt 52 = .ok (.iadd, 1) := by decide +kernel
theorem dX7_waterAt_53 : decode cX7_waterAt 53 = .ok (.iaload, 1) := by decide +kernel
theorem dX7_waterAt_54 : decode cX7_waterAt 54 = .ok (.isub, 1) := by decide +kernel
theorem dX7_waterAt_55 : decode cX7_waterAt 55 = .ok (.iconst 0, 1) := by decide +kernel
theorem dX7_waterAt_56 : decode cX7_waterAt 56 = .ok (.aload_n 0, 1) := by decide +kernel
theorem dX7_waterAt_57 : decode cX7_waterAt 57 = .ok (.getfield 9, 3) := by decide +kernel
theorem dX7_waterAt_60 : decode cX7_waterAt 60 = .ok (.iload 4, 2) := by decide +kernel
theorem dX7_waterAt_62 : decode cX7_waterAt 62 = .ok (.iconst 3, 1) := by decide +kernel
theorem dX7_waterAt_63 : decode cX7_waterAt 63 = .ok (.iadd, 1) := by decide +kernel
theorem dX7_waterAt_64 : decode cX7_waterAt 64 = .ok (.iaload, 1) := by decide +kernel
theorem dX7_waterAt_65 : decode cX7_waterAt 65 = .ok (.iconst 1, 1) := by decide +kernel
theorem dX7_waterAt_66 : decode cX7_waterAt 66 = .ok (.isub, 1) := by decide +kernel
theorem dX7_waterAt_67 : decode cX7_waterAt 67 = .ok (.invokestatic 54, 3) := by decide +kernel
theorem dX7_waterAt_70 : decode cX7_waterAt 70 = .ok (.ifCond .eq 5, 3) := by decide +kernel
theorem dX7_waterAt_73 : decode cX7_waterAt 73 = .ok (.iload_n 3, 1) := by decide +kernel
theorem dX7_waterAt_74 : decode cX7_waterAt 74 = .ok (.ireturn, 1) := by decide +kernel
theorem dX7_waterAt_75 : decode cX7_waterAt 75 = .ok (.iinc 3 (-1), 3) := by decide +kernel
theorem dX7_waterAt_78 : decode cX7_waterAt 78 = .ok (.goto (-71), 3) := by decide +kernel
theorem dX7_waterAt_81 : decode cX7_waterAt 81 = .ok (.iconst (-1), 1) := by decide +kernel
theorem dX7_waterAt_82 : decode cX7_waterAt 82 = .ok (.ireturn, 1) := by decide +kernel
set_option maxRecDepth 20000 in
theorem ggX7_seaTold_X7_waterAt : GoodIn wsX7_seaTold wsX7_waterAt := goodIn_r _ [6, 7, 1, 8, 9, 5, 10, 11, 12, 13, 14, 15, 16, 17, 18, 19, 20, 21, 22, 23, 24, 25, 26, 27, 28] (by decide +kernel) (by decide +kernel)
set_option maxRecDepth 20000 in
theorem gX7_seaTold_X7_waterAt : GoodIn wsX7_seaTold (wsV RX7 86 RX7 yX7_waterAt wsX7_waterAt) := goodIn_app (goodIn_of _ (by decide +kernel)) ggX7_seaTold_X7_waterAt
theorem dX7_seaTold_0 : decode cX7_seaTold 0 = .ok (.aload_n 0, 1) := by decide +kernel
theorem dX7_seaTold_1 : decode cX7_seaTold 1 = .ok (.iload_n 1, 1) := by decide +kernel
theorem dX7_seaTold_2 : decode cX7_seaTold 2 = .ok (.iload_n 2, 1) := by decide +kernel
theorem dX7_seaTold_3 : decode cX7_seaTold 3 = .ok (.invokevirtual 86, 3) := by decide +kernel
theorem dX7_seaTold_6 : decode cX7_seaTold 6 = .ok (.iconst (-1), 1) := by decide +kernel
theorem dX7_seaTold_7 : decode cX7_seaTold 7 = .ok (.if_icmp .ne 7, 3) := by decide +kernel
theorem dX7_seaTold_10 : decode cX7_seaTold 10 = .ok (.iconst 0, 1) := by decide +kernel
theorem dX7_seaTold_11 : decode cX7_seaTold 11 = .ok (.goto 21, 3) := by decide +kernel
theorem dX7_seaTold_14 : decode cX7_seaTold 14 = .ok (.aload_n 0, 1) := by decide +kernel
theorem dX7_seaTold_15 : decode cX7_seaTold 15 = .ok (.getfield 9, 3) := by decide +kernel
theorem dX7_seaTold_18 : decode cX7_seaTold 18 = .ok (.bipush 7, 2) := by decide +kernel
theorem dX7_seaTold_20 : decode cX7_seaTold 20 = .ok (.aload_n 0, 1) := by decide +kernel
theorem dX7_seaTold_21 : decode cX7_seaTold 21 = .ok (.iload_n 1, 1) := by decide +kernel
theorem dX7_seaTold_22 : decode cX7_seaTold 22 = .ok (.iload_n 2, 1) := by decide +kernel
theorem dX7_seaTold_23 : decode cX7_seaTold 23 = .ok (.invokevirtual 86, 3) := by decide +kernel
theorem dX7_seaTold_26 : decode cX7_seaTold 26 = .ok (.imul, 1) := by decide +kernel
theorem dX7_seaTold_27 : decode cX7_seaTold 27 = .ok (.iconst 4, 1) := by decide +kernel
theorem dX7_seaTold_28 : decode cX7_seaTold 28 = .ok (.iadd, 1) := by decide +kernel
theorem dX7_seaTold_29 : decode cX7_seaTold 29 = .ok (.iload_n 3, 1) := by decide +kernel
theorem dX7_seaTold_30 : decode cX7_seaTold 30 = .ok (.iadd, 1) := by decide +kernel
theorem dX7_seaTold_31 : decode cX7_seaTold 31 = .ok (.iaload, 1) := by decide +kernel
theorem dX7_seaTold_32 : decode cX7_seaTold 32 = .ok (.ireturn, 1) := by decide +kernel
set_option maxRecDepth 20000 in
theorem ggX7_sea_X7_isIn : GoodIn wsX7_sea wsX7_isIn := goodIn_r _ [6] (by decide +kernel) (by decide +kernel)
set_option maxRecDepth 20000 in
theorem gX7_sea_X7_isIn : GoodIn wsX7_sea (va_wsS RX7 54 yX7_isIn wsX7_isIn) := goodIn_app (goodIn_of _ (by decide +kernel)) ggX7_sea_X7_isIn
set_option maxRecDepth 20000 in
theorem ggX7_sea_X7_fail : GoodIn wsX7_sea wsX7_fail := goodIn_r _ [10, 1, 30, 31, 32, 33, 34, 35, 36, 37, 38, 39, 40, 41, 42, 43, 44, 45, 46, 47] (by decide +kernel) (by decide +kernel)
set_option maxRecDepth 20000 in
theorem gX7_sea_X7_fail : GoodIn wsX7_sea (wsV RX7 73 RX7 yX7_fail wsX7_fail) := goodIn_app (goodIn_of _ (by decide +kernel)) ggX7_sea_X7_fail
set_option maxRecDepth 20000 in
theorem ggX7_sea_X7_waterAt : GoodIn wsX7_sea wsX7_waterAt := goodIn_r _ [14, 15, 16, 3, 4, 5, 6, 30, 31, 32, 33, 34, 35, 36, 37, 38, 39, 40, 41, 42, 43, 44, 45, 46, 47] (by decide +kernel) (by decide +kernel)
set_option maxRecDepth 20000 in
theorem gX7_sea_X7_waterAt : GoodIn wsX7_sea (wsV RX7 86 RX7 yX7_waterAt wsX7_waterAt) := goodIn_app (goodIn_of _ (by decide +kernel)) ggX7_sea_X7_waterAt
set_option maxRecDepth 20000 in
theorem ggX7_sea_X7_seaTold : GoodIn wsX7_sea wsX7_seaTold := goodIn_r _ [20, 16, 11, 12, 13, 5, 14, 15, 3, 4, 6, 30, 31, 32, 33, 34, 35, 36, 37, 38, 39, 40, 41, 42, 43, 44, 45, 46, 47] (by decide +kernel) (by decide +kernel)
set_option maxRecDepth 20000 in
theorem gX7_sea_X7_seaTold : GoodIn wsX7_sea (wsV RX7 89 RX7 yX7_seaTold wsX7_seaTold) := goodIn_app (goodIn_of _ (by decide +kernel)) ggX7_sea_X7_seaTold
set_option maxRecDepth 20000 in
theorem ggX7_sea_X7_floats : GoodIn wsX7_sea wsX7_floats := goodIn_r _ [24, 25, 26, 27, 5, 28, 29, 30, 31, 32, 33, 34, 35, 36, 37, 38, 39, 40, 41, 42, 43, 44, 45, 46, 47] (by decide +kernel) (by decide +kernel)
set_option maxRecDepth 20000 in
theorem gX7_sea_X7_floats : GoodIn wsX7_sea (wsV RX7 93 RX7 yX7_floats wsX7_floats) := goodIn_app (goodIn_of _ (by decide +kernel)) ggX7_sea_X7_floats
set_option maxRecDepth 20000 in
theorem ggX7_sea_X7_ba : GoodIn wsX7_sea wsX7_ba := goodIn_r _ [28, 29, 30, 31, 32, 33, 34, 35, 36, 37, 38, 39, 40, 41, 42, 43, 44, 45, 46, 47] (by decide +kernel) (by decide +kernel)
set_option maxRecDepth 20000 in
theorem gX7_sea_X7_ba : GoodIn wsX7_sea (wsV RX7 58 RX7 yX7_ba wsX7_ba) := goodIn_app (goodIn_of _ (by decide +kernel)) ggX7_sea_X7_ba
theorem dX7_sea_0 : decode cX7_sea 0 = .ok (.aload_n 0, 1) := by decide +kernel
theorem dX7_sea_1 : decode cX7_sea 1 = .ok (.iconst 0, 1) := by decide +kernel
theorem dX7_sea_2 : decode cX7_sea 2 = .ok (.putfield 47, 3) := by decide +kernel
theorem dX7_sea_5 : decode cX7_sea 5 = .ok (.iload_n 1, 1) := by decide +kernel
theorem dX7_sea_6 : decode cX7_sea 6 = .ok (.iconst 0, 1) := by decide +kernel
theorem dX7_sea_7 : decode cX7_sea 7 = .ok (.bipush 29, 2) := by decide +kernel
theorem dX7_sea_9 : decode cX7_sea 9 = .ok (.invokestatic 54, 3) := by decide +kernel
theorem dX7_sea_12 : decode cX7_sea 12 = .ok (.ifCond .eq 22, 3) := by decide +kernel
theorem dX7_sea_15 : decode cX7_sea 15 = .ok (.iload_n 2, 1) := by decide +kernel
theorem dX7_sea_16 : decode cX7_sea 16 = .ok (.iconst 0, 1) := by decide +kernel
theorem dX7_sea_17 : decode cX7_sea 17 = .ok (.bipush 19, 2) := by decide +kernel
theorem dX7_sea_19 : decode cX7_sea 19 = .ok (.invokestatic 54, 3) := by decide +kernel
theorem dX7_sea_22 : decode cX7_sea 22 = .ok (.ifCond .eq 12, 3) := by decide +kernel
theorem dX7_sea_25 : decode cX7_sea 25 = .ok (.iload_n 3, 1) := by decide +kernel
theorem dX7_sea_26 : decode cX7_sea 26 = .ok (.iconst 0, 1) := by decide +kernel
theorem dX7_sea_27 : decode cX7_sea 27 = .ok (.iconst 4, 1) := by decide +kernel
theorem dX7_sea_28 : decode cX7_sea 28 = .ok (.invokestatic 54, 3) := by decide +kernel
theorem dX7_sea_31 : decode cX7_sea 31 = .ok (.ifCond .ne 9, 3) := by decide +kernel
theorem dX7_sea_34 : decode cX7_sea 34 = .ok (.aload_n 0, 1) := by decide +kernel
theorem dX7_sea_35 : decode cX7_sea 35 = .ok (.iconst 1, 1) := by decide +kernel
theorem dX7_sea_36 : decode cX7_sea 36 = .ok (.invokevirtual 73, 3) := by decide +kernel
theorem dX7_sea_39 : decode cX7_sea 39 = .ok (.ireturn, 1) := by decide +kernel
theorem dX7_sea_40 : decode cX7_sea 40 = .ok (.iload_n 3, 1) := by decide +kernel
theorem dX7_sea_41 : decode cX7_sea 41 = .ok (.iconst 4, 1) := by decide +kernel
theorem dX7_sea_42 : decode cX7_sea 42 = .ok (.if_icmp .ge 25, 3) := by decide +kernel
theorem dX7_sea_45 : decode cX7_sea 45 = .ok (.iload_n 3, 1) := by decide +kernel
theorem dX7_sea_46 : decode cX7_sea 46 = .ok (.iconst 3, 1) := by decide +kernel
theorem dX7_sea_47 : decode cX7_sea 47 = .ok (.if_icmp .ne 12, 3) := by decide +kernel
theorem dX7_sea_50 : decode cX7_sea 50 = .ok (.aload_n 0, 1) := by decide +kernel
theorem dX7_sea_51 : decode cX7_sea 51 = .ok (.iload_n 1, 1) := by decide +kernel
theorem dX7_sea_52 : decode cX7_sea 52 = .ok (.iload_n 2, 1) := by decide +kernel
theorem dX7_sea_53 : decode cX7_sea 53 = .ok (.invokevirtual 86, 3) := by decide +kernel
theorem dX7_sea_56 : decode cX7_sea 56 = .ok (.goto 10, 3) := by decide +kernel
theorem dX7_sea_59 : decode cX7_sea 59 = .ok (.aload_n 0, 1) := by decide +kernel
theorem dX7_sea_60 : decode cX7_sea 60 = .ok (.iload_n 1, 1) := by decide +kernel
theorem dX7_sea_61 : decode cX7_sea 61 = .ok (.iload_n 2, 1) := by decide +kernel
theorem dX7_sea_62 : decode cX7_sea 62 = .ok (.iload_n 3, 1) := by decide +kernel
theorem dX7_sea_63 : decode cX7_sea 63 = .ok (.invokevirtual 89, 3) := by decide +kernel
theorem dX7_sea_66 : decode cX7_sea 66 = .ok (.ireturn, 1) := by decide +kernel
theorem dX7_sea_67 : decode cX7_sea 67 = .ok (.iconst 0, 1) := by decide +kernel
theorem dX7_sea_68 : decode cX7_sea 68 = .ok (.istore 4, 2) := by decide +kernel
theorem dX7_sea_70 : decode cX7_sea 70 = .ok (.iconst 0, 1) := by decide +kernel
theorem dX7_sea_71 : decode cX7_sea 71 = .ok (.istore 5, 2) := by decide +kernel
theorem dX7_sea_73 : decode cX7_sea 73 = .ok (.iload 5, 2) := by decide +kernel
theorem dX7_sea_75 : decode cX7_sea 75 = .ok (.aload_n 0, 1) := by decide +kernel
theorem dX7_sea_76 : decode cX7_sea 76 = .ok (.getfield 51, 3) := by decide +kernel
theorem dX7_sea_79 : decode cX7_sea 79 = .ok (.if_icmp .ge 50, 3) := by decide +kernel
theorem dX7_sea_82 : decode cX7_sea 82 = .ok (.iload 4, 2) := by decide +kernel
theorem dX7_sea_84 : decode cX7_sea 84 = .ok (.aload_n 0, 1) := by decide +kernel
theorem dX7_sea_85 : decode cX7_sea 85 = .ok (.iload 5, 2) := by decide +kernel
theorem dX7_sea_87 : decode cX7_sea 87 = .ok (.invokevirtual 93, 3) := by decide +kernel
theorem dX7_sea_90 : decode cX7_sea 90 = .ok (.ifCond .eq 29, 3) := by decide +kernel
theorem dX7_sea_93 : decode cX7_sea 93 = .ok (.aload_n 0, 1) := by decide +kernel
theorem dX7_sea_94 : decode cX7_sea 94 = .ok (.iload 5, 2) := by decide +kernel
theorem dX7_sea_96 : decode cX7_sea 96 = .ok (.iconst 3, 1) := by decide +kernel
theorem dX7_sea_97 : decode cX7_sea 97 = .ok (.invokevirtual 58, 3) := by decide +kernel
theorem dX7_sea_100 : decode cX7_sea 100 = .ok (.iload_n 1, 1) := by decide +kernel
theorem dX7_sea_101 : decode cX7_sea 101 = .ok (.if_icmp .ne 18, 3) := by decide +kernel
theorem dX7_sea_104 : decode cX7_sea 104 = .ok (.aload_n 0, 1) := by decide +kernel
theorem dX7_sea_105 : decode cX7_sea 105 = .ok (.iload 5, 2) := by decide +kernel
theorem dX7_sea_107 : decode cX7_sea 107 = .ok (.iconst 4, 1) := by decide +kernel
theorem dX7_sea_108 : decode cX7_sea 108 = .ok (.invokevirtual 58, 3) := by decide +kernel
theorem dX7_sea_111 : decode cX7_sea 111 = .ok (.iload_n 2, 1) := by decide +kernel
theorem dX7_sea_112 : decode cX7_sea 112 = .ok (.if_icmp .ne 7, 3) := by decide +kernel
theorem dX7_sea_115 : decode cX7_sea 115 = .ok (.iconst 1, 1) := by decide +kernel
theorem dX7_sea_116 : decode cX7_sea 116 = .ok (.goto 4, 3) := by decide +kernel
theorem dX7_sea_119 : decode cX7_sea 119 = .ok (.iconst 0, 1) := by decide +kernel
theorem dX7_sea_120 : decode cX7_sea 120 = .ok (.iadd, 1) := by decide +kernel
theorem dX7_sea_121 : decode cX7_sea 121 = .ok (.istore 4, 2) := by decide +kernel
theorem dX7_sea_123 : decode cX7_sea 123 = .ok (.iinc 5 1, 3) := by decide +kernel
theorem dX7_sea_126 : decode cX7_sea 126 = .ok (.goto (-53), 3) := by decide +kernel
theorem dX7_sea_129 : decode cX7_sea 129 = .ok (.iload 4, 2) := by decide +kernel
theorem dX7_sea_131 : decode cX7_sea 131 = .ok (.ireturn, 1) := by decide +kernel
set_option maxRecDepth 20000 in
theorem ggX7_setWind_X7_isIn : GoodIn wsX7_setWind wsX7_isIn := goodIn_r _ [7] (by decide +kernel) (by decide +kernel)
set_option maxRecDepth 20000 in
theorem gX7_setWind_X7_isIn : GoodIn wsX7_setWind (va_wsS RX7 54 yX7_isIn wsX7_isIn) := goodIn_app (goodIn_of _ (by decide +kernel)) ggX7_setWind_X7_isIn
set_option maxRecDepth 20000 in
theorem ggX7_setWind_X7_fail : GoodIn wsX7_setWind wsX7_fail := goodIn_r _ [11, 1, 12, 13, 14, 15, 16, 17, 18, 19, 20, 21, 22, 23, 24, 25, 26, 27, 28, 29] (by decide +kernel) (by decide +kernel)
set_option maxRecDepth 20000 in
theorem gX7_setWind_X7_fail : GoodIn wsX7_setWind (wsV RX7 73 RX7 yX7_fail wsX7_fail) := goodIn_app (goodIn_of _ (by decide +kernel)) ggX7_setWind_X7_fail
theorem dX7_setWind_0 : decode cX7_setWind 0 = .ok (.aload_n 0, 1) := by decide +kernel
theorem dX7_setWind_1 : decode cX7_setWind 1 = .ok (.iconst 0, 1) := by decide +kernel
theorem dX7_setWind_2 : decode cX7_setWind 2 = .ok (.putfield 47, 3) := by decide +kernel
theorem dX7_setWind_5 : decode cX7_setWind 5 = .ok (.iload_n 1, 1) := by decide +kernel
theorem dX7_setWind_6 : decode cX7_setWind 6 = .ok (.bipush (-2), 2) := by decide +kernel
theorem dX7_setWind_8 : decode cX7_setWind 8 = .ok (.iconst 2, 1) := by decide +kernel
theorem dX7_setWind_9 : decode cX7_setWind 9 = .ok (.invokestatic 54, 3) := by decide +kernel
theorem dX7_setWind_12 : decode cX7_setWind 12 = .ok (.ifCond .eq 13, 3) := by decide +kernel
theorem dX7_setWind_15 : decode cX7_setWind 15 = .ok (.iload_n 2, 1) := by decide +kernel
theorem dX7_setWind_16 : decode cX7_setWind 16 = .ok (.bipush (-2), 2) := by decide +kernel
theorem dX7_setWind_18 : decode cX7_setWind 18 = .ok (.iconst 2, 1) := by decide +kernel
theorem dX7_setWind_19 : decode cX7_setWind 19 = .ok (.invokestatic 54, 3) := by decide +kernel
theorem dX7_setWind_22 : decode cX7_setWind 22 = .ok (.ifCond .ne 9, 3) := by decide +kernel
theorem dX7_setWind_25 : decode cX7_setWind 25 = .ok (.aload_n 0, 1) := by decide +kernel
theorem dX7_setWind_26 : decode cX7_setWind 26 = .ok (.iconst 1, 1) := by decide +kernel
theorem dX7_setWind_27 : decode cX7_setWind 27 = .ok (.invokevirtual 73, 3) := by decide +kernel
theorem dX7_setWind_30 : decode cX7_setWind 30 = .ok (.ireturn, 1) := by decide +kernel
theorem dX7_setWind_31 : decode cX7_setWind 31 = .ok (.iconst 5, 1) := by decide +kernel
theorem dX7_setWind_32 : decode cX7_setWind 32 = .ok (.aload_n 0, 1) := by decide +kernel
theorem dX7_setWind_33 : decode cX7_setWind 33 = .ok (.getfield 97, 3) := by decide +kernel
theorem dX7_setWind_36 : decode cX7_setWind 36 = .ok (.iconst 2, 1) := by decide +kernel
theorem dX7_setWind_37 : decode cX7_setWind 37 = .ok (.iadd, 1) := by decide +kernel
theorem dX7_setWind_38 : decode cX7_setWind 38 = .ok (.imul, 1) := by decide +kernel
theorem dX7_setWind_39 : decode cX7_setWind 39 = .ok (.aload_n 0, 1) := by decide +kernel
theorem dX7_setWind_40 : decode cX7_setWind 40 = .ok (.getfield 100, 3) := by decide +kernel
theorem dX7_setWind_43 : decode cX7_setWind 43 = .ok (.iadd, 1) := by decide +kernel
theorem dX7_setWind_44 : decode cX7_setWind 44 = .ok (.iconst 2, 1) := by decide +kernel
theorem dX7_setWind_45 : decode cX7_setWind 45 = .ok (.iadd, 1) := by decide +kernel
theorem dX7_setWind_46 : decode cX7_setWind 46 = .ok (.istore_n 3, 1) := by decide +kernel
theorem dX7_setWind_47 : decode cX7_setWind 47 = .ok (.aload_n 0, 1) := by decide +kernel
theorem dX7_setWind_48 : decode cX7_setWind 48 = .ok (.iload_n 1, 1) := by decide +kernel
theorem dX7_setWind_49 : decode cX7_setWind 49 = .ok (.putfield 97, 3) := by decide +kernel
theorem dX7_setWind_52 : decode cX7_setWind 52 = .ok (.aload_n 0, 1) := by decide +kernel
theorem dX7_setWind_53 : decode cX7_setWind 53 = .ok (.iload_n 2, 1) := by decide +kernel
theorem dX7_setWind_54 : decode cX7_setWind 54 = .ok (.putfield 100, 3) := by decide +kernel
theorem dX7_setWind_57 : decode cX7_setWind 57 = .ok (.iload_n 3, 1) := by decide +kernel
theorem dX7_setWind_58 : decode cX7_setWind 58 = .ok (.ireturn, 1) := by decide +kernel
set_option maxRecDepth 20000 in
theorem ggX7_addBarrel_X7_isIn : GoodIn wsX7_addBarrel wsX7_isIn := goodIn_r _ [13] (by decide +kernel) (by decide +kernel)
set_option maxRecDepth 20000 in
theorem gX7_addBarrel_X7_isIn : GoodIn wsX7_addBarrel (va_wsS RX7 54 yX7_isIn wsX7_isIn) := goodIn_app (goodIn_of _ (by decide +kernel)) ggX7_addBarrel_X7_isIn
set_option maxRecDepth 20000 in
theorem ggX7_addBarrel_X7_fail : GoodIn wsX7_addBarrel wsX7_fail := goodIn_r _ [17, 1, 30, 31, 32, 33, 34, 35, 36, 37, 38, 39, 40, 41, 42, 43, 44, 45, 46, 47] (by decide +kernel) (by decide +kernel)
set_option maxRecDepth 20000 in
theorem gX7_addBarrel_X7_fail : GoodIn wsX7_addBarrel (wsV RX7 73 RX7 yX7_fail wsX7_fail) := goodIn_app (goodIn_of _ (by decide +kernel)) ggX7_addBarrel_X7_fail
set_option maxRecDepth 20000 in
theorem ggX7_addBarrel_X7_fx : GoodIn wsX7_addBarrel wsX7_fx := goodIn_r _ [21, 4, 30, 31, 32, 33, 34, 35, 36, 37, 38, 39, 40, 41, 42, 43, 44, 45, 46, 47] (by decide +kernel) (by decide +kernel)
set_option maxRecDepth 20000 in
theorem gX7_addBarrel_X7_fx : GoodIn wsX7_addBarrel (wsV RX7 103 RX7 yX7_fx wsX7_fx) := goodIn_app (goodIn_of _ (by decide +kernel)) ggX7_addBarrel_X7_fx
set_option maxRecDepth 20000 in
theorem ggX7_addBarrel_X7_floats : GoodIn wsX7_addBarrel wsX7_floats := goodIn_r _ [25, 26, 27, 28, 12, 29, 9, 30, 31, 32, 33, 34, 35, 36, 37, 38, 39, 40, 41, 42, 43, 44, 45, 46, 47] (by decide +kernel) (by decide +kernel)
set_option maxRecDepth 20000 in
theorem gX7_addBarrel_X7_floats : GoodIn wsX7_addBarrel (wsV RX7 93 RX7 yX7_floats wsX7_floats) := goodIn_app (goodIn_of _ (by decide +kernel)) ggX7_addBarrel_X7_floats
set_option maxRecDepth 20000 in
theorem ggX7_addBarrel_X7_ba : GoodIn wsX7_addBarrel wsX7_ba := goodIn_r _ [29, 9, 30, 31, 32, 33, 34, 35, 36, 37, 38, 39, 40, 41, 42, 43, 44, 45, 46, 47] (by decide +kernel) (by decide +kernel)
set_option maxRecDepth 20000 in
theorem gX7_addBarrel_X7_ba : GoodIn wsX7_addBarrel (wsV RX7 58 RX7 yX7_ba wsX7_ba) := goodIn_app (goodIn_of _ (by decide +kernel)) ggX7_addBarrel_X7_ba
theorem dX7_addBarrel_0 : decode cX7_addBarrel 0 = .ok (.aload_n 0, 1) := by decide +kernel
theorem dX7_addBarrel_1 : decode cX7_addBarrel 1 = .ok (.iconst 0, 1) := by decide +kernel
theorem dX7_addBarrel_2 : decode cX7_addBarrel 2 = .ok (.putfield 47, 3) := by decide +kernel
theorem dX7_addBarrel_5 : decode cX7_addBarrel 5 = .ok (.iload_n 1, 1) := by decide +kernel
theorem dX7_addBarrel_6 : decode cX7_addBarrel 6 = .ok (.iconst 0, 1) := by decide +kernel
theorem dX7_addBarrel_7 : decode cX7_addBarrel 7 = .ok (.bipush 7, 2) := by decide +kernel
theorem dX7_addBarrel_9 : decode cX7_addBarrel 9 = .ok (.invokestatic 54, 3) := by decide +kernel
theorem dX7_addBarrel_12 : decode cX7_addBarrel 12 = .ok (.ifCond .eq 34, 3) := by decide +kernel
theorem dX7_addBarrel_15 : decode cX7_addBarrel 15 = .ok (.iload_n 2, 1) := by decide +kernel
theorem dX7_addBarrel_16 : decode cX7_addBarrel 16 = .ok (.iconst 0, 1) := by decide +kernel
theorem dX7_addBarrel_17 : decode cX7_addBarrel 17 = .ok (.bipush 7, 2) := by decide +kernel
theorem dX7_addBarrel_19 : decode cX7_addBarrel 19 = .ok (.invokestatic 54, 3) := by decide +kernel
theorem dX7_addBarrel_22 : decode cX7_addBarrel 22 = .ok (.ifCond .eq 24, 3) := by decide +kernel
theorem dX7_addBarrel_25 : decode cX7_addBarrel 25 = .ok (.iload_n 3, 1) := by decide +kernel
theorem dX7_addBarrel_26 : decode cX7_addBarrel 26 = .ok (.iconst 1, 1) := by decide +kernel
theorem dX7_addBarrel_27 : decode cX7_addBarrel 27 = .ok (.bipush 40, 2) := by decide +kernel
theorem dX7_addBarrel_29 : decode cX7_addBarrel 29 = .ok (.invokestatic 54, 3) := by decide +kernel
theorem dX7_addBarrel_32 : decode cX7_addBarrel 32 = .ok (.ifCond .eq 14, 3) := by decide +kernel
theorem dX7_addBarrel_35 : decode cX7_addBarrel 35 = .ok (.iload 4, 2) := by decide +kernel
theorem dX7_addBarrel_37 : decode cX7_addBarrel 37 = .ok (.iconst 0, 1) := by decide +kernel
theorem dX7_addBarrel_38 : decode cX7_addBarrel 38 = .ok (.bipush 9, 2) := by decide +kernel
theorem dX7_addBarrel_40 : decode cX7_addBarrel 40 = .ok (.invokestatic 54, 3) := by decide +kernel
theorem dX7_addBarrel_43 : decode cX7_addBarrel 43 = .ok (.ifCond .ne 9, 3) := by decide +kernel
theorem dX7_addBarrel_46 : decode cX7_addBarrel 46 = .ok (.aload_n 0, 1) := by decide +kernel
theorem dX7_addBarrel_47 : decode cX7_addBarrel 47 = .ok (.iconst 1, 1) := by decide +kernel
theorem dX7_addBarrel_48 : decode cX7_addBarrel 48 = .ok (.invokevirtual 73, 3) := by decide +kernel
theorem dX7_addBarrel_51 : decode cX7_addBarrel 51 = .ok (.ireturn, 1) := by decide +kernel
theorem dX7_addBarrel_52 : decode cX7_addBarrel 52 = .ok (.iload_n 1, 1) := by decide +kernel
theorem dX7_addBarrel_53 : decode cX7_addBarrel 53 = .ok (.bipush 8, 2) := by decide +kernel
theorem dX7_addBarrel_55 : decode cX7_addBarrel 55 = .ok (.iload_n 2, 1) := by decide +kernel
theorem dX7_addBarrel_56 : decode cX7_addBarrel 56 = .ok (.imul, 1) := by decide +kernel
theorem dX7_addBarrel_57 : decode cX7_addBarrel 57 = .ok (.iadd, 1) := by decide +kernel
theorem dX7_addBarrel_58 : decode cX7_addBarrel 58 = .ok (.istore 5, 2) := by decide +kernel
theorem dX7_addBarrel_60 : decode cX7_addBarrel 60 = .ok (.iconst (-1), 1) := by decide +kernel
theorem dX7_addBarrel_61 : decode cX7_addBarrel 61 = .ok (.istore 6, 2) := by decide +kernel
theorem dX7_addBarrel_63 : decode cX7_addBarrel 63 = .ok (.aload_n 0, 1) := by decide +kernel
theorem dX7_addBarrel_64 : decode cX7_addBarrel 64 = .ok (.getfield 51, 3) := by decide +kernel
theorem dX7_addBarrel_67 : decode cX7_addBarrel 67 = .ok (.bipush 24, 2) := by decide +kernel
theorem dX7_addBarrel_69 : decode cX7_addBarrel 69 = .ok (.if_icmp .ge 7, 3) := by decide +kernel
theorem dX7_addBarrel_72 : decode cX7_addBarrel 72 = .ok (.iconst 1, 1) := by decide +kernel
theorem dX7_addBarrel_73 : decode cX7_addBarrel 73 = .ok (.goto 4, 3) := by decide +kernel
theorem dX7_addBarrel_76 : decode cX7_addBarrel 76 = .ok (.iconst 0, 1) := by decide +kernel
theorem dX7_addBarrel_77 : decode cX7_addBarrel 77 = .ok (.istore 7, 2) := by decide +kernel
theorem dX7_addBarrel_79 : decode cX7_addBarrel 79 = .ok (.aload_n 0, 1) := by decide +kernel
theorem dX7_addBarrel_80 : decode cX7_addBarrel 80 = .ok (.getfield 51, 3) := by decide +kernel
theorem dX7_addBarrel_83 : decode cX7_addBarrel 83 = .ok (.iconst 1, 1) := by decide +kernel
theorem dX7_addBarrel_84 : decode cX7_addBarrel 84 = .ok (.isub, 1) := by decide +kernel
theorem dX7_addBarrel_85 : decode cX7_addBarrel 85 = .ok (.istore 8, 2) := by decide +kernel
theorem dX7_addBarrel_87 : decode cX7_addBarrel 87 = .ok (.iload 8, 2) := by decide +kernel
theorem dX7_addBarrel_89 : decode cX7_addBarrel 89 = .ok (.ifCond .lt 46, 3) := by decide +kernel
theorem dX7_addBarrel_92 : decode cX7_addBarrel 92 = .ok (.iload 7, 2) := by decide +kernel
theorem dX7_addBarrel_94 : decode cX7_addBarrel 94 = .ok (.ifCond .eq 19, 3) := by decide +kernel
theorem dX7_addBarrel_97 : decode cX7_addBarrel 97 = .ok (.aload_n 0, 1) := by decide +kernel
theorem dX7_addBarrel_98 : decode cX7_addBarrel 98 = .ok (.iload 8, 2) := by decide +kernel
theorem dX7_addBarrel_100 : decode cX7_addBarrel 100 = .ok (.iconst 0, 1) := by decide +kernel
theorem dX7_addBarrel_101 : decode cX7_addBarrel 101 = .ok (.invokevirtual 103, 3) := by decide +kernel
theorem dX7_addBarrel_104 : decode cX7_addBarrel 104 = .ok (.iload 5, 2) := by decide +kernel
theorem dX7_addBarrel_106 : decode cX7_addBarrel 106 = .ok (.if_icmp .eq 7, 3) := by decide +kernel
theorem dX7_addBarrel_109 : decode cX7_addBarrel 109 = .ok (.iconst 1, 1) := by decide +kernel
theorem dX7_addBarrel_110 : decode cX7_addBarrel 110 = .ok (.goto 4, 3) := by decide +kernel
theorem dX7_addBarrel_113 : decode cX7_addBarrel 113 = .ok (.iconst 0, 1) := by decide +kernel
theorem dX7_addBarrel_114 : decode cX7_addBarrel 114 = .ok (.istore 7, 2) := by decide +kernel
theorem dX7_addBarrel_116 : decode cX7_addBarrel 116 = .ok (.aload_n 0, 1) := by decide +kernel
theorem dX7_addBarrel_117 : decode cX7_addBarrel 117 = .ok (.iload 8, 2) := by decide +kernel
theorem dX7_addBarrel_119 : decode cX7_addBarrel 119 = .ok (.invokevirtual 93, 3) := by decide +kernel
theorem dX7_addBarrel_122 : decode cX7_addBarrel 122 = .ok (.ifCond .eq 7, 3) := by decide +kernel
theorem dX7_addBarrel_125 : decode cX7_addBarrel 125 = .ok (.iload 8, 2) := by decide +kernel
theorem dX7_addBarrel_127 : decode cX7_addBarrel 127 = .ok (.istore 6, 2) := by decide +kernel
theorem dX7_addBarrel_129 : decode cX7_addBarrel 129 = .ok (.iinc 8 (-1), 3) := by decide +kernel
theorem dX7_addBarrel_132 : decode cX7_addBarrel 132 = .ok (.goto (-45), 3) := by decide +kernel
theorem dX7_addBarrel_135 : decode cX7_addBarrel 135 = .ok (.iload 7, 2) := by decide +kernel
theorem dX7_addBarrel_137 : decode cX7_addBarrel 137 = .ok (.ifCond .ne 9, 3) := by decide +kernel
theorem dX7_addBarrel_140 : decode cX7_addBarrel 140 = .ok (.aload_n 0, 1) := by decide +kernel
theorem dX7_addBarrel_141 : decode cX7_addBarrel 141 = .ok (.iconst 2, 1) := by decide +kernel
theorem dX7_addBarrel_142 : decode cX7_addBarrel 142 = .ok (.invokevirtual 73, 3) := by decide +kernel
theorem dX7_addBarrel_145 : decode cX7_addBarrel 145 = .ok (.ireturn, 1) := by decide +kernel
theorem dX7_addBarrel_146 : decode cX7_addBarrel 146 = .ok (.iconst 3, 1) := by decide +kernel
theorem dX7_addBarrel_147 : decode cX7_addBarrel 147 = .ok (.newarray .int, 2) := by decide +kernel
theorem dX7_addBarrel_149 : decode cX7_addBarrel 149 = .ok (.dup, 1) := by decide +kernel
theorem dX7_addBarrel_150 : decode cX7_addBarrel 150 = .ok (.iconst 0, 1) := by decide +kernel
theorem dX7_addBarrel_151 : decode cX7_addBarrel 151 = .ok (.iload 5, 2) := by decide +kernel
theorem dX7_addBarrel_153 : decode cX7_addBarrel 153 = .ok (.iastore, 1) := by decide +kernel
theorem dX7_addBarrel_154 : decode cX7_addBarrel 154 = .ok (.dup, 1) := by decide +kernel
theorem dX7_addBarrel_155 : decode cX7_addBarrel 155 = .ok (.iconst 1, 1) := by decide +kernel
theorem dX7_addBarrel_156 : decode cX7_addBarrel 156 = .ok (.iload_n 3, 1) := by decide +kernel
theorem dX7_addBarrel_157 : decode cX7_addBarrel 157 = .ok (.iastore, 1) := by decide +kernel
theorem dX7_addBarrel_158 : decode cX7_addBarrel 158 = .ok (.dup, 1) := by decide +kernel
theorem dX7_addBarrel_159 : decode cX7_addBarrel 159 = .ok (.iconst 2, 1) := by decide +kernel
theorem dX7_addBarrel_160 : decode cX7_addBarrel 160 = .ok (.iload 4, 2) := by decide +kernel
theorem dX7_addBarrel_162 : decode cX7_addBarrel 162 = .ok (.iastore, 1) := by decide +kernel
theorem dX7_addBarrel_163 : decode cX7_addBarrel 163 = .ok (.astore 8, 2) := by decide +kernel
theorem dX7_addBarrel_165 : decode cX7_addBarrel 165 = .ok (.aload 8, 2) := by decide +kernel
theorem dX7_addBarrel_167 : decode cX7_addBarrel 167 = .ok (.iconst 0, 1) := by decide +kernel
theorem dX7_addBarrel_168 : decode cX7_addBarrel 168 = .ok (.aload_n 0, 1) := by decide +kernel
theorem dX7_addBarrel_169 : decode cX7_addBarrel 169 = .ok (.getfield 13, 3) := by decide +kernel
theorem dX7_addBarrel_172 : decode cX7_addBarrel 172 = .ok (.iconst 3, 1) := by decide +kernel
theorem dX7_addBarrel_173 : decode cX7_addBarrel 173 = .ok (.aload_n 0, 1) := by decide +kernel
theorem dX7_addBarrel_174 : decode cX7_addBarrel 174 = .ok (.getfield 51, 3) := by decide +kernel
theorem dX7_addBarrel_177 : decode cX7_addBarrel 177 = .ok (.imul, 1) := by decide +kernel
theorem dX7_addBarrel_178 : decode cX7_addBarrel 178 = .ok (.iconst 3, 1) := by decide +kernel
theorem dX7_addBarrel_179 : decode cX7_addBarrel 179 = .ok (.invokestatic 80, 3) := by decide +kernel
theorem dX7_addBarrel_182 : decode cX7_addBarrel 182 = .ok (.iconst 5, 1) := by decide +kernel
theorem dX7_addBarrel_183 : decode cX7_addBarrel 183 = .ok (.newarray .int, 2) := by decide +kernel
theorem dX7_addBarrel_185 : decode cX7_addBarrel 185 = .ok (.dup, 1) := by decide +kernel
theorem dX7_addBarrel_186 : decode cX7_addBarrel 186 = .ok (.iconst 0, 1) := by decide +kernel
theorem dX7_addBarrel_187 : decode cX7_addBarrel 187 = .ok (.iconst 0, 1) := by decide +kernel
theorem dX7_addBarrel_188 : decode cX7_addBarrel 188 = .ok (.iastore, 1) := by decide +kernel
theorem dX7_addBarrel_189 : decode cX7_addBarrel 189 = .ok (.dup, 1) := by decide +kernel
theorem dX7_addBarrel_190 : decode cX7_addBarrel 190 = .ok (.iconst 1, 1) := by decide +kernel
theorem dX7_addBarrel_191 : decode cX7_addBarrel 191 = .ok (.iconst 0, 1) := by decide +kernel
theorem dX7_addBarrel_192 : decode cX7_addBarrel 192 = .ok (.iastore, 1) := by decide +kernel
theorem dX7_addBarrel_193 : decode cX7_addBarrel 193 = .ok (.dup, 1) := by decide +kernel
theorem dX7_addBarrel_194 : decode cX7_addBarrel 194 = .ok (.iconst 2, 1) := by decide +kernel
theorem dX7_addBarrel_195 : decode cX7_addBarrel 195 = .ok (.iconst 0, 1) := by decide +kernel
theorem dX7_addBarrel_196 : decode cX7_addBarrel 196 = .ok (.iastore, 1) := by decide +kernel
theorem dX7_addBarrel_197 : decode cX7_addBarrel 197 = .ok (.dup, 1) := by decide +kernel
theorem dX7_addBarrel_198 : decode cX7_addBarrel 198 = .ok (.iconst 3, 1) := by decide +kernel
theorem dX7_addBarrel_199 : decode cX7_addBarrel 199 = .ok (.iload 6, 2) := by decide +kernel
theorem dX7_addBarrel_201 : decode cX7_addBarrel 201 = .ok (.iconst (-1), 1) := by decide +kernel
theorem dX7_addBarrel_202 : decode cX7_addBarrel 202 = .ok (.if_icmp .ne 7, 3) := by decide +kernel
theorem dX7_addBarrel_205 : decode cX7_addBarrel 205 = .ok (.iconst 0, 1) := by decide +kernel
theorem dX7_addBarrel_206 : decode cX7_addBarrel 206 = .ok (.goto 10, 3) := by decide +kernel
theorem dX7_addBarrel_209 : decode cX7_addBarrel 209 = .ok (.aload_n 0, 1) := by decide +kernel
theorem dX7_addBarrel_210 : decode cX7_addBarrel 210 = .ok (.iload 6, 2) := by decide +kernel
theorem dX7_addBarrel_212 : decode cX7_addBarrel 212 = .ok (.iconst 3, 1) := by decide +kernel
theorem dX7_addBarrel_213 : decode cX7_addBarrel 213 = .ok (.invokevirtual 58, 3) := by decide +kernel
theorem dX7_addBarrel_216 : decode cX7_addBarrel 216 = .ok (.iastore, 1) := by decide +kernel
theorem dX7_addBarrel_217 : decode cX7_addBarrel 217 = .ok (.dup, 1) := by decide +kernel
theorem dX7_addBarrel_218 : decode cX7_addBarrel 218 = .ok (.iconst 4, 1) := by decide +kernel
theorem dX7_addBarrel_219 : decode cX7_addBarrel 219 = .ok (.iload 6, 2) := by decide +kernel
theorem dX7_addBarrel_221 : decode cX7_addBarrel 221 = .ok (.iconst (-1), 1) := by decide +kernel
theorem dX7_addBarrel_222 : decode cX7_addBarrel 222 = .ok (.if_icmp .ne 8, 3) := by decide +kernel
theorem dX7_addBarrel_225 : decode cX7_addBarrel 225 = .ok (.bipush 10, 2) := by decide +kernel
theorem dX7_addBarrel_227 : decode cX7_addBarrel 227 = .ok (.goto 10, 3) := by decide +kernel
theorem dX7_addBarrel_230 : decode cX7_addBarrel 230 = .ok (.aload_n 0, 1) := by decide +kernel
theorem dX7_addBarrel_231 : decode cX7_addBarrel 231 = .ok (.iload 6, 2) := by decide +kernel
theorem dX7_addBarrel_233 : decode cX7_addBarrel 233 = .ok (.iconst 4, 1) := by decide +kernel
theorem dX7_addBarrel_234 : decode cX7_addBarrel 234 = .ok (.invokevirtual 58, 3) := by decide +kernel
theorem dX7_addBarrel_237 : decode cX7_addBarrel 237 = .ok (.iastore, 1) := by decide +kernel
theorem dX7_addBarrel_238 : decode cX7_addBarrel 238 = .ok (.astore 9, 2) := by decide +kernel
theorem dX7_addBarrel_240 : decode cX7_addBarrel 240 = .ok (.aload 9, 2) := by decide +kernel
theorem dX7_addBarrel_242 : decode cX7_addBarrel 242 = .ok (.iconst 0, 1) := by decide +kernel
theorem dX7_addBarrel_243 : decode cX7_addBarrel 243 = .ok (.aload_n 0, 1) := by decide +kernel
theorem dX7_addBarrel_244 : decode cX7_addBarrel 244 = .ok (.getfield 16, 3) := by decide +kernel
theorem dX7_addBarrel_247 : decode cX7_addBarrel 247 = .ok (.iconst 5, 1) := by decide +kernel
theorem dX7_addBarrel_248 : decode cX7_addBarrel 248 = .ok (.aload_n 0, 1) := by decide +kernel
theorem dX7_addBarrel_249 : decode cX7_addBarrel 249 = .ok (.getfield 51, 3) := by decide +kernel
theorem dX7_addBarrel_252 : decode cX7_addBarrel 252 = .ok (.imul, 1) := by decide +kernel
theorem dX7_addBarrel_253 : decode cX7_addBarrel 253 = .ok (.iconst 5, 1) := by decide +kernel
theorem dX7_addBarrel_254 : decode cX7_addBarrel 254 = .ok (.invokestatic 80, 3) := by decide +kernel
theorem dX7_addBarrel_257 : decode cX7_addBarrel 257 = .ok (.aload_n 0, 1) := by decide +kernel
theorem dX7_addBarrel_258 : decode cX7_addBarrel 258 = .ok (.dup, 1) := by decide +kernel
theorem dX7_addBarrel_259 : decode cX7_addBarrel 259 = .ok (.getfield 51, 3) := by decide +kernel
theorem dX7_addBarrel_262 : decode cX7_addBarrel 262 = .ok (.iconst 1, 1) := by decide +kernel
theorem dX7_addBarrel_263 : decode cX7_addBarrel 263 = .ok (.iadd, 1) := by decide +kernel
theorem dX7_addBarrel_264 : decode cX7_addBarrel 264 = .ok (.putfield 51, 3) := by decide +kernel
theorem dX7_addBarrel_267 : decode cX7_addBarrel 267 = .ok (.aload_n 0, 1) := by decide +kernel
theorem dX7_addBarrel_268 : decode cX7_addBarrel 268 = .ok (.getfield 51, 3) := by decide +kernel
theorem dX7_addBarrel_271 : decode cX7_addBarrel 271 = .ok (.iconst 1, 1) := by decide +kernel
theorem dX7_addBarrel_272 : decode cX7_addBarrel 272 = .ok (.isub, 1) := by decide +kernel
theorem dX7_addBarrel_273 : decode cX7_addBarrel 273 = .ok (.ireturn, 1) := by decide +kernel
set_option maxRecDepth 20000 in
theorem ggX7_areBeside_X7_fx : GoodIn wsX7_areBeside wsX7_fx := goodIn_r _ [9, 10, 11, 12, 13, 14, 15, 16, 17, 18, 19, 20, 21, 22, 23, 24, 25, 26, 27, 28] (by decide +kernel) (by decide +kernel)
set_option maxRecDepth 20000 in
theorem gX7_areBeside_X7_fx : GoodIn wsX7_areBeside (wsV RX7 103 RX7 yX7_fx wsX7_fx) := goodIn_app (goodIn_of _ (by decide +kernel)) ggX7_areBeside_X7_fx
theorem dX7_areBeside_0 : decode cX7_areBeside 0 = .ok (.aload_n 0, 1) := by decide +kernel
theorem dX7_areBeside_1 : decode cX7_areBeside 1 = .ok (.iload_n 1, 1) := by decide +kernel
theorem dX7_areBeside_2 : decode cX7_areBeside 2 = .ok (.iconst 0, 1) := by decide +kernel
theorem dX7_areBeside_3 : decode cX7_areBeside 3 = .ok (.invokevirtual 103, 3) := by decide +kernel
theorem dX7_areBeside_6 : decode cX7_areBeside 6 = .ok (.bipush 8, 2) := by decide +kernel
theorem dX7_areBeside_8 : decode cX7_areBeside 8 = .ok (.irem, 1) := by decide +kernel
theorem dX7_areBeside_9 : decode cX7_areBeside 9 = .ok (.aload_n 0, 1) := by decide +kernel
theorem dX7_areBeside_10 : decode cX7_areBeside 10 = .ok (.iload_n 2, 1) := by decide +kernel
theorem dX7_areBeside_11 : decode cX7_areBeside 11 = .ok (.iconst 0, 1) := by decide +kernel
theorem dX7_areBeside_12 : decode cX7_areBeside 12 = .ok (.invokevirtual 103, 3) := by decide +kernel
theorem dX7_areBeside_15 : decode cX7_areBeside 15 = .ok (.bipush 8, 2) := by decide +kernel
theorem dX7_areBeside_17 : decode cX7_areBeside 17 = .ok (.irem, 1) := by decide +kernel
theorem dX7_areBeside_18 : decode cX7_areBeside 18 = .ok (.isub, 1) := by decide +kernel
theorem dX7_areBeside_19 : decode cX7_areBeside 19 = .ok (.invokestatic 106, 3) := by decide +kernel
theorem dX7_areBeside_22 : decode cX7_areBeside 22 = .ok (.istore_n 3, 1) := by decide +kernel
theorem dX7_areBeside_23 : decode cX7_areBeside 23 = .ok (.aload_n 0, 1) := by decide +kernel
theorem dX7_areBeside_24 : decode cX7_areBeside 24 = .ok (.iload_n 1, 1) := by decide +kernel
theorem dX7_areBeside_25 : decode cX7_areBeside 25 = .ok (.iconst 0, 1) := by decide +kernel
theorem dX7_areBeside_26 : decode cX7_areBeside 26 = .ok (.invokevirtual 103, 3) := by decide +kernel
theorem dX7_areBeside_29 : decode cX7_areBeside 29 = .ok (.bipush 8, 2) := by decide +kernel
theorem dX7_areBeside_31 : decode cX7_areBeside 31 = .ok (.idiv, 1) := by decide +kernel
theorem dX7_areBeside_32 : decode cX7_areBeside 32 = .ok (.aload_n 0, 1) := by decide +kernel
theorem dX7_areBeside_33 : decode cX7_areBeside 33 = .ok (.iload_n 2, 1) := by decide +kernel
theorem dX7_areBeside_34 : decode cX7_areBeside 34 = .ok (.iconst 0, 1) := by decide +kernel
theorem dX7_areBeside_35 : decode cX7_areBeside 35 = .ok (.invokevirtual 103, 3) := by decide +kernel
theorem dX7_areBeside_38 : decode cX7_areBeside 38 = .ok (.bipush 8, 2) := by decide +kernel
theorem dX7_areBeside_40 : decode cX7_areBeside 40 = .ok (.idiv, 1) := by decide +kernel
theorem dX7_areBeside_41 : decode cX7_areBeside 41 = .ok (.isub, 1) := by decide +kernel
theorem dX7_areBeside_42 : decode cX7_areBeside 42 = .ok (.invokestatic 106, 3) := by decide +kernel
theorem dX7_areBeside_45 : decode cX7_areBeside 45 = .ok (.istore 4, 2) := by decide +kernel
theorem dX7_areBeside_47 : decode cX7_areBeside 47 = .ok (.iload_n 3, 1) := by decide +kernel
theorem dX7_areBeside_48 : decode cX7_areBeside 48 = .ok (.iload 4, 2) := by decide +kernel
theorem dX7_areBeside_50 : decode cX7_areBeside 50 = .ok (.iadd, 1) := by decide +kernel
theorem dX7_areBeside_51 : decode cX7_areBeside 51 = .ok (.iconst 1, 1) := by decide +kernel
theorem dX7_areBeside_52 : decode cX7_areBeside 52 = .ok (.if_icmp .ne 7, 3) := by decide +kernel
theorem dX7_areBeside_55 : decode cX7_areBeside 55 = .ok (.iconst 1, 1) := by decide +kernel
theorem dX7_areBeside_56 : decode cX7_areBeside 56 = .ok (.goto 4, 3) := by decide +kernel
theorem dX7_areBeside_59 : decode cX7_areBeside 59 = .ok (.iconst 0, 1) := by decide +kernel
theorem dX7_areBeside_60 : decode cX7_areBeside 60 = .ok (.ireturn, 1) := by decide +kernel
set_option maxRecDepth 20000 in
theorem ggX7_tie_X7_isBarrel : GoodIn wsX7_tie wsX7_isBarrel := goodIn_r _ [9, 10, 11, 12, 8, 13, 49, 50, 51, 52, 53, 54, 55, 56, 57, 58, 59, 60, 61, 62, 63, 64, 65, 66] (by decide +kernel) (by decide +kernel)
set_option maxRecDepth 20000 in
theorem gX7_tie_X7_isBarrel : GoodIn wsX7_tie (wsV RX7 109 RX7 yX7_isBarrel wsX7_isBarrel) := goodIn_app (goodIn_of _ (by decide +kernel)) ggX7_tie_X7_isBarrel
set_option maxRecDepth 20000 in
theorem ggX7_tie_X7_fail : GoodIn wsX7_tie wsX7_fail := goodIn_r _ [17, 1, 49, 50, 51, 52, 53, 54, 55, 56, 57, 58, 59, 60, 61, 62, 63, 64, 65, 66] (by decide +kernel) (by decide +kernel)
set_option maxRecDepth 20000 in
theorem gX7_tie_X7_fail : GoodIn wsX7_tie (wsV RX7 73 RX7 yX7_fail wsX7_fail) := goodIn_app (goodIn_of _ (by decide +kernel)) ggX7_tie_X7_fail
set_option maxRecDepth 20000 in
theorem ggX7_tie_X7_isIn : GoodIn wsX7_tie wsX7_isIn := goodIn_r _ [13] (by decide +kernel) (by decide +kernel)
set_option maxRecDepth 20000 in
theorem gX7_tie_X7_isIn : GoodIn wsX7_tie (va_wsS RX7 54 yX7_isIn wsX7_isIn) := goodIn_app (goodIn_of _ (by decide +kernel)) ggX7_tie_X7_isIn
set_option maxRecDepth 20000 in
theorem ggX7_tie_X7_floats : GoodIn wsX7_tie wsX7_floats := goodIn_r _ [21, 22, 23, 24, 8, 25, 26, 49, 50, 51, 52, 53, 54, 55, 56, 57, 58, 59, 60, 61, 62, 63, 64, 65, 66] (by decide +kernel) (by decide +kernel)
set_option maxRecDepth 20000 in
theorem gX7_tie_X7_floats : GoodIn wsX7_tie (wsV RX7 93 RX7 yX7_floats wsX7_floats) := goodIn_app (goodIn_of _ (by decide +kernel)) ggX7_tie_X7_floats
set_option maxRecDepth 20000 in
theorem ggX7_tie_X7_areBeside : GoodIn wsX7_tie wsX7_areBeside := goodIn_r _ [30, 31, 32, 33, 34, 35, 36, 37, 8, 38, 39, 49, 50, 51, 52, 53, 54, 55, 56, 57, 58, 59, 60, 61, 62, 63, 64, 65, 66] (by decide +kernel) (by decide +kernel)
set_option maxRecDepth 20000 in
theorem gX7_tie_X7_areBeside : GoodIn wsX7_tie (wsV RX7 112 RX7 yX7_areBeside wsX7_areBeside) := goodIn_app (goodIn_of _ (by decide +kernel)) ggX7_tie_X7_areBeside
set_option maxRecDepth 20000 in
theorem ggX7_tie_X7_ba : GoodIn wsX7_tie wsX7_ba := goodIn_r _ [25, 26, 49, 50, 51, 52, 53, 54, 55, 56, 57, 58, 59, 60, 61, 62, 63, 64, 65, 66] (by decide +kernel) (by decide +kernel)
set_option maxRecDepth 20000 in
theorem gX7_tie_X7_ba : GoodIn wsX7_tie (wsV RX7 58 RX7 yX7_ba wsX7_ba) := goodIn_app (goodIn_of _ (by decide +kernel)) ggX7_tie_X7_ba
set_option maxRecDepth 20000 in
theorem ggX7_tie_X7_pair : GoodIn wsX7_tie wsX7_pair := goodIn_r _ [42, 43, 44, 33, 45, 46, 47, 48] (by decide +kernel) (by decide +kernel)
set_option maxRecDepth 20000 in
theorem gX7_tie_X7_pair : GoodIn wsX7_tie (va_wsS RX7 70 yX7_pair wsX7_pair) := goodIn_app (goodIn_of _ (by decide +kernel)) ggX7_tie_X7_pair
theorem dX7_tie_0 : decode cX7_tie 0 = .ok (.aload_n 0, 1) := by decide +kernel
theorem dX7_tie_1 : decode cX7_tie 1 = .ok (.iconst 0, 1) := by decide +kernel
theorem dX7_tie_2 : decode cX7_tie 2 = .ok (.putfield 47, 3) := by decide +kernel
theorem dX7_tie_5 : decode cX7_tie 5 = .ok (.aload_n 0, 1) := by decide +kernel
theorem dX7_tie_6 : decode cX7_tie 6 = .ok (.iload_n 1, 1) := by decide +kernel
theorem dX7_tie_7 : decode cX7_tie 7 = .ok (.invokevirtual 109, 3) := by decide +kernel
theorem dX7_tie_10 : decode cX7_tie 10 = .ok (.ifCond .eq 11, 3) := by decide +kernel
theorem dX7_tie_13 : decode cX7_tie 13 = .ok (.aload_n 0, 1) := by decide +kernel
theorem dX7_tie_14 : decode cX7_tie 14 = .ok (.iload_n 2, 1) := by decide +kernel
theorem dX7_tie_15 : decode cX7_tie 15 = .ok (.invokevirtual 109, 3) := by decide +kernel
theorem dX7_tie_18 : decode cX7_tie 18 = .ok (.ifCond .ne 9, 3) := by decide +kernel
theorem dX7_tie_21 : decode cX7_tie 21 = .ok (.aload_n 0, 1) := by decide +kernel
theorem dX7_tie_22 : decode cX7_tie 22 = .ok (.iconst 1, 1) := by decide +kernel
theorem dX7_tie_23 : decode cX7_tie 23 = .ok (.invokevirtual 73, 3) := by decide +kernel
theorem dX7_tie_26 : decode cX7_tie 26 = .ok (.ireturn, 1) := by decide +kernel
theorem dX7_tie_27 : decode cX7_tie 27 = .ok (.iload_n 1, 1) := by decide +kernel
theorem dX7_tie_28 : decode cX7_tie 28 = .ok (.iload_n 2, 1) := by decide +kernel
theorem dX7_tie_29 : decode cX7_tie 29 = .ok (.if_icmp .eq 13, 3) := by decide +kernel
theorem dX7_tie_32 : decode cX7_tie 32 = .ok (.iload_n 3, 1) := by decide +kernel
theorem dX7_tie_33 : decode cX7_tie 33 = .ok (.iconst 1, 1) := by decide +kernel
theorem dX7_tie_34 : decode cX7_tie 34 = .ok (.bipush 50, 2) := by decide +kernel
theorem dX7_tie_36 : decode cX7_tie 36 = .ok (.invokestatic 54, 3) := by decide +kernel
theorem dX7_tie_39 : decode cX7_tie 39 = .ok (.ifCond .ne 9, 3) := by decide +kernel
theorem dX7_tie_42 : decode cX7_tie 42 = .ok (.aload_n 0, 1) := by decide +kernel
theorem dX7_tie_43 : decode cX7_tie 43 = .ok (.iconst 2, 1) := by decide +kernel
theorem dX7_tie_44 : decode cX7_tie 44 = .ok (.invokevirtual 73, 3) := by decide +kernel
theorem dX7_tie_47 : decode cX7_tie 47 = .ok (.ireturn, 1) := by decide +kernel
theorem dX7_tie_48 : decode cX7_tie 48 = .ok (.aload_n 0, 1) := by decide +kernel
theorem dX7_tie_49 : decode cX7_tie 49 = .ok (.iload_n 1, 1) := by decide +kernel
theorem dX7_tie_50 : decode cX7_tie 50 = .ok (.invokevirtual 93, 3) := by decide +kernel
theorem dX7_tie_53 : decode cX7_tie 53 = .ok (.ifCond .eq 59, 3) := by decide +kernel
theorem dX7_tie_56 : decode cX7_tie 56 = .ok (.aload_n 0, 1) := by decide +kernel
theorem dX7_tie_57 : decode cX7_tie 57 = .ok (.iload_n 2, 1) := by decide +kernel
theorem dX7_tie_58 : decode cX7_tie 58 = .ok (.invokevirtual 93, 3) := by decide +kernel
theorem dX7_tie_61 : decode cX7_tie 61 = .ok (.ifCond .eq 51, 3) := by decide +kernel
theorem dX7_tie_64 : decode cX7_tie 64 = .ok (.aload_n 0, 1) := by decide +kernel
theorem dX7_tie_65 : decode cX7_tie 65 = .ok (.iload_n 1, 1) := by decide +kernel
theorem dX7_tie_66 : decode cX7_tie 66 = .ok (.iload_n 2, 1) := by decide +kernel
theorem dX7_tie_67 : decode cX7_tie 67 = .ok (.invokevirtual 112, 3) := by decide +kernel
theorem dX7_tie_70 : decode cX7_tie 70 = .ok (.ifCond .eq 42, 3) := by decide +kernel
theorem dX7_tie_73 : decode cX7_tie 73 = .ok (.aload_n 0, 1) := by decide +kernel
theorem dX7_tie_74 : decode cX7_tie 74 = .ok (.iload_n 1, 1) := by decide +kernel
theorem dX7_tie_75 : decode cX7_tie 75 = .ok (.iconst 3, 1) := by decide +kernel
theorem dX7_tie_76 : decode cX7_tie 76 = .ok (.invokevirtual 58, 3) := by decide +kernel
theorem dX7_tie_79 : decode cX7_tie 79 = .ok (.aload_n 0, 1) := by decide +kernel
theorem dX7_tie_80 : decode cX7_tie 80 = .ok (.iload_n 2, 1) := by decide +kernel
theorem dX7_tie_81 : decode cX7_tie 81 = .ok (.iconst 3, 1) := by decide +kernel
theorem dX7_tie_82 : decode cX7_tie 82 = .ok (.invokevirtual 58, 3) := by decide +kernel
theorem dX7_tie_85 : decode cX7_tie 85 = .ok (.if_icmp .ne 27, 3) := by decide +kernel
theorem dX7_tie_88 : decode cX7_tie 88 = .ok (.aload_n 0, 1) := by decide +kernel
theorem dX7_tie_89 : decode cX7_tie 89 = .ok (.iload_n 1, 1) := by decide +kernel
theorem dX7_tie_90 : decode cX7_tie 90 = .ok (.iconst 4, 1) := by decide +kernel
theorem dX7_tie_91 : decode cX7_tie 91 = .ok (.invokevirtual 58, 3) := by decide +kernel
theorem dX7_tie_94 : decode cX7_tie 94 = .ok (.aload_n 0, 1) := by decide +kernel
theorem dX7_tie_95 : decode cX7_tie 95 = .ok (.iload_n 2, 1) := by decide +kernel
theorem dX7_tie_96 : decode cX7_tie 96 = .ok (.iconst 4, 1) := by decide +kernel
theorem dX7_tie_97 : decode cX7_tie 97 = .ok (.invokevirtual 58, 3) := by decide +kernel
theorem dX7_tie_100 : decode cX7_tie 100 = .ok (.if_icmp .ne 12, 3) := by decide +kernel
theorem dX7_tie_103 : decode cX7_tie 103 = .ok (.aload_n 0, 1) := by decide +kernel
theorem dX7_tie_104 : decode cX7_tie 104 = .ok (.getfield 28, 3) := by decide +kernel
theorem dX7_tie_107 : decode cX7_tie 107 = .ok (.iconst 1, 1) := by decide +kernel
theorem dX7_tie_108 : decode cX7_tie 108 = .ok (.iaload, 1) := by decide +kernel
theorem dX7_tie_109 : decode cX7_tie 109 = .ok (.ifCond .ne 9, 3) := by decide +kernel
theorem dX7_tie_112 : decode cX7_tie 112 = .ok (.aload_n 0, 1) := by decide +kernel
theorem dX7_tie_113 : decode cX7_tie 113 = .ok (.iconst 3, 1) := by decide +kernel
theorem dX7_tie_114 : decode cX7_tie 114 = .ok (.invokevirtual 73, 3) := by decide +kernel
theorem dX7_tie_117 : decode cX7_tie 117 = .ok (.ireturn, 1) := by decide +kernel
theorem dX7_tie_118 : decode cX7_tie 118 = .ok (.aload_n 0, 1) := by decide +kernel
theorem dX7_tie_119 : decode cX7_tie 119 = .ok (.getfield 19, 3) := by decide +kernel
theorem dX7_tie_122 : decode cX7_tie 122 = .ok (.iload_n 1, 1) := by decide +kernel
theorem dX7_tie_123 : decode cX7_tie 123 = .ok (.iload_n 2, 1) := by decide +kernel
theorem dX7_tie_124 : decode cX7_tie 124 = .ok (.invokestatic 70, 3) := by decide +kernel
theorem dX7_tie_127 : decode cX7_tie 127 = .ok (.iload_n 3, 1) := by decide +kernel
theorem dX7_tie_128 : decode cX7_tie 128 = .ok (.iastore, 1) := by decide +kernel
theorem dX7_tie_129 : decode cX7_tie 129 = .ok (.aload_n 0, 1) := by decide +kernel
theorem dX7_tie_130 : decode cX7_tie 130 = .ok (.getfield 22, 3) := by decide +kernel
theorem dX7_tie_133 : decode cX7_tie 133 = .ok (.iload_n 1, 1) := by decide +kernel
theorem dX7_tie_134 : decode cX7_tie 134 = .ok (.iload_n 2, 1) := by decide +kernel
theorem dX7_tie_135 : decode cX7_tie 135 = .ok (.invokestatic 70, 3) := by decide +kernel
theorem dX7_tie_138 : decode cX7_tie 138 = .ok (.iconst 0, 1) := by decide +kernel
theorem dX7_tie_139 : decode cX7_tie 139 = .ok (.iastore, 1) := by decide +kernel
theorem dX7_tie_140 : decode cX7_tie 140 = .ok (.aload_n 0, 1) := by decide +kernel
theorem dX7_tie_141 : decode cX7_tie 141 = .ok (.getfield 28, 3) := by decide +kernel
theorem dX7_tie_144 : decode cX7_tie 144 = .ok (.iconst 1, 1) := by decide +kernel
theorem dX7_tie_145 : decode cX7_tie 145 = .ok (.dup2, 1) := by decide +kernel
theorem dX7_tie_146 : decode cX7_tie 146 = .ok (.iaload, 1) := by decide +kernel
theorem dX7_tie_147 : decode cX7_tie 147 = .ok (.iconst 1, 1) := by decide +kernel
theorem dX7_tie_148 : decode cX7_tie 148 = .ok (.isub, 1) := by decide +kernel
theorem dX7_tie_149 : decode cX7_tie 149 = .ok (.iastore, 1) := by decide +kernel
theorem dX7_tie_150 : decode cX7_tie 150 = .ok (.aload_n 0, 1) := by decide +kernel
theorem dX7_tie_151 : decode cX7_tie 151 = .ok (.getfield 28, 3) := by decide +kernel
theorem dX7_tie_154 : decode cX7_tie 154 = .ok (.iconst 1, 1) := by decide +kernel
theorem dX7_tie_155 : decode cX7_tie 155 = .ok (.iaload, 1) := by decide +kernel
theorem dX7_tie_156 : decode cX7_tie 156 = .ok (.ireturn, 1) := by decide +kernel
set_option maxRecDepth 20000 in
theorem ggX7_untie_X7_pair : GoodIn wsX7_untie wsX7_pair := goodIn_r _ [6, 7, 8, 9, 10, 11, 12, 13] (by decide +kernel) (by decide +kernel)
set_option maxRecDepth 20000 in
theorem gX7_untie_X7_pair : GoodIn wsX7_untie (va_wsS RX7 70 yX7_pair wsX7_pair) := goodIn_app (goodIn_of _ (by decide +kernel)) ggX7_untie_X7_pair
theorem dX7_untie_0 : decode cX7_untie 0 = .ok (.aload_n 0, 1) := by decide +kernel
theorem dX7_untie_1 : decode cX7_untie 1 = .ok (.getfield 19, 3) := by decide +kernel
theorem dX7_untie_4 : decode cX7_untie 4 = .ok (.iload_n 1, 1) := by decide +kernel
theorem dX7_untie_5 : decode cX7_untie 5 = .ok (.iload_n 2, 1) := by decide +kernel
theorem dX7_untie_6 : decode cX7_untie 6 = .ok (.invokestatic 70, 3) := by decide +kernel
theorem dX7_untie_9 : decode cX7_untie 9 = .ok (.iconst 0, 1) := by decide +kernel
theorem dX7_untie_10 : decode cX7_untie 10 = .ok (.iastore, 1) := by decide +kernel
theorem dX7_untie_11 : decode cX7_untie 11 = .ok (.aload_n 0, 1) := by decide +kernel
theorem dX7_untie_12 : decode cX7_untie 12 = .ok (.getfield 22, 3) := by decide +kernel
theorem dX7_untie_15 : decode cX7_untie 15 = .ok (.iload_n 1, 1) := by decide +kernel
theorem dX7_untie_16 : decode cX7_untie 16 = .ok (.iload_n 2, 1) := by decide +kernel
theorem dX7_untie_17 : decode cX7_untie 17 = .ok (.invokestatic 70, 3) := by decide +kernel
theorem dX7_untie_20 : decode cX7_untie 20 = .ok (.iconst 0, 1) := by decide +kernel
theorem dX7_untie_21 : decode cX7_untie 21 = .ok (.iastore, 1) := by decide +kernel
theorem dX7_untie_22 : decode cX7_untie 22 = .ok (.return_, 1) := by decide +kernel
set_option maxRecDepth 20000 in
theorem ggX7_cut_X7_isBarrel : GoodIn wsX7_cut wsX7_isBarrel := goodIn_r _ [11, 12, 13, 14, 10, 15, 36, 37, 38, 39, 40, 41, 42, 43, 44, 45, 46, 47, 48, 49, 50, 51, 52, 53] (by decide +kernel) (by decide +kernel)
set_option maxRecDepth 20000 in
theorem gX7_cut_X7_isBarrel : GoodIn wsX7_cut (wsV RX7 109 RX7 yX7_isBarrel wsX7_isBarrel) := goodIn_app (goodIn_of _ (by decide +kernel)) ggX7_cut_X7_isBarrel
set_option maxRecDepth 20000 in
theorem ggX7_cut_X7_fail : GoodIn wsX7_cut wsX7_fail := goodIn_r _ [19, 1, 36, 37, 38, 39, 40, 41, 42, 43, 44, 45, 46, 47, 48, 49, 50, 51, 52, 53] (by decide +kernel) (by decide +kernel)
set_option maxRecDepth 20000 in
theorem gX7_cut_X7_fail : GoodIn wsX7_cut (wsV RX7 73 RX7 yX7_fail wsX7_fail) := goodIn_app (goodIn_of _ (by decide +kernel)) ggX7_cut_X7_fail
set_option maxRecDepth 20000 in
theorem ggX7_cut_X7_isTied : GoodIn wsX7_cut wsX7_isTied := goodIn_r _ [23, 24, 25, 26, 10, 27, 3, 4, 5, 6, 28, 29, 30, 36, 37, 38, 39, 40, 41, 42, 43, 44, 45, 46, 47, 48, 49, 50, 51, 52, 53] (by decide +kernel) (by decide +kernel)
set_option maxRecDepth 20000 in
theorem gX7_cut_X7_isTied : GoodIn wsX7_cut (wsV RX7 116 RX7 yX7_isTied wsX7_isTied) := goodIn_app (goodIn_of _ (by decide +kernel)) ggX7_cut_X7_isTied
set_option maxRecDepth 20000 in
theorem ggX7_cut_X7_untie : GoodIn wsX7_cut wsX7_untie := goodIn_r _ [34, 24, 35, 25, 26, 10, 27, 3, 4, 5, 6, 28, 29, 30, 36, 37, 38, 39, 40, 41, 42, 43, 44, 45, 46, 47, 48, 49, 50, 51, 52, 53] (by decide +kernel) (by decide +kernel)
set_option maxRecDepth 20000 in
theorem gX7_cut_X7_untie : GoodIn wsX7_cut (wsV RX7 119 RX7 yX7_untie wsX7_untie) := goodIn_app (goodIn_of _ (by decide +kernel)) ggX7_cut_X7_untie
theorem dX7_cut_0 : decode cX7_cut 0 = .ok (.aload_n 0, 1) := by decide +kernel
theorem dX7_cut_1 : decode cX7_cut 1 = .ok (.iconst 0, 1) := by decide +kernel
theorem dX7_cut_2 : decode cX7_cut 2 = .ok (.putfield 47, 3) := by decide +kernel
theorem dX7_cut_5 : decode cX7_cut 5 = .ok (.aload_n 0, 1) := by decide +kernel
theorem dX7_cut_6 : decode cX7_cut 6 = .ok (.iload_n 1, 1) := by decide +kernel
theorem dX7_cut_7 : decode cX7_cut 7 = .ok (.invokevirtual 109, 3) := by decide +kernel
theorem dX7_cut_10 : decode cX7_cut 10 = .ok (.ifCond .eq 11, 3) := by decide +kernel
theorem dX7_cut_13 : decode cX7_cut 13 = .ok (.aload_n 0, 1) := by decide +kernel
theorem dX7_cut_14 : decode cX7_cut 14 = .ok (.iload_n 2, 1) := by decide +kernel
theorem dX7_cut_15 : decode cX7_cut 15 = .ok (.invokevirtual 109, 3) := by decide +kernel
theorem dX7_cut_18 : decode cX7_cut 18 = .ok (.ifCond .ne 9, 3) := by decide +kernel
theorem dX7_cut_21 : decode cX7_cut 21 = .ok (.aload_n 0, 1) := by decide +kernel
theorem dX7_cut_22 : decode cX7_cut 22 = .ok (.iconst 1, 1) := by decide +kernel
theorem dX7_cut_23 : decode cX7_cut 23 = .ok (.invokevirtual 73, 3) := by decide +kernel
theorem dX7_cut_26 : decode cX7_cut 26 = .ok (.ireturn, 1) := by decide +kernel
theorem dX7_cut_27 : decode cX7_cut 27 = .ok (.aload_n 0, 1) := by decide +kernel
theorem dX7_cut_28 : decode cX7_cut 28 = .ok (.iload_n 1, 1) := by decide +kernel
theorem dX7_cut_29 : decode cX7_cut 29 = .ok (.iload_n 2, 1) := by decide +kernel
theorem dX7_cut_30 : decode cX7_cut 30 = .ok (.invokevirtual 116, 3) := by decide +kernel
theorem dX7_cut_33 : decode cX7_cut 33 = .ok (.ifCond .ne 9, 3) := by decide +kernel
theorem dX7_cut_36 : decode cX7_cut 36 = .ok (.aload_n 0, 1) := by decide +kernel
theorem dX7_cut_37 : decode cX7_cut 37 = .ok (.iconst 2, 1) := by decide +kernel
theorem dX7_cut_38 : decode cX7_cut 38 = .ok (.invokevirtual 73, 3) := by decide +kernel
theorem dX7_cut_41 : decode cX7_cut 41 = .ok (.ireturn, 1) := by decide +kernel
theorem dX7_cut_42 : decode cX7_cut 42 = .ok (.aload_n 0, 1) := by decide +kernel
theorem dX7_cut_43 : decode cX7_cut 43 = .ok (.iload_n 1, 1) := by decide +kernel
theorem dX7_cut_44 : decode cX7_cut 44 = .ok (.iload_n 2, 1) := by decide +kernel
theorem dX7_cut_45 : decode cX7_cut 45 = .ok (.invokevirtual 119, 3) := by decide +kernel
theorem dX7_cut_48 : decode cX7_cut 48 = .ok (.aload_n 0, 1) := by decide +kernel
theorem dX7_cut_49 : decode cX7_cut 49 = .ok (.getfield 28, 3) := by decide +kernel
theorem dX7_cut_52 : decode cX7_cut 52 = .ok (.iconst 1, 1) := by decide +kernel
theorem dX7_cut_53 : decode cX7_cut 53 = .ok (.bipush 40, 2) := by decide +kernel
theorem dX7_cut_55 : decode cX7_cut 55 = .ok (.aload_n 0, 1) := by decide +kernel
theorem dX7_cut_56 : decode cX7_cut 56 = .ok (.getfield 28, 3) := by decide +kernel
theorem dX7_cut_59 : decode cX7_cut 59 = .ok (.iconst 1, 1) := by decide +kernel
theorem dX7_cut_60 : decode cX7_cut 60 = .ok (.iaload, 1) := by decide +kernel
theorem dX7_cut_61 : decode cX7_cut 61 = .ok (.iconst 1, 1) := by decide +kernel
theorem dX7_cut_62 : decode cX7_cut 62 = .ok (.iadd, 1) := by decide +kernel
theorem dX7_cut_63 : decode cX7_cut 63 = .ok (.invokestatic 62, 3) := by decide +kernel
theorem dX7_cut_66 : decode cX7_cut 66 = .ok (.iastore, 1) := by decide +kernel
theorem dX7_cut_67 : decode cX7_cut 67 = .ok (.aload_n 0, 1) := by decide +kernel
theorem dX7_cut_68 : decode cX7_cut 68 = .ok (.getfield 28, 3) := by decide +kernel
theorem dX7_cut_71 : decode cX7_cut 71 = .ok (.iconst 1, 1) := by decide +kernel
theorem dX7_cut_72 : decode cX7_cut 72 = .ok (.iaload, 1) := by decide +kernel
theorem dX7_cut_73 : decode cX7_cut 73 = .ok (.ireturn, 1) := by decide +kernel
set_option maxRecDepth 20000 in
theorem ggX7_load_X7_isBarrel : GoodIn wsX7_load wsX7_isBarrel := goodIn_r _ [6, 7, 8, 9, 5, 10, 28, 29, 30, 31, 32, 33, 34, 35, 36, 37, 38, 39, 40, 41, 42, 43, 44, 45] (by decide +kernel) (by decide +kernel)
set_option maxRecDepth 20000 in
theorem gX7_load_X7_isBarrel : GoodIn wsX7_load (wsV RX7 109 RX7 yX7_isBarrel wsX7_isBarrel) := goodIn_app (goodIn_of _ (by decide +kernel)) ggX7_load_X7_isBarrel
set_option maxRecDepth 20000 in
theorem ggX7_load_X7_fail : GoodIn wsX7_load wsX7_fail := goodIn_r _ [14, 1, 28, 29, 30, 31, 32, 33, 34, 35, 36, 37, 38, 39, 40, 41, 42, 43, 44, 45] (by decide +kernel) (by decide +kernel)
set_option maxRecDepth 20000 in
theorem gX7_load_X7_fail : GoodIn wsX7_load (wsV RX7 73 RX7 yX7_fail wsX7_fail) := goodIn_app (goodIn_of _ (by decide +kernel)) ggX7_load_X7_fail
set_option maxRecDepth 20000 in
theorem ggX7_load_X7_isIn : GoodIn wsX7_load wsX7_isIn := goodIn_r _ [10] (by decide +kernel) (by decide +kernel)
set_option maxRecDepth 20000 in
theorem gX7_load_X7_isIn : GoodIn wsX7_load (va_wsS RX7 54 yX7_isIn wsX7_isIn) := goodIn_app (goodIn_of _ (by decide +kernel)) ggX7_load_X7_isIn
set_option maxRecDepth 20000 in
theorem ggX7_load_X7_floats : GoodIn wsX7_load wsX7_floats := goodIn_r _ [18, 19, 20, 21, 5, 22, 23, 28, 29, 30, 31, 32, 33, 34, 35, 36, 37, 38, 39, 40, 41, 42, 43, 44, 45] (by decide +kernel) (by decide +kernel)
set_option maxRecDepth 20000 in
theorem gX7_load_X7_floats : GoodIn wsX7_load (wsV RX7 93 RX7 yX7_floats wsX7_floats) := goodIn_app (goodIn_of _ (by decide +kernel)) ggX7_load_X7_floats
set_option maxRecDepth 20000 in
theorem ggX7_load_X7_ba : GoodIn wsX7_load wsX7_ba := goodIn_r _ [22, 23, 28, 29, 30, 31, 32, 33, 34, 35, 36, 37, 38, 39, 40, 41, 42, 43, 44, 45] (by decide +kernel) (by decide +kernel)
set_option maxRecDepth 20000 in
theorem gX7_load_X7_ba : GoodIn wsX7_load (wsV RX7 58 RX7 yX7_ba wsX7_ba) := goodIn_app (goodIn_of _ (by decide +kernel)) ggX7_load_X7_ba
set_option maxRecDepth 20000 in
theorem ggX7_load_X7_set : GoodIn wsX7_load wsX7_set := goodIn_r _ [27, 23, 28, 29, 30, 31, 32, 33, 34, 35, 36, 37, 38, 39, 40, 41, 42, 43, 44, 45] (by decide +kernel) (by decide +kernel)
set_option maxRecDepth 20000 in
theorem gX7_load_X7_set : GoodIn wsX7_load (wsV RX7 123 RX7 yX7_set wsX7_set) := goodIn_app (goodIn_of _ (by decide +kernel)) ggX7_load_X7_set
theorem dX7_load_0 : decode cX7_load 0 = .ok (.aload_n 0, 1) := by decide +kernel
theorem dX7_load_1 : decode cX7_load 1 = .ok (.iconst 0, 1) := by decide +kernel
theorem dX7_load_2 : decode cX7_load 2 = .ok (.putfield 47, 3) := by decide +kernel
theorem dX7_load_5 : decode cX7_load 5 = .ok (.aload_n 0, 1) := by decide +kernel
theorem dX7_load_6 : decode cX7_load 6 = .ok (.iload_n 1, 1) := by decide +kernel
theorem dX7_load_7 : decode cX7_load 7 = .ok (.invokevirtual 109, 3) := by decide +kernel
theorem dX7_load_10 : decode cX7_load 10 = .ok (.ifCond .ne 9, 3) := by decide +kernel
theorem dX7_load_13 : decode cX7_load 13 = .ok (.aload_n 0, 1) := by decide +kernel
theorem dX7_load_14 : decode cX7_load 14 = .ok (.iconst 1, 1) := by decide +kernel
theorem dX7_load_15 : decode cX7_load 15 = .ok (.invokevirtual 73, 3) := by decide +kernel
theorem dX7_load_18 : decode cX7_load 18 = .ok (.ireturn, 1) := by decide +kernel
theorem dX7_load_19 : decode cX7_load 19 = .ok (.iload_n 2, 1) := by decide +kernel
theorem dX7_load_20 : decode cX7_load 20 = .ok (.iconst 0, 1) := by decide +kernel
theorem dX7_load_21 : decode cX7_load 21 = .ok (.bipush 30, 2) := by decide +kernel
theorem dX7_load_23 : decode cX7_load 23 = .ok (.invokestatic 54, 3) := by decide +kernel
theorem dX7_load_26 : decode cX7_load 26 = .ok (.ifCond .ne 9, 3) := by decide +kernel
theorem dX7_load_29 : decode cX7_load 29 = .ok (.aload_n 0, 1) := by decide +kernel
theorem dX7_load_30 : decode cX7_load 30 = .ok (.iconst 2, 1) := by decide +kernel
theorem dX7_load_31 : decode cX7_load 31 = .ok (.invokevirtual 73, 3) := by decide +kernel
theorem dX7_load_34 : decode cX7_load 34 = .ok (.ireturn, 1) := by decide +kernel
theorem dX7_load_35 : decode cX7_load 35 = .ok (.aload_n 0, 1) := by decide +kernel
theorem dX7_load_36 : decode cX7_load 36 = .ok (.iload_n 1, 1) := by decide +kernel
theorem dX7_load_37 : decode cX7_load 37 = .ok (.invokevirtual 93, 3) := by decide +kernel
theorem dX7_load_40 : decode cX7_load 40 = .ok (.ifCond .ne 9, 3) := by decide +kernel
theorem dX7_load_43 : decode cX7_load 43 = .ok (.aload_n 0, 1) := by decide +kernel
theorem dX7_load_44 : decode cX7_load 44 = .ok (.iconst 3, 1) := by decide +kernel
theorem dX7_load_45 : decode cX7_load 45 = .ok (.invokevirtual 73, 3) := by decide +kernel
theorem dX7_load_48 : decode cX7_load 48 = .ok (.ireturn, 1) := by decide +kernel
theorem dX7_load_49 : decode cX7_load 49 = .ok (.aload_n 0, 1) := by decide +kernel
theorem dX7_load_50 : decode cX7_load 50 = .ok (.iload_n 1, 1) := by decide +kernel
theorem dX7_load_51 : decode cX7_load 51 = .ok (.iconst 1, 1) := by decide +kernel
theorem dX7_load_52 : decode cX7_load 52 = .ok (.invokevirtual 58, 3) := by decide +kernel
theorem dX7_load_55 : decode cX7_load 55 = .ok (.istore_n 3, 1) := by decide +kernel
theorem dX7_load_56 : decode cX7_load 56 = .ok (.aload_n 0, 1) := by decide +kernel
theorem dX7_load_57 : decode cX7_load 57 = .ok (.iload_n 1, 1) := by decide +kernel
theorem dX7_load_58 : decode cX7_load 58 = .ok (.iconst 1, 1) := by decide +kernel
theorem dX7_load_59 : decode cX7_load 59 = .ok (.iload_n 2, 1) := by decide +kernel
theorem dX7_load_60 : decode cX7_load 60 = .ok (.invokevirtual 123, 3) := by decide +kernel
theorem dX7_load_63 : decode cX7_load 63 = .ok (.iload_n 3, 1) := by decide +kernel
theorem dX7_load_64 : decode cX7_load 64 = .ok (.ireturn, 1) := by decide +kernel
theorem dX7_crewOn_0 : decode cX7_crewOn 0 = .ok (.iconst 0, 1) := by decide +kernel
theorem dX7_crewOn_1 : decode cX7_crewOn 1 = .ok (.istore_n 2, 1) := by decide +kernel
theorem dX7_crewOn_2 : decode cX7_crewOn 2 = .ok (.iconst 0, 1) := by decide +kernel
theorem dX7_crewOn_3 : decode cX7_crewOn 3 = .ok (.istore_n 3, 1) := by decide +kernel
theorem dX7_crewOn_4 : decode cX7_crewOn 4 = .ok (.iload_n 3, 1) := by decide +kernel
theorem dX7_crewOn_5 : decode cX7_crewOn 5 = .ok (.aload_n 0, 1) := by decide +kernel
theorem dX7_crewOn_6 : decode cX7_crewOn 6 = .ok (.getfield 127, 3) := by decide +kernel
theorem dX7_crewOn_9 : decode cX7_crewOn 9 = .ok (.if_icmp .ge 29, 3) := by decide +kernel
theorem dX7_crewOn_12 : decode cX7_crewOn 12 = .ok (.iload_n 2, 1) := by decide +kernel
theorem dX7_crewOn_13 : decode cX7_crewOn 13 = .ok (.aload_n 0, 1) := by decide +kernel
theorem dX7_crewOn_14 : decode cX7_crewOn 14 = .ok (.getfield 25, 3) := by decide +kernel
theorem dX7_crewOn_17 : decode cX7_crewOn 17 = .ok (.iconst 2, 1) := by decide +kernel
theorem dX7_crewOn_18 : decode cX7_crewOn 18 = .ok (.iload_n 3, 1) := by decide +kernel
theorem dX7_crewOn_19 : decode cX7_crewOn 19 = .ok (.imul, 1) := by decide +kernel
theorem dX7_crewOn_20 : decode cX7_crewOn 20 = .ok (.iaload, 1) := by decide +kernel
theorem dX7_crewOn_21 : decode cX7_crewOn 21 = .ok (.iload_n 1, 1) := by decide +kernel
theorem dX7_crewOn_22 : decode cX7_crewOn 22 = .ok (.if_icmp .ne 7, 3) := by decide +kernel
theorem dX7_crewOn_25 : decode cX7_crewOn 25 = .ok (.iconst 1, 1) := by decide +kernel
theorem dX7_crewOn_26 : decode cX7_crewOn 26 = .ok (.goto 4, 3) := by decide +kernel
theorem dX7_crewOn_29 : decode cX7_crewOn 29 = .ok (.iconst 0, 1) := by decide +kernel
theorem dX7_crewOn_30 : decode cX7_crewOn 30 = .ok (.iadd, 1) := by decide +kernel
theorem dX7_crewOn_31 : decode cX7_crewOn 31 = .ok (.istore_n 2, 1) := by decide +kernel
theorem dX7_crewOn_32 : decode cX7_crewOn 32 = .ok (.iinc 3 1, 3) := by decide +kernel
theorem dX7_crewOn_35 : decode cX7_crewOn 35 = .ok (.goto (-31), 3) := by decide +kernel
theorem dX7_crewOn_38 : decode cX7_crewOn 38 = .ok (.iload_n 2, 1) := by decide +kernel
theorem dX7_crewOn_39 : decode cX7_crewOn 39 = .ok (.ireturn, 1) := by decide +kernel
set_option maxRecDepth 20000 in
theorem ggX7_lifts_X7_fx : GoodIn wsX7_lifts wsX7_fx := goodIn_r _ [5, 6, 12, 13, 14, 15, 16, 17, 18, 19, 20, 21, 22, 23, 24, 25, 26, 27, 28, 29] (by decide +kernel) (by decide +kernel)
set_option maxRecDepth 20000 in
theorem gX7_lifts_X7_fx : GoodIn wsX7_lifts (wsV RX7 103 RX7 yX7_fx wsX7_fx) := goodIn_app (goodIn_of _ (by decide +kernel)) ggX7_lifts_X7_fx
set_option maxRecDepth 20000 in
theorem ggX7_lifts_X7_ba : GoodIn wsX7_lifts wsX7_ba := goodIn_r _ [10, 11, 12, 13, 14, 15, 16, 17, 18, 19, 20, 21, 22, 23, 24, 25, 26, 27, 28, 29] (by decide +kernel) (by decide +kernel)
set_option maxRecDepth 20000 in
theorem gX7_lifts_X7_ba : GoodIn wsX7_lifts (wsV RX7 58 RX7 yX7_ba wsX7_ba) := goodIn_app (goodIn_of _ (by decide +kernel)) ggX7_lifts_X7_ba
theorem dX7_lifts_0 : decode cX7_lifts 0 = .ok (.aload_n 0, 1) := by decide +kernel
theorem dX7_lifts_1 : decode cX7_lifts 1 = .ok (.iload_n 1, 1) := by decide +kernel
theorem dX7_lifts_2 : decode cX7_lifts 2 = .ok (.iconst 1, 1) := by decide +kernel
theorem dX7_lifts_3 : decode cX7_lifts 3 = .ok (.invokevirtual 103, 3) := by decide +kernel
theorem dX7_lifts_6 : decode cX7_lifts 6 = .ok (.bipush 100, 2) := by decide +kernel
theorem dX7_lifts_8 : decode cX7_lifts 8 = .ok (.aload_n 0, 1) := by decide +kernel
theorem dX7_lifts_9 : decode cX7_lifts 9 = .ok (.iload_n 1, 1) := by decide +kernel
theorem dX7_lifts_10 : decode cX7_lifts 10 = .ok (.iconst 0, 1) := by decide +kernel
theorem dX7_lifts_11 : decode cX7_lifts 11 = .ok (.invokevirtual 58, 3) := by decide +kernel
theorem dX7_lifts_14 : decode cX7_lifts 14 = .ok (.isub, 1) := by decide +kernel
theorem dX7_lifts_15 : decode cX7_lifts 15 = .ok (.imul, 1) := by decide +kernel
theorem dX7_lifts_16 : decode cX7_lifts 16 = .ok (.bipush 100, 2) := by decide +kernel
theorem dX7_lifts_18 : decode cX7_lifts 18 = .ok (.idiv, 1) := by decide +kernel
theorem dX7_lifts_19 : decode cX7_lifts 19 = .ok (.ireturn, 1) := by decide +kernel
set_option maxRecDepth 20000 in
theorem ggX7_loadOf_X7_ba : GoodIn wsX7_loadOf wsX7_ba := goodIn_r _ [5, 6, 13, 14, 15, 16, 17, 18, 19, 20, 21, 22, 23, 24, 25, 26, 27, 28, 29, 30] (by decide +kernel) (by decide +kernel)
set_option maxRecDepth 20000 in
theorem gX7_loadOf_X7_ba : GoodIn wsX7_loadOf (wsV RX7 58 RX7 yX7_ba wsX7_ba) := goodIn_app (goodIn_of _ (by decide +kernel)) ggX7_loadOf_X7_ba
set_option maxRecDepth 20000 in
theorem ggX7_loadOf_X7_crewOn : GoodIn wsX7_loadOf wsX7_crewOn := goodIn_r _ [10, 11, 12, 13, 14, 15, 16, 17, 18, 19, 20, 21, 22, 23, 24, 25, 26, 27, 28, 29, 30] (by decide +kernel) (by decide +kernel)
set_option maxRecDepth 20000 in
theorem gX7_loadOf_X7_crewOn : GoodIn wsX7_loadOf (wsV RX7 130 RX7 yX7_crewOn wsX7_crewOn) := goodIn_app (goodIn_of _ (by decide +kernel)) ggX7_loadOf_X7_crewOn
theorem dX7_loadOf_0 : decode cX7_loadOf 0 = .ok (.aload_n 0, 1) := by decide +kernel
theorem dX7_loadOf_1 : decode cX7_loadOf 1 = .ok (.iload_n 1, 1) := by decide +kernel
theorem dX7_loadOf_2 : decode cX7_loadOf 2 = .ok (.iconst 1, 1) := by decide +kernel
theorem dX7_loadOf_3 : decode cX7_loadOf 3 = .ok (.invokevirtual 58, 3) := by decide +kernel
theorem dX7_loadOf_6 : decode cX7_loadOf 6 = .ok (.bipush 7, 2) := by decide +kernel
theorem dX7_loadOf_8 : decode cX7_loadOf 8 = .ok (.aload_n 0, 1) := by decide +kernel
theorem dX7_loadOf_9 : decode cX7_loadOf 9 = .ok (.iload_n 1, 1) := by decide +kernel
theorem dX7_loadOf_10 : decode cX7_loadOf 10 = .ok (.invokevirtual 130, 3) := by decide +kernel
theorem dX7_loadOf_13 : decode cX7_loadOf 13 = .ok (.imul, 1) := by decide +kernel
theorem dX7_loadOf_14 : decode cX7_loadOf 14 = .ok (.iadd, 1) := by decide +kernel
theorem dX7_loadOf_15 : decode cX7_loadOf 15 = .ok (.ireturn, 1) := by decide +kernel
set_option maxRecDepth 20000 in
theorem ggX7_name_X7_floats : GoodIn wsX7_name wsX7_floats := goodIn_r _ [11, 12, 13, 14, 10, 15, 16, 28, 29, 30, 31, 32, 33, 34, 35, 36, 37, 38, 39, 40, 41, 42, 43, 44, 45] (by decide +kernel) (by decide +kernel)
set_option maxRecDepth 20000 in
theorem gX7_name_X7_floats : GoodIn wsX7_name (wsV RX7 93 RX7 yX7_floats wsX7_floats) := goodIn_app (goodIn_of _ (by decide +kernel)) ggX7_name_X7_floats
set_option maxRecDepth 20000 in
theorem ggX7_name_X7_isTied : GoodIn wsX7_name wsX7_isTied := goodIn_r _ [20, 21, 22, 23, 10, 24, 3, 4, 5, 6, 25, 26, 27, 28, 29, 30, 31, 32, 33, 34, 35, 36, 37, 38, 39, 40, 41, 42, 43, 44, 45] (by decide +kernel) (by decide +kernel)
set_option maxRecDepth 20000 in
theorem gX7_name_X7_isTied : GoodIn wsX7_name (wsV RX7 116 RX7 yX7_isTied wsX7_isTied) := goodIn_app (goodIn_of _ (by decide +kernel)) ggX7_name_X7_isTied
theorem dX7_name_0 : decode cX7_name 0 = .ok (.iconst 0, 1) := by decide +kernel
theorem dX7_name_1 : decode cX7_name 1 = .ok (.istore_n 1, 1) := by decide +kernel
theorem dX7_name_2 : decode cX7_name 2 = .ok (.iload_n 1, 1) := by decide +kernel
theorem dX7_name_3 : decode cX7_name 3 = .ok (.aload_n 0, 1) := by decide +kernel
theorem dX7_name_4 : decode cX7_name 4 = .ok (.getfield 51, 3) := by decide +kernel
theorem dX7_name_7 : decode cX7_name 7 = .ok (.if_icmp .ge 28, 3) := by decide +kernel
theorem dX7_name_10 : decode cX7_name 10 = .ok (.aload_n 0, 1) := by decide +kernel
theorem dX7_name_11 : decode cX7_name 11 = .ok (.getfield 31, 3) := by decide +kernel
theorem dX7_name_14 : decode cX7_name 14 = .ok (.iload_n 1, 1) := by decide +kernel
theorem dX7_name_15 : decode cX7_name 15 = .ok (.aload_n 0, 1) := by decide +kernel
theorem dX7_name_16 : decode cX7_name 16 = .ok (.iload_n 1, 1) := by decide +kernel
theorem dX7_name_17 : decode cX7_name 17 = .ok (.invokevirtual 93, 3) := by decide +kernel
theorem dX7_name_20 : decode cX7_name 20 = .ok (.ifCond .eq 7, 3) := by decide +kernel
theorem dX7_name_23 : decode cX7_name 23 = .ok (.iload_n 1, 1) := by decide +kernel
theorem dX7_name_24 : decode cX7_name 24 = .ok (.goto 4, 3) := by decide +kernel
theorem dX7_name_27 : decode cX7_name 27 = .ok (.iconst (-1), 1) := by decide +kernel
theorem dX7_name_28 : decode cX7_name 28 = .ok (.iastore, 1) := by decide +kernel
theorem dX7_name_29 : decode cX7_name 29 = .ok (.iinc 1 1, 3) := by decide +kernel
theorem dX7_name_32 : decode cX7_name 32 = .ok (.goto (-30), 3) := by decide +kernel
theorem dX7_name_35 : decode cX7_name 35 = .ok (.iconst 1, 1) := by decide +kernel
theorem dX7_name_36 : decode cX7_name 36 = .ok (.istore_n 1, 1) := by decide +kernel
theorem dX7_name_37 : decode cX7_name 37 = .ok (.iload_n 1, 1) := by decide +kernel
theorem dX7_name_38 : decode cX7_name 38 = .ok (.ifCond .eq 104, 3) := by decide +kernel
theorem dX7_name_41 : decode cX7_name 41 = .ok (.iconst 0, 1) := by decide +kernel
theorem dX7_name_42 : decode cX7_name 42 = .ok (.istore_n 1, 1) := by decide +kernel
theorem dX7_name_43 : decode cX7_name 43 = .ok (.iconst 0, 1) := by decide +kernel
theorem dX7_name_44 : decode cX7_name 44 = .ok (.istore_n 2, 1) := by decide +kernel
theorem dX7_name_45 : decode cX7_name 45 = .ok (.iload_n 2, 1) := by decide +kernel
theorem dX7_name_46 : decode cX7_name 46 = .ok (.aload_n 0, 1) := by decide +kernel
theorem dX7_name_47 : decode cX7_name 47 = .ok (.getfield 51, 3) := by decide +kernel
theorem dX7_name_50 : decode cX7_name 50 = .ok (.if_icmp .ge 89, 3) := by decide +kernel
theorem dX7_name_53 : decode cX7_name 53 = .ok (.iload_n 2, 1) := by decide +kernel
theorem dX7_name_54 : decode cX7_name 54 = .ok (.iconst 1, 1) := by decide +kernel
theorem dX7_name_55 : decode cX7_name 55 = .ok (.iadd, 1) := by decide +kernel
theorem dX7_name_56 : decode cX7_name 56 = .ok (.istore_n 3, 1) := by decide +kernel
theorem dX7_name_57 : decode cX7_name 57 = .ok (.iload_n 3, 1) := by decide +kernel
theorem dX7_name_58 : decode cX7_name 58 = .ok (.aload_n 0, 1) := by decide +kernel
theorem dX7_name_59 : decode cX7_name 59 = .ok (.getfield 51, 3) := by decide +kernel
theorem dX7_name_62 : decode cX7_name 62 = .ok (.if_icmp .ge 71, 3) := by decide +kernel
theorem dX7_name_65 : decode cX7_name 65 = .ok (.aload_n 0, 1) := by decide +kernel
theorem dX7_name_66 : decode cX7_name 66 = .ok (.iload_n 2, 1) := by decide +kernel
theorem dX7_name_67 : decode cX7_name 67 = .ok (.iload_n 3, 1) := by decide +kernel
theorem dX7_name_68 : decode cX7_name 68 = .ok (.invokevirtual 116, 3) := by decide +kernel
theorem dX7_name_71 : decode cX7_name 71 = .ok (.ifCond .eq 56, 3) := by decide +kernel
theorem dX7_name_74 : decode cX7_name 74 = .ok (.aload_n 0, 1) := by decide +kernel
theorem dX7_name_75 : decode cX7_name 75 = .ok (.getfield 31, 3) := by decide +kernel
theorem dX7_name_78 : decode cX7_name 78 = .ok (.iload_n 2, 1) := by decide +kernel
theorem dX7_name_79 : decode cX7_name 79 = .ok (.iaload, 1) := by decide +kernel
theorem dX7_name_80 : decode cX7_name 80 = .ok (.aload_n 0, 1) := by decide +kernel
theorem dX7_name_81 : decode cX7_name 81 = .ok (.getfield 31, 3) := by decide +kernel
theorem dX7_name_84 : decode cX7_name 84 = .ok (.iload_n 3, 1) := by decide +kernel
theorem dX7_name_85 : decode cX7_name 85 = .ok (.iaload, 1) := by decide +kernel
theorem dX7_name_86 : decode cX7_name 86 = .ok (.if_icmp .ne 6, 3) := by decide +kernel
theorem dX7_name_89 : decode cX7_name 89 = .ok (.goto 38, 3) := by decide +kernel
theorem dX7_name_92 : decode cX7_name 92 = .ok (.aload_n 0, 1) := by decide +kernel
theorem dX7_name_93 : decode cX7_name 93 = .ok (.getfield 31, 3) := by decide +kernel
theorem dX7_name_96 : decode cX7_name 96 = .ok (.iload_n 2, 1) := by decide +kernel
theorem dX7_name_97 : decode cX7_name 97 = .ok (.aload_n 0, 1) := by decide +kernel
theorem dX7_name_98 : decode cX7_name 98 = .ok (.getfield 31, 3) := by decide +kernel
theorem dX7_name_101 : decode cX7_name 101 = .ok (.iload_n 2, 1) := by decide +kernel
theorem dX7_name_102 : decode cX7_name 102 = .ok (.iaload, 1) := by decide +kernel
theorem dX7_name_103 : decode cX7_name 103 = .ok (.aload_n 0, 1) := by decide +kernel
theorem dX7_name_104 : decode cX7_name 104 = .ok (.getfield 31, 3) := by decide +kernel
theorem dX7_name_107 : decode cX7_name 107 = .ok (.iload_n 3, 1) := by decide +kernel
theorem dX7_name_108 : decode cX7_name 108 = .ok (.iaload, 1) := by decide +kernel
theorem dX7_name_109 : decode cX7_name 109 = .ok (.invokestatic 62, 3) := by decide +kernel
theorem dX7_name_112 : decode cX7_name 112 = .ok (.iastore, 1) := by decide +kernel
theorem dX7_name_113 : decode cX7_name 113 = .ok (.aload_n 0, 1) := by decide +kernel
theorem dX7_name_114 : decode cX7_name 114 = .ok (.getfield 31, 3) := by decide +kernel
theorem dX7_name_117 : decode cX7_name 117 = .ok (.iload_n 3, 1) := by decide +kernel
theorem dX7_name_118 : decode cX7_name 118 = .ok (.aload_n 0, 1) := by decide +kernel
theorem dX7_name_119 : decode cX7_name 119 = .ok (.getfield 31, 3) := by decide +kernel
theorem dX7_name_122 : decode cX7_name 122 = .ok (.iload_n 2, 1) := by decide +kernel
theorem dX7_name_123 : decode cX7_name 123 = .ok (.iaload, 1) := by decide +kernel
theorem dX7_name_124 : decode cX7_name 124 = .ok (.iastore, 1) := by decide +kernel
theorem dX7_name_125 : decode cX7_name 125 = .ok (.iconst 1, 1) := by decide +kernel
theorem dX7_name_126 : decode cX7_name 126 = .ok (.istore_n 1, 1) := by decide +kernel
theorem dX7_name_127 : decode cX7_name 127 = .ok (.iinc 3 1, 3) := by decide +kernel
theorem dX7_name_130 : decode cX7_name 130 = .ok (.goto (-73), 3) := by decide +kernel
theorem dX7_name_133 : decode cX7_name 133 = .ok (.iinc 2 1, 3) := by decide +kernel
theorem dX7_name_136 : decode cX7_name 136 = .ok (.goto (-91), 3) := by decide +kernel
theorem dX7_name_139 : decode cX7_name 139 = .ok (.goto (-102), 3) := by decide +kernel
theorem dX7_name_142 : decode cX7_name 142 = .ok (.return_, 1) := by decide +kernel
set_option maxRecDepth 20000 in
theorem ggX7_tiesOf_X7_isTied : GoodIn wsX7_tiesOf wsX7_isTied := goodIn_r _ [6, 7, 8, 9, 5, 10, 11, 12, 13, 14, 15, 16, 17, 18, 19, 20, 21, 22, 23, 24, 25, 26, 27, 28, 29, 30, 31, 32, 33, 34, 35] (by decide +kernel) (by decide +kernel)
set_option maxRecDepth 20000 in
theorem gX7_tiesOf_X7_isTied : GoodIn wsX7_tiesOf (wsV RX7 116 RX7 yX7_isTied wsX7_isTied) := goodIn_app (goodIn_of _ (by decide +kernel)) ggX7_tiesOf_X7_isTied
theorem dX7_tiesOf_0 : decode cX7_tiesOf 0 = .ok (.iconst 0, 1) := by decide +kernel
theorem dX7_tiesOf_1 : decode cX7_tiesOf 1 = .ok (.istore_n 2, 1) := by decide +kernel
theorem dX7_tiesOf_2 : decode cX7_tiesOf 2 = .ok (.iconst 0, 1) := by decide +kernel
theorem dX7_tiesOf_3 : decode cX7_tiesOf 3 = .ok (.istore_n 3, 1) := by decide +kernel
theorem dX7_tiesOf_4 : decode cX7_tiesOf 4 = .ok (.iload_n 3, 1) := by decide +kernel
theorem dX7_tiesOf_5 : decode cX7_tiesOf 5 = .ok (.aload_n 0, 1) := by decide +kernel
theorem dX7_tiesOf_6 : decode cX7_tiesOf 6 = .ok (.getfield 51, 3) := by decide +kernel
theorem dX7_tiesOf_9 : decode cX7_tiesOf 9 = .ok (.if_icmp .ge 31, 3) := by decide +kernel
theorem dX7_tiesOf_12 : decode cX7_tiesOf 12 = .ok (.iload_n 2, 1) := by decide +kernel
theorem dX7_tiesOf_13 : decode cX7_tiesOf 13 = .ok (.iload_n 3, 1) := by decide +kernel
theorem dX7_tiesOf_14 : decode cX7_tiesOf 14 = .ok (.iload_n 1, 1) := by decide +kernel
theorem dX7_tiesOf_15 : decode cX7_tiesOf 15 = .ok (.if_icmp .eq 16, 3) := by decide +kernel
theorem dX7_tiesOf_18 : decode cX7_tiesOf 18 = .ok (.aload_n 0, 1) := by decide +kernel
theorem dX7_tiesOf_19 : decode cX7_tiesOf 19 = .ok (.iload_n 3, 1) := by decide +kernel
theorem dX7_tiesOf_20 : decode cX7_tiesOf 20 = .ok (.iload_n 1, 1) := by decide +kernel
theorem dX7_tiesOf_21 : decode cX7_tiesOf 21 = .ok (.invokevirtual 116, 3) := by decide +kernel
theorem dX7_tiesOf_24 : decode cX7_tiesOf 24 = .ok (.ifCond .eq 7, 3) := by decide +kernel
theorem dX7_tiesOf_27 : decode cX7_tiesOf 27 = .ok (.iconst 1, 1) := by decide +kernel
theorem dX7_tiesOf_28 : decode cX7_tiesOf 28 = .ok (.goto 4, 3) := by decide +kernel
theorem dX7_tiesOf_31 : decode cX7_tiesOf 31 = .ok (.iconst 0, 1) := by decide +kernel
theorem dX7_tiesOf_32 : decode cX7_tiesOf 32 = .ok (.iadd, 1) := by decide +kernel
theorem dX7_tiesOf_33 : decode cX7_tiesOf 33 = .ok (.istore_n 2, 1) := by decide +kernel
theorem dX7_tiesOf_34 : decode cX7_tiesOf 34 = .ok (.iinc 3 1, 3) := by decide +kernel
theorem dX7_tiesOf_37 : decode cX7_tiesOf 37 = .ok (.goto (-33), 3) := by decide +kernel
theorem dX7_tiesOf_40 : decode cX7_tiesOf 40 = .ok (.iload_n 2, 1) := by decide +kernel
theorem dX7_tiesOf_41 : decode cX7_tiesOf 41 = .ok (.ireturn, 1) := by decide +kernel
set_option maxRecDepth 20000 in
theorem ggX7_barrelTold_X7_fx : GoodIn wsX7_barrelTold wsX7_fx := goodIn_r _ [6, 7, 55, 56, 57, 58, 59, 60, 61, 62, 63, 64, 65, 66, 67, 68, 69, 70, 71, 72] (by decide +kernel) (by decide +kernel)
set_option maxRecDepth 20000 in
theorem gX7_barrelTold_X7_fx : GoodIn wsX7_barrelTold (wsV RX7 103 RX7 yX7_fx wsX7_fx) := goodIn_app (goodIn_of _ (by decide +kernel)) ggX7_barrelTold_X7_fx
set_option maxRecDepth 20000 in
theorem ggX7_barrelTold_X7_ba : GoodIn wsX7_barrelTold wsX7_ba := goodIn_r _ [11, 12, 55, 56, 57, 58, 59, 60, 61, 62, 63, 64, 65, 66, 67, 68, 69, 70, 71, 72] (by decide +kernel) (by decide +kernel)
set_option maxRecDepth 20000 in
theorem gX7_barrelTold_X7_ba : GoodIn wsX7_barrelTold (wsV RX7 58 RX7 yX7_ba wsX7_ba) := goodIn_app (goodIn_of _ (by decide +kernel)) ggX7_barrelTold_X7_ba
set_option maxRecDepth 20000 in
theorem ggX7_barrelTold_X7_name : GoodIn wsX7_barrelTold wsX7_name := goodIn_r _ [16, 17, 1, 18, 19, 20, 21, 22, 23, 24, 5, 25, 8, 9, 10, 11, 12, 26, 27, 28, 29, 30, 31, 32, 33, 34, 35, 36, 55, 56, 57, 58, 59, 60, 61, 62, 63, 64, 65, 66, 67, 68, 69, 70, 71, 72] (by decide +kernel) (by decide +kernel)
set_option maxRecDepth 20000 in
theorem gX7_barrelTold_X7_name : GoodIn wsX7_barrelTold (wsV RX7 133 RX7 yX7_name wsX7_name) := goodIn_app (goodIn_of _ (by decide +kernel)) ggX7_barrelTold_X7_name
set_option maxRecDepth 20000 in
theorem ggX7_barrelTold_X7_tiesOf : GoodIn wsX7_barrelTold wsX7_tiesOf := goodIn_r _ [40, 17, 26, 27, 28, 5, 29, 30, 31, 32, 33, 18, 19, 20, 21, 34, 35, 36, 55, 56, 57, 58, 59, 60, 61, 62, 63, 64, 65, 66, 67, 68, 69, 70, 71, 72] (by decide +kernel) (by decide +kernel)
set_option maxRecDepth 20000 in
theorem gX7_barrelTold_X7_tiesOf : GoodIn wsX7_barrelTold (wsV RX7 136 RX7 yX7_tiesOf wsX7_tiesOf) := goodIn_app (goodIn_of _ (by decide +kernel)) ggX7_barrelTold_X7_tiesOf
set_option maxRecDepth 20000 in
theorem ggX7_barrelTold_X7_lifts : GoodIn wsX7_barrelTold wsX7_lifts := goodIn_r _ [44, 2, 3, 4, 5, 6, 7, 8, 9, 10, 11, 12, 55, 56, 57, 58, 59, 60, 61, 62, 63, 64, 65, 66, 67, 68, 69, 70, 71, 72] (by decide +kernel) (by decide +kernel)
set_option maxRecDepth 20000 in
theorem gX7_barrelTold_X7_lifts : GoodIn wsX7_barrelTold (wsV RX7 139 RX7 yX7_lifts wsX7_lifts) := goodIn_app (goodIn_of _ (by decide +kernel)) ggX7_barrelTold_X7_lifts
set_option maxRecDepth 20000 in
theorem ggX7_barrelTold_X7_loadOf : GoodIn wsX7_barrelTold wsX7_loadOf := goodIn_r _ [48, 8, 9, 10, 5, 11, 12, 49, 50, 51, 52, 53, 54, 55, 56, 57, 58, 59, 60, 61, 62, 63, 64, 65, 66, 67, 68, 69, 70, 71, 72] (by decide +kernel) (by decide +kernel)
set_option maxRecDepth 20000 in
theorem gX7_barrelTold_X7_loadOf : GoodIn wsX7_barrelTold (wsV RX7 142 RX7 yX7_loadOf wsX7_loadOf) := goodIn_app (goodIn_of _ (by decide +kernel)) ggX7_barrelTold_X7_loadOf
theorem dX7_barrelTold_0 : decode cX7_barrelTold 0 = .ok (.iload_n 2, 1) := by decide +kernel
theorem dX7_barrelTold_1 : decode cX7_barrelTold 1 = .ok (.tableswitch 133 0 11 #[63, 73, 83, 83, 92, 92, 92, 101, 112, 112, 121, 127], 63) := by decide +kernel
theorem dX7_barrelTold_64 : decode cX7_barrelTold 64 = .ok (.aload_n 0, 1) := by decide +kernel
theorem dX7_barrelTold_65 : decode cX7_barrelTold 65 = .ok (.iload_n 1, 1) := by decide +kernel
theorem dX7_barrelTold_66 : decode cX7_barrelTold 66 = .ok (.iconst 0, 1) := by decide +kernel
theorem dX7_barrelTold_67 : decode cX7_barrelTold 67 = .ok (.invokevirtual 103, 3) := by decide +kernel
theorem dX7_barrelTold_70 : decode cX7_barrelTold 70 = .ok (.bipush 8, 2) := by decide +kernel
theorem dX7_barrelTold_72 : decode cX7_barrelTold 72 = .ok (.irem, 1) := by decide +kernel
theorem dX7_barrelTold_73 : decode cX7_barrelTold 73 = .ok (.ireturn, 1) := by decide +kernel
theorem dX7_barrelTold_74 : decode cX7_barrelTold 74 = .ok (.aload_n 0, 1) := by decide +kernel
theorem dX7_barrelTold_75 : decode cX7_barrelTold 75 = .ok (.iload_n 1, 1) := by decide +kernel
theorem dX7_barrelTold_76 : decode cX7_barrelTold 76 = .ok (.iconst 0, 1) := by decide +kernel
theorem dX7_barrelTold_77 : decode cX7_barrelTold 77 = .ok (.invokevirtual 103, 3) := by decide +kernel
theorem dX7_barrelTold_80 : decode cX7_barrelTold 80 = .ok (.bipush 8, 2) := by decide +kernel
theorem dX7_barrelTold_82 : decode cX7_barrelTold 82 = .ok (.idiv, 1) := by decide +kernel
theorem dX7_barrelTold_83 : decode cX7_barrelTold 83 = .ok (.ireturn, 1) := by decide +kernel
theorem dX7_barrelTold_84 : decode cX7_barrelTold 84 = .ok (.aload_n 0, 1) := by decide +kernel
theorem dX7_barrelTold_85 : decode cX7_barrelTold 85 = .ok (.iload_n 1, 1) := by decide +kernel
theorem dX7_barrelTold_86 : decode cX7_barrelTold 86 = .ok (.iload_n 2, 1) := by decide +kernel
theorem dX7_barrelTold_87 : decode cX7_barrelTold 87 = .ok (.iconst 1, 1) := by decide +kernel
theorem dX7_barrelTold_88 : decode cX7_barrelTold 88 = .ok (.isub, 1) := by decide +kernel
theorem dX7_barrelTold_89 : decode cX7_barrelTold 89 = .ok (.invokevirtual 103, 3) := by decide +kernel
theorem dX7_barrelTold_92 : decode cX7_barrelTold 92 = .ok (.ireturn, 1) := by decide +kernel
theorem dX7_barrelTold_93 : decode cX7_barrelTold 93 = .ok (.aload_n 0, 1) := by decide +kernel
theorem dX7_barrelTold_94 : decode cX7_barrelTold 94 = .ok (.iload_n 1, 1) := by decide +kernel
theorem dX7_barrelTold_95 : decode cX7_barrelTold 95 = .ok (.iload_n 2, 1) := by decide +kernel
theorem dX7_barrelTold_96 : decode cX7_barrelTold 96 = .ok (.iconst 4, 1) := by decide +kernel
theorem dX7_barrelTold_97 : decode cX7_barrelTold 97 = .ok (.isub, 1) := by decide +kernel
theorem dX7_barrelTold_98 : decode cX7_barrelTold 98 = .ok (.invokevirtual 58, 3) := by decide +kernel
theorem dX7_barrelTold_101 : decode cX7_barrelTold 101 = .ok (.ireturn, 1) := by decide +kernel
theorem dX7_barrelTold_102 : decode cX7_barrelTold 102 = .ok (.aload_n 0, 1) := by decide +kernel
theorem dX7_barrelTold_103 : decode cX7_barrelTold 103 = .ok (.invokevirtual 133, 3) := by decide +kernel
theorem dX7_barrelTold_106 : decode cX7_barrelTold 106 = .ok (.aload_n 0, 1) := by decide +kernel
theorem dX7_barrelTold_107 : decode cX7_barrelTold 107 = .ok (.getfield 31, 3) := by decide +kernel
theorem dX7_barrelTold_110 : decode cX7_barrelTold 110 = .ok (.iload_n 1, 1) := by decide +kernel
theorem dX7_barrelTold_111 : decode cX7_barrelTold 111 = .ok (.iaload, 1) := by decide +kernel
theorem dX7_barrelTold_112 : decode cX7_barrelTold 112 = .ok (.ireturn, 1) := by decide +kernel
theorem dX7_barrelTold_113 : decode cX7_barrelTold 113 = .ok (.aload_n 0, 1) := by decide +kernel
