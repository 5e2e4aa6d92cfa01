theorem dL_below_0 : decode cL_below 0 = .ok (.iload_n 0, 1) := by decide +kernel
theorem dL_below_1 : decode cL_below 1 = .ok (.ldc 7, 2) := by decide +kernel
theorem dL_below_3 : decode cL_below 3 = .ok (.iand, 1) := by decide +kernel
theorem dL_below_4 : decode cL_below 4 = .ok (.iload_n 1, 1) := by decide +kernel
theorem dL_below_5 : decode cL_below 5 = .ok (.irem, 1) := by decide +kernel
theorem dL_below_6 : decode cL_below 6 = .ok (.ireturn, 1) := by decide +kernel
theorem dL_cell_0 : decode cL_cell 0 = .ok (.iload_n 1, 1) := by decide +kernel
theorem dL_cell_1 : decode cL_cell 1 = .ok (.aload_n 0, 1) := by decide +kernel
theorem dL_cell_2 : decode cL_cell 2 = .ok (.arraylength, 1) := by decide +kernel
theorem dL_cell_3 : decode cL_cell 3 = .ok (.if_icmp .ge 9, 3) := by decide +kernel
theorem dL_cell_6 : decode cL_cell 6 = .ok (.aload_n 0, 1) := by decide +kernel
theorem dL_cell_7 : decode cL_cell 7 = .ok (.iload_n 1, 1) := by decide +kernel
theorem dL_cell_8 : decode cL_cell 8 = .ok (.iaload, 1) := by decide +kernel
theorem dL_cell_9 : decode cL_cell 9 = .ok (.goto 9, 3) := by decide +kernel
theorem dL_cell_12 : decode cL_cell 12 = .ok (.ldc 8, 2) := by decide +kernel
theorem dL_cell_14 : decode cL_cell 14 = .ok (.iload_n 1, 1) := by decide +kernel
theorem dL_cell_15 : decode cL_cell 15 = .ok (.iconst 3, 1) := by decide +kernel
theorem dL_cell_16 : decode cL_cell 16 = .ok (.iadd, 1) := by decide +kernel
theorem dL_cell_17 : decode cL_cell 17 = .ok (.imul, 1) := by decide +kernel
theorem dL_cell_18 : decode cL_cell 18 = .ok (.ireturn, 1) := by decide +kernel
set_option maxRecDepth 20000 in
theorem ggL_build_X7_init : GoodIn wsL_build wsX7_init := goodIn_r _ [9, 10, 11, 12, 13, 14, 15, 16, 17, 18, 213, 214, 215, 216, 217, 218, 219, 220, 221] (by decide +kernel) (by decide +kernel)
set_option maxRecDepth 20000 in
theorem gL_build_X7_init_n11 : GoodIn wsL_build (wsX7_init) := ggL_build_X7_init
set_option maxRecDepth 20000 in
theorem ggL_build_L_cell : GoodIn wsL_build wsL_cell := goodIn_r _ [22, 23] (by decide +kernel) (by decide +kernel)
set_option maxRecDepth 20000 in
theorem gL_build_L_cell : GoodIn wsL_build (va_wsS RL 12 yL_cell wsL_cell) := goodIn_app (goodIn_of _ (by decide +kernel)) ggL_build_L_cell
set_option maxRecDepth 20000 in
theorem ggL_build_L_below : GoodIn wsL_build wsL_below := goodIn_r _ [26, 27] (by decide +kernel) (by decide +kernel)
set_option maxRecDepth 20000 in
theorem gL_build_L_below : GoodIn wsL_build (va_wsS RL 18 yL_below wsL_below) := goodIn_app (goodIn_of _ (by decide +kernel)) ggL_build_L_below
set_option maxRecDepth 20000 in
theorem ggL_build_X6_addWater : GoodIn wsL_build wsX6_addWater := goodIn_ca (goodIn_ca (goodIn_r _ [32, 33, 34, 35, 36, 37, 38, 39, 40, 31, 41, 42, 43, 44, 45, 46, 47, 48, 49, 50, 51, 52, 53, 54, 55, 56, 57, 58, 222, 223, 224, 225, 226, 227, 228, 229, 230, 231, 232, 233] (by decide +kernel) (by decide +kernel)) (goodIn_sub (fun _ h => List.mem_cons_of_mem _ (List.mem_append_left _ (List.mem_append_left _ (List.mem_append_right _ h)))) (by decide +kernel))) (goodIn_sub (fun _ h => List.mem_cons_of_mem _ (List.mem_append_left _ (List.mem_append_right _ h))) (by decide +kernel))
set_option maxRecDepth 20000 in
theorem gL_build_X6_addWater : GoodIn wsL_build (wsV RL 22 RX6 yX6_addWater wsX6_addWater) := goodIn_app (goodIn_of _ (by decide +kernel)) ggL_build_X6_addWater
set_option maxRecDepth 20000 in
theorem ggL_build_X7_more : GoodIn wsL_build wsX7_more := goodIn_r _ [61, 14] (by decide +kernel) (by decide +kernel)
set_option maxRecDepth 20000 in
theorem gL_build_X7_more : GoodIn wsL_build (va_wsS RL 32 yX7_more wsX7_more) := goodIn_app (goodIn_of _ (by decide +kernel)) ggL_build_X7_more
set_option maxRecDepth 20000 in
theorem ggL_build_X6_addBarrel : GoodIn wsL_build wsX6_addBarrel := goodIn_ca (goodIn_ca (goodIn_r _ [65, 33, 34, 35, 36, 66, 67, 68, 69, 70, 31, 71, 72, 73, 74, 75, 76, 77, 78, 79, 80, 81, 82, 83, 84, 85, 86, 87, 88, 89, 90, 91, 92, 93, 222, 223, 224, 225, 226, 234, 235, 236, 237, 238, 239, 240, 241, 242, 243, 244, 245, 246, 247, 248, 249, 250, 251, 252] (by decide +kernel) (by decide +kernel)) (goodIn_sub (fun _ h => List.mem_cons_of_mem _ (List.mem_append_left _ (List.mem_append_left _ (List.mem_append_right _ h)))) (by decide +kernel))) (goodIn_sub (fun _ h => List.mem_cons_of_mem _ (List.mem_append_left _ (List.mem_append_right _ h))) (by decide +kernel))
set_option maxRecDepth 20000 in
theorem gL_build_X6_addBarrel : GoodIn wsL_build (wsV RL 36 RX6 yX6_addBarrel wsX6_addBarrel) := goodIn_app (goodIn_of _ (by decide +kernel)) ggL_build_X6_addBarrel
set_option maxRecDepth 20000 in
theorem ggL_build_L_tie : GoodIn wsL_build wsL_tie := goodIn_ca (goodIn_ca (goodIn_ca (goodIn_r _ [96, 6, 97, 98, 99, 100, 101, 24, 25, 21, 26, 27, 102, 103, 104, 3, 105, 106, 107, 108, 109, 110, 111, 14, 17, 4, 112, 113, 114, 115, 116, 117, 118, 119, 120, 60, 61, 121, 122, 123, 31, 124, 125, 126, 33, 34, 35, 36, 66, 67, 127, 128, 129, 130, 131, 132, 133, 75, 134, 77, 135, 136, 137, 138, 78, 139, 79, 84, 85, 140, 141, 142, 143, 93, 144, 145, 146, 147, 148, 149, 150, 151, 152, 153, 154, 155, 156, 157, 158, 159, 160, 161, 162, 163, 164, 165, 166, 167, 168, 169, 170, 171, 172, 173, 174, 175, 176, 177, 178, 179, 180, 181, 182, 183, 184, 185, 186, 187, 188, 189, 190, 88, 191, 192, 193, 194, 195, 196, 213, 214, 215, 216, 217, 218, 219, 220, 221, 222, 223, 224, 225, 226, 234, 235, 236, 237, 238, 239, 240, 241, 242, 243, 244, 245, 246, 247, 248, 249, 250, 251, 252, 253, 254, 255, 256, 257] (by decide +kernel) (by decide +kernel)) (goodIn_sub (fun _ h => List.mem_cons_of_mem _ (List.mem_append_right _ h)) (by decide +kernel))) (goodIn_sub (fun _ h => List.mem_cons_of_mem _ (List.mem_append_left _ (List.mem_append_left _ (List.mem_append_right _ h)))) (by decide +kernel))) (goodIn_sub (fun _ h => List.mem_cons_of_mem _ (List.mem_append_left _ (List.mem_append_right _ h))) (by decide +kernel))
set_option maxRecDepth 20000 in
theorem gL_build_L_tie : GoodIn wsL_build (va_wsS RL 43 yL_tie wsL_tie) := goodIn_app (goodIn_of _ (by decide +kernel)) ggL_build_L_tie
set_option maxRecDepth 20000 in
theorem ggL_build_X6_addCastaway : GoodIn wsL_build wsX6_addCastaway := goodIn_ca (goodIn_ca (goodIn_r _ [200, 125, 126, 35, 36, 66, 67, 201, 202, 203, 131, 132, 133, 75, 134, 77, 204, 141, 142, 143, 93, 144, 205, 206, 207, 208, 209, 210, 211, 212, 222, 223, 224, 225, 226, 234, 235, 236, 237, 238, 239, 240, 258, 259, 260, 241, 242, 243, 244, 245, 246, 247, 248, 249, 250, 251, 252] (by decide +kernel) (by decide +kernel)) (goodIn_sub (fun _ h => List.mem_cons_of_mem _ (List.mem_append_right _ h)) (by decide +kernel))) (goodIn_sub (fun _ h => List.mem_cons_of_mem _ (List.mem_append_left _ (List.mem_append_right _ h))) (by decide +kernel))
set_option maxRecDepth 20000 in
theorem gL_build_X6_addCastaway : GoodIn wsL_build (wsV RL 47 RX6 yX6_addCastaway wsX6_addCastaway) := goodIn_app (goodIn_of _ (by decide +kernel)) ggL_build_X6_addCastaway
theorem dL_build_0 : decode cL_build 0 = .ok (.new 9, 3) := by decide +kernel
theorem dL_build_3 : decode cL_build 3 = .ok (.dup, 1) := by decide +kernel
theorem dL_build_4 : decode cL_build 4 = .ok (.invokespecial 11, 3) := by decide +kernel
theorem dL_build_7 : decode cL_build 7 = .ok (.astore_n 3, 1) := by decide +kernel
theorem dL_build_8 : decode cL_build 8 = .ok (.aload_n 1, 1) := by decide +kernel
theorem dL_build_9 : decode cL_build 9 = .ok (.iconst 0, 1) := by decide +kernel
theorem dL_build_10 : decode cL_build 10 = .ok (.invokestatic 12, 3) := by decide +kernel
theorem dL_build_13 : decode cL_build 13 = .ok (.bipush 6, 2) := by decide +kernel
theorem dL_build_15 : decode cL_build 15 = .ok (.invokestatic 18, 3) := by decide +kernel
theorem dL_build_18 : decode cL_build 18 = .ok (.istore 4, 2) := by decide +kernel
theorem dL_build_20 : decode cL_build 20 = .ok (.iconst 0, 1) := by decide +kernel
theorem dL_build_21 : decode cL_build 21 = .ok (.istore 5, 2) := by decide +kernel
theorem dL_build_23 : decode cL_build 23 = .ok (.iload 5, 2) := by decide +kernel
theorem dL_build_25 : decode cL_build 25 = .ok (.iload 4, 2) := by decide +kernel
theorem dL_build_27 : decode cL_build 27 = .ok (.if_icmp .ge 275, 3) := by decide +kernel
theorem dL_build_30 : decode cL_build 30 = .ok (.aload_n 1, 1) := by decide +kernel
theorem dL_build_31 : decode cL_build 31 = .ok (.iconst 1, 1) := by decide +kernel
theorem dL_build_32 : decode cL_build 32 = .ok (.iload 5, 2) := by decide +kernel
theorem dL_build_34 : decode cL_build 34 = .ok (.iconst 3, 1) := by decide +kernel
theorem dL_build_35 : decode cL_build 35 = .ok (.irem, 1) := by decide +kernel
theorem dL_build_36 : decode cL_build 36 = .ok (.iadd, 1) := by decide +kernel
theorem dL_build_37 : decode cL_build 37 = .ok (.invokestatic 12, 3) := by decide +kernel
theorem dL_build_40 : decode cL_build 40 = .ok (.iconst 2, 1) := by decide +kernel
theorem dL_build_41 : decode cL_build 41 = .ok (.iload 5, 2) := by decide +kernel
theorem dL_build_43 : decode cL_build 43 = .ok (.imul, 1) := by decide +kernel
theorem dL_build_44 : decode cL_build 44 = .ok (.ishr, 1) := by decide +kernel
theorem dL_build_45 : decode cL_build 45 = .ok (.iload 5, 2) := by decide +kernel
theorem dL_build_47 : decode cL_build 47 = .ok (.iadd, 1) := by decide +kernel
theorem dL_build_48 : decode cL_build 48 = .ok (.istore 6, 2) := by decide +kernel
theorem dL_build_50 : decode cL_build 50 = .ok (.iload 6, 2) := by decide +kernel
theorem dL_build_52 : decode cL_build 52 = .ok (.bipush 30, 2) := by decide +kernel
theorem dL_build_54 : decode cL_build 54 = .ok (.invokestatic 18, 3) := by decide +kernel
theorem dL_build_57 : decode cL_build 57 = .ok (.istore 7, 2) := by decide +kernel
theorem dL_build_59 : decode cL_build 59 = .ok (.iload 6, 2) := by decide +kernel
theorem dL_build_61 : decode cL_build 61 = .ok (.iconst 2, 1) := by decide +kernel
theorem dL_build_62 : decode cL_build 62 = .ok (.ishr, 1) := by decide +kernel
theorem dL_build_63 : decode cL_build 63 = .ok (.bipush 20, 2) := by decide +kernel
theorem dL_build_65 : decode cL_build 65 = .ok (.invokestatic 18, 3) := by decide +kernel
theorem dL_build_68 : decode cL_build 68 = .ok (.istore 8, 2) := by decide +kernel
theorem dL_build_70 : decode cL_build 70 = .ok (.bipush 7, 2) := by decide +kernel
theorem dL_build_72 : decode cL_build 72 = .ok (.newarray .int, 2) := by decide +kernel
theorem dL_build_74 : decode cL_build 74 = .ok (.dup, 1) := by decide +kernel
theorem dL_build_75 : decode cL_build 75 = .ok (.iconst 0, 1) := by decide +kernel
theorem dL_build_76 : decode cL_build 76 = .ok (.iload 7, 2) := by decide +kernel
theorem dL_build_78 : decode cL_build 78 = .ok (.iastore, 1) := by decide +kernel
theorem dL_build_79 : decode cL_build 79 = .ok (.dup, 1) := by decide +kernel
theorem dL_build_80 : decode cL_build 80 = .ok (.iconst 1, 1) := by decide +kernel
theorem dL_build_81 : decode cL_build 81 = .ok (.iload 8, 2) := by decide +kernel
theorem dL_build_83 : decode cL_build 83 = .ok (.iastore, 1) := by decide +kernel
theorem dL_build_84 : decode cL_build 84 = .ok (.dup, 1) := by decide +kernel
theorem dL_build_85 : decode cL_build 85 = .ok (.iconst 2, 1) := by decide +kernel
theorem dL_build_86 : decode cL_build 86 = .ok (.iconst 1, 1) := by decide +kernel
theorem dL_build_87 : decode cL_build 87 = .ok (.iload 6, 2) := by decide +kernel
theorem dL_build_89 : decode cL_build 89 = .ok (.iconst 3, 1) := by decide +kernel
theorem dL_build_90 : decode cL_build 90 = .ok (.ishr, 1) := by decide +kernel
theorem dL_build_91 : decode cL_build 91 = .ok (.bipush 30, 2) := by decide +kernel
theorem dL_build_93 : decode cL_build 93 = .ok (.iload 7, 2) := by decide +kernel
theorem dL_build_95 : decode cL_build 95 = .ok (.isub, 1) := by decide +kernel
theorem dL_build_96 : decode cL_build 96 = .ok (.invokestatic 18, 3) := by decide +kernel
theorem dL_build_99 : decode cL_build 99 = .ok (.iadd, 1) := by decide +kernel
theorem dL_build_100 : decode cL_build 100 = .ok (.iastore, 1) := by decide +kernel
theorem dL_build_101 : decode cL_build 101 = .ok (.dup, 1) := by decide +kernel
theorem dL_build_102 : decode cL_build 102 = .ok (.iconst 3, 1) := by decide +kernel
theorem dL_build_103 : decode cL_build 103 = .ok (.iconst 1, 1) := by decide +kernel
theorem dL_build_104 : decode cL_build 104 = .ok (.iload 6, 2) := by decide +kernel
theorem dL_build_106 : decode cL_build 106 = .ok (.iconst 4, 1) := by decide +kernel
theorem dL_build_107 : decode cL_build 107 = .ok (.ishr, 1) := by decide +kernel
theorem dL_build_108 : decode cL_build 108 = .ok (.bipush 20, 2) := by decide +kernel
theorem dL_build_110 : decode cL_build 110 = .ok (.iload 8, 2) := by decide +kernel
theorem dL_build_112 : decode cL_build 112 = .ok (.isub, 1) := by decide +kernel
theorem dL_build_113 : decode cL_build 113 = .ok (.invokestatic 18, 3) := by decide +kernel
theorem dL_build_116 : decode cL_build 116 = .ok (.iadd, 1) := by decide +kernel
theorem dL_build_117 : decode cL_build 117 = .ok (.iastore, 1) := by decide +kernel
theorem dL_build_118 : decode cL_build 118 = .ok (.dup, 1) := by decide +kernel
theorem dL_build_119 : decode cL_build 119 = .ok (.iconst 4, 1) := by decide +kernel
theorem dL_build_120 : decode cL_build 120 = .ok (.iload 6, 2) := by decide +kernel
theorem dL_build_122 : decode cL_build 122 = .ok (.iconst 5, 1) := by decide +kernel
theorem dL_build_123 : decode cL_build 123 = .ok (.ishr, 1) := by decide +kernel
theorem dL_build_124 : decode cL_build 124 = .ok (.iconst 5, 1) := by decide +kernel
theorem dL_build_125 : decode cL_build 125 = .ok (.invokestatic 18, 3) := by decide +kernel
theorem dL_build_128 : decode cL_build 128 = .ok (.iconst 2, 1) := by decide +kernel
theorem dL_build_129 : decode cL_build 129 = .ok (.isub, 1) := by decide +kernel
theorem dL_build_130 : decode cL_build 130 = .ok (.iastore, 1) := by decide +kernel
theorem dL_build_131 : decode cL_build 131 = .ok (.dup, 1) := by decide +kernel
theorem dL_build_132 : decode cL_build 132 = .ok (.iconst 5, 1) := by decide +kernel
theorem dL_build_133 : decode cL_build 133 = .ok (.iload 6, 2) := by decide +kernel
theorem dL_build_135 : decode cL_build 135 = .ok (.bipush 6, 2) := by decide +kernel
theorem dL_build_137 : decode cL_build 137 = .ok (.ishr, 1) := by decide +kernel
theorem dL_build_138 : decode cL_build 138 = .ok (.iconst 5, 1) := by decide +kernel
theorem dL_build_139 : decode cL_build 139 = .ok (.invokestatic 18, 3) := by decide +kernel
theorem dL_build_142 : decode cL_build 142 = .ok (.iconst 2, 1) := by decide +kernel
theorem dL_build_143 : decode cL_build 143 = .ok (.isub, 1) := by decide +kernel
theorem dL_build_144 : decode cL_build 144 = .ok (.iastore, 1) := by decide +kernel
theorem dL_build_145 : decode cL_build 145 = .ok (.dup, 1) := by decide +kernel
theorem dL_build_146 : decode cL_build 146 = .ok (.bipush 6, 2) := by decide +kernel
theorem dL_build_148 : decode cL_build 148 = .ok (.iload 6, 2) := by decide +kernel
theorem dL_build_150 : decode cL_build 150 = .ok (.iconst 1, 1) := by decide +kernel
theorem dL_build_151 : decode cL_build 151 = .ok (.ishr, 1) := by decide +kernel
theorem dL_build_152 : decode cL_build 152 = .ok (.iload 6, 2) := by decide +kernel
theorem dL_build_154 : decode cL_build 154 = .ok (.bipush 7, 2) := by decide +kernel
theorem dL_build_156 : decode cL_build 156 = .ok (.ishr, 1) := by decide +kernel
theorem dL_build_157 : decode cL_build 157 = .ok (.iconst 2, 1) := by decide +kernel
theorem dL_build_158 : decode cL_build 158 = .ok (.invokestatic 18, 3) := by decide +kernel
theorem dL_build_161 : decode cL_build 161 = .ok (.ifCond .ne 8, 3) := by decide +kernel
theorem dL_build_164 : decode cL_build 164 = .ok (.bipush 21, 2) := by decide +kernel
theorem dL_build_166 : decode cL_build 166 = .ok (.goto 5, 3) := by decide +kernel
theorem dL_build_169 : decode cL_build 169 = .ok (.bipush 6, 2) := by decide +kernel
theorem dL_build_171 : decode cL_build 171 = .ok (.invokestatic 18, 3) := by decide +kernel
theorem dL_build_174 : decode cL_build 174 = .ok (.iastore, 1) := by decide +kernel
theorem dL_build_175 : decode cL_build 175 = .ok (.astore 9, 2) := by decide +kernel
theorem dL_build_177 : decode cL_build 177 = .ok (.iload 5, 2) := by decide +kernel
theorem dL_build_179 : decode cL_build 179 = .ok (.ifCond .ne 64, 3) := by decide +kernel
theorem dL_build_182 : decode cL_build 182 = .ok (.bipush 7, 2) := by decide +kernel
theorem dL_build_184 : decode cL_build 184 = .ok (.newarray .int, 2) := by decide +kernel
theorem dL_build_186 : decode cL_build 186 = .ok (.dup, 1) := by decide +kernel
theorem dL_build_187 : decode cL_build 187 = .ok (.iconst 0, 1) := by decide +kernel
theorem dL_build_188 : decode cL_build 188 = .ok (.iconst 0, 1) := by decide +kernel
theorem dL_build_189 : decode cL_build 189 = .ok (.iastore, 1) := by decide +kernel
theorem dL_build_190 : decode cL_build 190 = .ok (.dup, 1) := by decide +kernel
theorem dL_build_191 : decode cL_build 191 = .ok (.iconst 1, 1) := by decide +kernel
theorem dL_build_192 : decode cL_build 192 = .ok (.iconst 0, 1) := by decide +kernel
theorem dL_build_193 : decode cL_build 193 = .ok (.iastore, 1) := by decide +kernel
theorem dL_build_194 : decode cL_build 194 = .ok (.dup, 1) := by decide +kernel
theorem dL_build_195 : decode cL_build 195 = .ok (.iconst 2, 1) := by decide +kernel
theorem dL_build_196 : decode cL_build 196 = .ok (.bipush 30, 2) := by decide +kernel
theorem dL_build_198 : decode cL_build 198 = .ok (.iastore, 1) := by decide +kernel
theorem dL_build_199 : decode cL_build 199 = .ok (.dup, 1) := by decide +kernel
theorem dL_build_200 : decode cL_build 200 = .ok (.iconst 3, 1) := by decide +kernel
theorem dL_build_201 : decode cL_build 201 = .ok (.bipush 20, 2) := by decide +kernel
theorem dL_build_203 : decode cL_build 203 = .ok (.iastore, 1) := by decide +kernel
theorem dL_build_204 : decode cL_build 204 = .ok (.dup, 1) := by decide +kernel
theorem dL_build_205 : decode cL_build 205 = .ok (.iconst 4, 1) := by decide +kernel
theorem dL_build_206 : decode cL_build 206 = .ok (.iconst 1, 1) := by decide +kernel
theorem dL_build_207 : decode cL_build 207 = .ok (.iload 6, 2) := by decide +kernel
theorem dL_build_209 : decode cL_build 209 = .ok (.iconst 2, 1) := by decide +kernel
theorem dL_build_210 : decode cL_build 210 = .ok (.invokestatic 18, 3) := by decide +kernel
theorem dL_build_213 : decode cL_build 213 = .ok (.iadd, 1) := by decide +kernel
theorem dL_build_214 : decode cL_build 214 = .ok (.iastore, 1) := by decide +kernel
theorem dL_build_215 : decode cL_build 215 = .ok (.dup, 1) := by decide +kernel
theorem dL_build_216 : decode cL_build 216 = .ok (.iconst 5, 1) := by decide +kernel
theorem dL_build_217 : decode cL_build 217 = .ok (.iload 6, 2) := by decide +kernel
theorem dL_build_219 : decode cL_build 219 = .ok (.iconst 3, 1) := by decide +kernel
theorem dL_build_220 : decode cL_build 220 = .ok (.ishr, 1) := by decide +kernel
theorem dL_build_221 : decode cL_build 221 = .ok (.iconst 3, 1) := by decide +kernel
theorem dL_build_222 : decode cL_build 222 = .ok (.invokestatic 18, 3) := by decide +kernel
theorem dL_build_225 : decode cL_build 225 = .ok (.iconst 1, 1) := by decide +kernel
theorem dL_build_226 : decode cL_build 226 = .ok (.isub, 1) := by decide +kernel
theorem dL_build_227 : decode cL_build 227 = .ok (.iastore, 1) := by decide +kernel
theorem dL_build_228 : decode cL_build 228 = .ok (.dup, 1) := by decide +kernel
theorem dL_build_229 : decode cL_build 229 = .ok (.bipush 6, 2) := by decide +kernel
theorem dL_build_231 : decode cL_build 231 = .ok (.iload 6, 2) := by decide +kernel
theorem dL_build_233 : decode cL_build 233 = .ok (.iconst 5, 1) := by decide +kernel
theorem dL_build_234 : decode cL_build 234 = .ok (.ishr, 1) := by decide +kernel
theorem dL_build_235 : decode cL_build 235 = .ok (.bipush 9, 2) := by decide +kernel
theorem dL_build_237 : decode cL_build 237 = .ok (.invokestatic 18, 3) := by decide +kernel
theorem dL_build_240 : decode cL_build 240 = .ok (.iastore, 1) := by decide +kernel
theorem dL_build_241 : decode cL_build 241 = .ok (.astore 9, 2) := by decide +kernel
theorem dL_build_243 : decode cL_build 243 = .ok (.aload_n 0, 1) := by decide +kernel
theorem dL_build_244 : decode cL_build 244 = .ok (.aload 9, 2) := by decide +kernel
theorem dL_build_246 : decode cL_build 246 = .ok (.iconst 0, 1) := by decide +kernel
theorem dL_build_247 : decode cL_build 247 = .ok (.iaload, 1) := by decide +kernel
theorem dL_build_248 : decode cL_build 248 = .ok (.aload 9, 2) := by decide +kernel
theorem dL_build_250 : decode cL_build 250 = .ok (.iconst 1, 1) := by decide +kernel
theorem dL_build_251 : decode cL_build 251 = .ok (.iaload, 1) := by decide +kernel
theorem dL_build_252 : decode cL_build 252 = .ok (.aload 9, 2) := by decide +kernel
theorem dL_build_254 : decode cL_build 254 = .ok (.iconst 2, 1) := by decide +kernel
theorem dL_build_255 : decode cL_build 255 = .ok (.iaload, 1) := by decide +kernel
theorem dL_build_256 : decode cL_build 256 = .ok (.aload 9, 2) := by decide +kernel
theorem dL_build_258 : decode cL_build 258 = .ok (.iconst 3, 1) := by decide +kernel
theorem dL_build_259 : decode cL_build 259 = .ok (.iaload, 1) := by decide +kernel
theorem dL_build_260 : decode cL_build 260 = .ok (.aload 9, 2) := by decide +kernel
theorem dL_build_262 : decode cL_build 262 = .ok (.iconst 4, 1) := by decide +kernel
theorem dL_build_263 : decode cL_build 263 = .ok (.iaload, 1) := by decide +kernel
theorem dL_build_264 : decode cL_build 264 = .ok (.aload 9, 2) := by decide +kernel
theorem dL_build_266 : decode cL_build 266 = .ok (.iconst 5, 1) := by decide +kernel
theorem dL_build_267 : decode cL_build 267 = .ok (.iaload, 1) := by decide +kernel
theorem dL_build_268 : decode cL_build 268 = .ok (.aload 9, 2) := by decide +kernel
theorem dL_build_270 : decode cL_build 270 = .ok (.bipush 6, 2) := by decide +kernel
theorem dL_build_272 : decode cL_build 272 = .ok (.iaload, 1) := by decide +kernel
theorem dL_build_273 : decode cL_build 273 = .ok (.invokevirtual 22, 3) := by decide +kernel
theorem dL_build_276 : decode cL_build 276 = .ok (.iload 5, 2) := by decide +kernel
theorem dL_build_278 : decode cL_build 278 = .ok (.if_icmp .eq 5, 3) := by decide +kernel
theorem dL_build_281 : decode cL_build 281 = .ok (.aconst_null, 1) := by decide +kernel
theorem dL_build_282 : decode cL_build 282 = .ok (.areturn, 1) := by decide +kernel
theorem dL_build_283 : decode cL_build 283 = .ok (.aload_n 3, 1) := by decide +kernel
theorem dL_build_284 : decode cL_build 284 = .ok (.aload_n 3, 1) := by decide +kernel
theorem dL_build_285 : decode cL_build 285 = .ok (.getfield 28, 3) := by decide +kernel
theorem dL_build_288 : decode cL_build 288 = .ok (.aload 9, 2) := by decide +kernel
theorem dL_build_290 : decode cL_build 290 = .ok (.invokestatic 32, 3) := by decide +kernel
theorem dL_build_293 : decode cL_build 293 = .ok (.putfield 28, 3) := by decide +kernel
theorem dL_build_296 : decode cL_build 296 = .ok (.iinc 5 1, 3) := by decide +kernel
theorem dL_build_299 : decode cL_build 299 = .ok (.goto (-276), 3) := by decide +kernel
theorem dL_build_302 : decode cL_build 302 = .ok (.iconst 2, 1) := by decide +kernel
theorem dL_build_303 : decode cL_build 303 = .ok (.aload_n 1, 1) := by decide +kernel
theorem dL_build_304 : decode cL_build 304 = .ok (.iconst 4, 1) := by decide +kernel
theorem dL_build_305 : decode cL_build 305 = .ok (.invokestatic 12, 3) := by decide +kernel
theorem dL_build_308 : decode cL_build 308 = .ok (.iload_n 2, 1) := by decide +kernel
theorem dL_build_309 : decode cL_build 309 = .ok (.iconst 1, 1) := by decide +kernel
theorem dL_build_310 : decode cL_build 310 = .ok (.isub, 1) := by decide +kernel
theorem dL_build_311 : decode cL_build 311 = .ok (.invokestatic 18, 3) := by decide +kernel
theorem dL_build_314 : decode cL_build 314 = .ok (.iadd, 1) := by decide +kernel
theorem dL_build_315 : decode cL_build 315 = .ok (.istore 5, 2) := by decide +kernel
theorem dL_build_317 : decode cL_build 317 = .ok (.iconst 0, 1) := by decide +kernel
theorem dL_build_318 : decode cL_build 318 = .ok (.istore 6, 2) := by decide +kernel
theorem dL_build_320 : decode cL_build 320 = .ok (.iload 6, 2) := by decide +kernel
theorem dL_build_322 : decode cL_build 322 = .ok (.iload 5, 2) := by decide +kernel
theorem dL_build_324 : decode cL_build 324 = .ok (.if_icmp .ge 184, 3) := by decide +kernel
theorem dL_build_327 : decode cL_build 327 = .ok (.aload_n 1, 1) := by decide +kernel
theorem dL_build_328 : decode cL_build 328 = .ok (.iconst 5, 1) := by decide +kernel
theorem dL_build_329 : decode cL_build 329 = .ok (.iload 6, 2) := by decide +kernel
theorem dL_build_331 : decode cL_build 331 = .ok (.iconst 3, 1) := by decide +kernel
theorem dL_build_332 : decode cL_build 332 = .ok (.irem, 1) := by decide +kernel
theorem dL_build_333 : decode cL_build 333 = .ok (.iadd, 1) := by decide +kernel
theorem dL_build_334 : decode cL_build 334 = .ok (.invokestatic 12, 3) := by decide +kernel
theorem dL_build_337 : decode cL_build 337 = .ok (.iload 6, 2) := by decide +kernel
theorem dL_build_339 : decode cL_build 339 = .ok (.ishr, 1) := by decide +kernel
theorem dL_build_340 : decode cL_build 340 = .ok (.bipush 7, 2) := by decide +kernel
theorem dL_build_342 : decode cL_build 342 = .ok (.iload 6, 2) := by decide +kernel
theorem dL_build_344 : decode cL_build 344 = .ok (.imul, 1) := by decide +kernel
theorem dL_build_345 : decode cL_build 345 = .ok (.iadd, 1) := by decide +kernel
theorem dL_build_346 : decode cL_build 346 = .ok (.istore 7, 2) := by decide +kernel
theorem dL_build_348 : decode cL_build 348 = .ok (.iload 6, 2) := by decide +kernel
theorem dL_build_350 : decode cL_build 350 = .ok (.iconst 4, 1) := by decide +kernel
theorem dL_build_351 : decode cL_build 351 = .ok (.irem, 1) := by decide +kernel
theorem dL_build_352 : decode cL_build 352 = .ok (.iconst 2, 1) := by decide +kernel
theorem dL_build_353 : decode cL_build 353 = .ok (.aload_n 1, 1) := by decide +kernel
theorem dL_build_354 : decode cL_build 354 = .ok (.iconst 4, 1) := by decide +kernel
theorem dL_build_355 : decode cL_build 355 = .ok (.invokestatic 12, 3) := by decide +kernel
theorem dL_build_358 : decode cL_build 358 = .ok (.iconst 5, 1) := by decide +kernel
theorem dL_build_359 : decode cL_build 359 = .ok (.ishr, 1) := by decide +kernel
theorem dL_build_360 : decode cL_build 360 = .ok (.iconst 2, 1) := by decide +kernel
theorem dL_build_361 : decode cL_build 361 = .ok (.invokestatic 18, 3) := by decide +kernel
theorem dL_build_364 : decode cL_build 364 = .ok (.imul, 1) := by decide +kernel
theorem dL_build_365 : decode cL_build 365 = .ok (.iadd, 1) := by decide +kernel
theorem dL_build_366 : decode cL_build 366 = .ok (.istore 8, 2) := by decide +kernel
theorem dL_build_368 : decode cL_build 368 = .ok (.iload 6, 2) := by decide +kernel
theorem dL_build_370 : decode cL_build 370 = .ok (.iconst 4, 1) := by decide +kernel
theorem dL_build_371 : decode cL_build 371 = .ok (.idiv, 1) := by decide +kernel
theorem dL_build_372 : decode cL_build 372 = .ok (.aload_n 1, 1) := by decide +kernel
theorem dL_build_373 : decode cL_build 373 = .ok (.iconst 4, 1) := by decide +kernel
theorem dL_build_374 : decode cL_build 374 = .ok (.invokestatic 12, 3) := by decide +kernel
theorem dL_build_377 : decode cL_build 377 = .ok (.bipush 7, 2) := by decide +kernel
theorem dL_build_379 : decode cL_build 379 = .ok (.ishr, 1) := by decide +kernel
theorem dL_build_380 : decode cL_build 380 = .ok (.iconst 3, 1) := by decide +kernel
theorem dL_build_381 : decode cL_build 381 = .ok (.invokestatic 18, 3) := by decide +kernel
theorem dL_build_384 : decode cL_build 384 = .ok (.iadd, 1) := by decide +kernel
theorem dL_build_385 : decode cL_build 385 = .ok (.istore 9, 2) := by decide +kernel
theorem dL_build_387 : decode cL_build 387 = .ok (.iconst 5, 1) := by decide +kernel
theorem dL_build_388 : decode cL_build 388 = .ok (.iload 7, 2) := by decide +kernel
theorem dL_build_390 : decode cL_build 390 = .ok (.bipush 36, 2) := by decide +kernel
theorem dL_build_392 : decode cL_build 392 = .ok (.invokestatic 18, 3) := by decide +kernel
theorem dL_build_395 : decode cL_build 395 = .ok (.iadd, 1) := by decide +kernel
theorem dL_build_396 : decode cL_build 396 = .ok (.istore 10, 2) := by decide +kernel
theorem dL_build_398 : decode cL_build 398 = .ok (.iload 7, 2) := by decide +kernel
theorem dL_build_400 : decode cL_build 400 = .ok (.iconst 3, 1) := by decide +kernel
theorem dL_build_401 : decode cL_build 401 = .ok (.ishr, 1) := by decide +kernel
theorem dL_build_402 : decode cL_build 402 = .ok (.iconst 3, 1) := by decide +kernel
theorem dL_build_403 : decode cL_build 403 = .ok (.invokestatic 18, 3) := by decide +kernel
theorem dL_build_406 : decode cL_build 406 = .ok (.ifCond .ne 15, 3) := by decide +kernel
theorem dL_build_409 : decode cL_build 409 = .ok (.iload 7, 2) := by decide +kernel
theorem dL_build_411 : decode cL_build 411 = .ok (.iconst 5, 1) := by decide +kernel
theorem dL_build_412 : decode cL_build 412 = .ok (.ishr, 1) := by decide +kernel
theorem dL_build_413 : decode cL_build 413 = .ok (.bipush 10, 2) := by decide +kernel
theorem dL_build_415 : decode cL_build 415 = .ok (.invokestatic 18, 3) := by decide +kernel
theorem dL_build_418 : decode cL_build 418 = .ok (.goto 4, 3) := by decide +kernel
theorem dL_build_421 : decode cL_build 421 = .ok (.iconst 0, 1) := by decide +kernel
theorem dL_build_422 : decode cL_build 422 = .ok (.istore 11, 2) := by decide +kernel
theorem dL_build_424 : decode cL_build 424 = .ok (.aload_n 0, 1) := by decide +kernel
theorem dL_build_425 : decode cL_build 425 = .ok (.iload 8, 2) := by decide +kernel
theorem dL_build_427 : decode cL_build 427 = .ok (.iload 9, 2) := by decide +kernel
theorem dL_build_429 : decode cL_build 429 = .ok (.iload 10, 2) := by decide +kernel
theorem dL_build_431 : decode cL_build 431 = .ok (.iload 11, 2) := by decide +kernel
theorem dL_build_433 : decode cL_build 433 = .ok (.invokevirtual 36, 3) := by decide +kernel
theorem dL_build_436 : decode cL_build 436 = .ok (.iload 6, 2) := by decide +kernel
theorem dL_build_438 : decode cL_build 438 = .ok (.if_icmp .eq 5, 3) := by decide +kernel
theorem dL_build_441 : decode cL_build 441 = .ok (.aconst_null, 1) := by decide +kernel
theorem dL_build_442 : decode cL_build 442 = .ok (.areturn, 1) := by decide +kernel
theorem dL_build_443 : decode cL_build 443 = .ok (.aload_n 3, 1) := by decide +kernel
theorem dL_build_444 : decode cL_build 444 = .ok (.aload_n 3, 1) := by decide +kernel
theorem dL_build_445 : decode cL_build 445 = .ok (.getfield 40, 3) := by decide +kernel
theorem dL_build_448 : decode cL_build 448 = .ok (.bipush 9, 2) := by decide +kernel
theorem dL_build_450 : decode cL_build 450 = .ok (.newarray .int, 2) := by decide +kernel
theorem dL_build_452 : decode cL_build 452 = .ok (.dup, 1) := by decide +kernel
theorem dL_build_453 : decode cL_build 453 = .ok (.iconst 0, 1) := by decide +kernel
theorem dL_build_454 : decode cL_build 454 = .ok (.iload 8, 2) := by decide +kernel
theorem dL_build_456 : decode cL_build 456 = .ok (.iastore, 1) := by decide +kernel
theorem dL_build_457 : decode cL_build 457 = .ok (.dup, 1) := by decide +kernel
theorem dL_build_458 : decode cL_build 458 = .ok (.iconst 1, 1) := by decide +kernel
theorem dL_build_459 : decode cL_build 459 = .ok (.iload 9, 2) := by decide +kernel
theorem dL_build_461 : decode cL_build 461 = .ok (.iastore, 1) := by decide +kernel
theorem dL_build_462 : decode cL_build 462 = .ok (.dup, 1) := by decide +kernel
theorem dL_build_463 : decode cL_build 463 = .ok (.iconst 2, 1) := by decide +kernel
theorem dL_build_464 : decode cL_build 464 = .ok (.iload 10, 2) := by decide +kernel
theorem dL_build_466 : decode cL_build 466 = .ok (.iastore, 1) := by decide +kernel
theorem dL_build_467 : decode cL_build 467 = .ok (.dup, 1) := by decide +kernel
theorem dL_build_468 : decode cL_build 468 = .ok (.iconst 3, 1) := by decide +kernel
theorem dL_build_469 : decode cL_build 469 = .ok (.iload 11, 2) := by decide +kernel
theorem dL_build_471 : decode cL_build 471 = .ok (.iastore, 1) := by decide +kernel
theorem dL_build_472 : decode cL_build 472 = .ok (.dup, 1) := by decide +kernel
theorem dL_build_473 : decode cL_build 473 = .ok (.iconst 4, 1) := by decide +kernel
theorem dL_build_474 : decode cL_build 474 = .ok (.iconst 0, 1) := by decide +kernel
theorem dL_build_475 : decode cL_build 475 = .ok (.iastore, 1) := by decide +kernel
theorem dL_build_476 : decode cL_build 476 = .ok (.dup, 1) := by decide +kernel
theorem dL_build_477 : decode cL_build 477 = .ok (.iconst 5, 1) := by decide +kernel
theorem dL_build_478 : decode cL_build 478 = .ok (.iconst 0, 1) := by decide +kernel
theorem dL_build_479 : decode cL_build 479 = .ok (.iastore, 1) := by decide +kernel
theorem dL_build_480 : decode cL_build 480 = .ok (.dup, 1) := by decide +kernel
theorem dL_build_481 : decode cL_build 481 = .ok (.bipush 6, 2) := by decide +kernel
theorem dL_build_483 : decode cL_build 483 = .ok (.iconst 0, 1) := by decide +kernel
theorem dL_build_484 : decode cL_build 484 = .ok (.iastore, 1) := by decide +kernel
theorem dL_build_485 : decode cL_build 485 = .ok (.dup, 1) := by decide +kernel
theorem dL_build_486 : decode cL_build 486 = .ok (.bipush 7, 2) := by decide +kernel
theorem dL_build_488 : decode cL_build 488 = .ok (.iconst 0, 1) := by decide +kernel
theorem dL_build_489 : decode cL_build 489 = .ok (.iastore, 1) := by decide +kernel
theorem dL_build_490 : decode cL_build 490 = .ok (.dup, 1) := by decide +kernel
theorem dL_build_491 : decode cL_build 491 = .ok (.bipush 8, 2) := by decide +kernel
theorem dL_build_493 : decode cL_build 493 = .ok (.bipush 10, 2) := by decide +kernel
theorem dL_build_495 : decode cL_build 495 = .ok (.iastore, 1) := by decide +kernel
theorem dL_build_496 : decode cL_build 496 = .ok (.invokestatic 32, 3) := by decide +kernel
theorem dL_build_499 : decode cL_build 499 = .ok (.putfield 40, 3) := by decide +kernel
theorem dL_build_502 : decode cL_build 502 = .ok (.iinc 6 1, 3) := by decide +kernel
theorem dL_build_505 : decode cL_build 505 = .ok (.goto (-185), 3) := by decide +kernel
theorem dL_build_508 : decode cL_build 508 = .ok (.iconst 1, 1) := by decide +kernel
theorem dL_build_509 : decode cL_build 509 = .ok (.aload_n 1, 1) := by decide +kernel
theorem dL_build_510 : decode cL_build 510 = .ok (.bipush 8, 2) := by decide +kernel
theorem dL_build_512 : decode cL_build 512 = .ok (.invokestatic 12, 3) := by decide +kernel
theorem dL_build_515 : decode cL_build 515 = .ok (.bipush 10, 2) := by decide +kernel
theorem dL_build_517 : decode cL_build 517 = .ok (.invokestatic 18, 3) := by decide +kernel
theorem dL_build_520 : decode cL_build 520 = .ok (.iadd, 1) := by decide +kernel
theorem dL_build_521 : decode cL_build 521 = .ok (.istore 6, 2) := by decide +kernel
theorem dL_build_523 : decode cL_build 523 = .ok (.iconst 0, 1) := by decide +kernel
theorem dL_build_524 : decode cL_build 524 = .ok (.istore 7, 2) := by decide +kernel
theorem dL_build_526 : decode cL_build 526 = .ok (.iload 7, 2) := by decide +kernel
theorem dL_build_528 : decode cL_build 528 = .ok (.iload 6, 2) := by decide +kernel
theorem dL_build_530 : decode cL_build 530 = .ok (.if_icmp .ge 38, 3) := by decide +kernel
theorem dL_build_533 : decode cL_build 533 = .ok (.aload_n 0, 1) := by decide +kernel
theorem dL_build_534 : decode cL_build 534 = .ok (.aload_n 3, 1) := by decide +kernel
theorem dL_build_535 : decode cL_build 535 = .ok (.aload_n 1, 1) := by decide +kernel
theorem dL_build_536 : decode cL_build 536 = .ok (.bipush 9, 2) := by decide +kernel
theorem dL_build_538 : decode cL_build 538 = .ok (.iload 7, 2) := by decide +kernel
theorem dL_build_540 : decode cL_build 540 = .ok (.iconst 3, 1) := by decide +kernel
theorem dL_build_541 : decode cL_build 541 = .ok (.irem, 1) := by decide +kernel
theorem dL_build_542 : decode cL_build 542 = .ok (.iadd, 1) := by decide +kernel
theorem dL_build_543 : decode cL_build 543 = .ok (.invokestatic 12, 3) := by decide +kernel
theorem dL_build_546 : decode cL_build 546 = .ok (.iload 7, 2) := by decide +kernel
theorem dL_build_548 : decode cL_build 548 = .ok (.ishr, 1) := by decide +kernel
theorem dL_build_549 : decode cL_build 549 = .ok (.iconst 5, 1) := by decide +kernel
theorem dL_build_550 : decode cL_build 550 = .ok (.iload 7, 2) := by decide +kernel
theorem dL_build_552 : decode cL_build 552 = .ok (.imul, 1) := by decide +kernel
theorem dL_build_553 : decode cL_build 553 = .ok (.iadd, 1) := by decide +kernel
theorem dL_build_554 : decode cL_build 554 = .ok (.invokestatic 43, 3) := by decide +kernel
theorem dL_build_557 : decode cL_build 557 = .ok (.ifCond .ne 5, 3) := by decide +kernel
theorem dL_build_560 : decode cL_build 560 = .ok (.aconst_null, 1) := by decide +kernel
theorem dL_build_561 : decode cL_build 561 = .ok (.areturn, 1) := by decide +kernel
theorem dL_build_562 : decode cL_build 562 = .ok (.iinc 7 1, 3) := by decide +kernel
theorem dL_build_565 : decode cL_build 565 = .ok (.goto (-39), 3) := by decide +kernel
theorem dL_build_568 : decode cL_build 568 = .ok (.aload_n 1, 1) := by decide +kernel
theorem dL_build_569 : decode cL_build 569 = .ok (.bipush 12, 2) := by decide +kernel
theorem dL_build_571 : decode cL_build 571 = .ok (.invokestatic 12, 3) := by decide +kernel
theorem dL_build_574 : decode cL_build 574 = .ok (.iconst 5, 1) := by decide +kernel
theorem dL_build_575 : decode cL_build 575 = .ok (.invokestatic 18, 3) := by decide +kernel
theorem dL_build_578 : decode cL_build 578 = .ok (.istore 7, 2) := by decide +kernel
theorem dL_build_580 : decode cL_build 580 = .ok (.iconst 0, 1) := by decide +kernel
theorem dL_build_581 : decode cL_build 581 = .ok (.istore 8, 2) := by decide +kernel
theorem dL_build_583 : decode cL_build 583 = .ok (.iload 8, 2) := by decide +kernel
theorem dL_build_585 : decode cL_build 585 = .ok (.iload 7, 2) := by decide +kernel
theorem dL_build_587 : decode cL_build 587 = .ok (.if_icmp .ge 63, 3) := by decide +kernel
theorem dL_build_590 : decode cL_build 590 = .ok (.aload_n 1, 1) := by decide +kernel
theorem dL_build_591 : decode cL_build 591 = .ok (.bipush 13, 2) := by decide +kernel
theorem dL_build_593 : decode cL_build 593 = .ok (.invokestatic 12, 3) := by decide +kernel
theorem dL_build_596 : decode cL_build 596 = .ok (.iconst 3, 1) := by decide +kernel
theorem dL_build_597 : decode cL_build 597 = .ok (.iload 8, 2) := by decide +kernel
theorem dL_build_599 : decode cL_build 599 = .ok (.imul, 1) := by decide +kernel
theorem dL_build_600 : decode cL_build 600 = .ok (.ishr, 1) := by decide +kernel
theorem dL_build_601 : decode cL_build 601 = .ok (.iload 5, 2) := by decide +kernel
theorem dL_build_603 : decode cL_build 603 = .ok (.invokestatic 18, 3) := by decide +kernel
theorem dL_build_606 : decode cL_build 606 = .ok (.istore 9, 2) := by decide +kernel
theorem dL_build_608 : decode cL_build 608 = .ok (.aload_n 0, 1) := by decide +kernel
theorem dL_build_609 : decode cL_build 609 = .ok (.iload 9, 2) := by decide +kernel
theorem dL_build_611 : decode cL_build 611 = .ok (.invokevirtual 47, 3) := by decide +kernel
theorem dL_build_614 : decode cL_build 614 = .ok (.iload 8, 2) := by decide +kernel
theorem dL_build_616 : decode cL_build 616 = .ok (.if_icmp .eq 5, 3) := by decide +kernel
theorem dL_build_619 : decode cL_build 619 = .ok (.aconst_null, 1) := by decide +kernel
theorem dL_build_620 : decode cL_build 620 = .ok (.areturn, 1) := by decide +kernel
theorem dL_build_621 : decode cL_build 621 = .ok (.aload_n 3, 1) := by decide +kernel
theorem dL_build_622 : decode cL_build 622 = .ok (.aload_n 3, 1) := by decide +kernel
theorem dL_build_623 : decode cL_build 623 = .ok (.getfield 51, 3) := by decide +kernel
theorem dL_build_626 : decode cL_build 626 = .ok (.iconst 2, 1) := by decide +kernel
theorem dL_build_627 : decode cL_build 627 = .ok (.newarray .int, 2) := by decide +kernel
theorem dL_build_629 : decode cL_build 629 = .ok (.dup, 1) := by decide +kernel
theorem dL_build_630 : decode cL_build 630 = .ok (.iconst 0, 1) := by decide +kernel
theorem dL_build_631 : decode cL_build 631 = .ok (.iload 9, 2) := by decide +kernel
theorem dL_build_633 : decode cL_build 633 = .ok (.iastore, 1) := by decide +kernel
theorem dL_build_634 : decode cL_build 634 = .ok (.dup, 1) := by decide +kernel
theorem dL_build_635 : decode cL_build 635 = .ok (.iconst 1, 1) := by decide +kernel
theorem dL_build_636 : decode cL_build 636 = .ok (.iconst 0, 1) := by decide +kernel
theorem dL_build_637 : decode cL_build 637 = .ok (.iastore, 1) := by decide +kernel
theorem dL_build_638 : decode cL_build 638 = .ok (.invokestatic 32, 3) := by decide +kernel
theorem dL_build_641 : decode cL_build 641 = .ok (.putfield 51, 3) := by decide +kernel
theorem dL_build_644 : decode cL_build 644 = .ok (.iinc 8 1, 3) := by decide +kernel
theorem dL_build_647 : decode cL_build 647 = .ok (.goto (-64), 3) := by decide +kernel
theorem dL_build_650 : decode cL_build 650 = .ok (.aload_n 3, 1) := by decide +kernel
theorem dL_build_651 : decode cL_build 651 = .ok (.areturn, 1) := by decide +kernel
set_option maxRecDepth 20000 in
theorem ggL_tie_L_below : GoodIn wsL_tie wsL_below := goodIn_r _ [10, 11] (by decide +kernel) (by decide +kernel)
set_option maxRecDepth 20000 in
theorem gL_tie_L_below : GoodIn wsL_tie (va_wsS RL 18 yL_below wsL_below) := goodIn_app (goodIn_of _ (by decide +kernel)) ggL_tie_L_below
set_option maxRecDepth 20000 in
theorem ggL_tie_X7_tie_ : GoodIn wsL_tie wsX7_tie_ := goodIn_r _ [16, 17, 18, 4, 19, 20, 21, 22, 23, 24, 25, 26, 27, 28, 15, 29, 30, 31, 32, 33, 34, 35, 36, 128, 129, 130, 131, 132, 133, 134, 135, 136] (by decide +kernel) (by decide +kernel)
set_option maxRecDepth 20000 in
theorem gL_tie_X7_tie_ : GoodIn wsL_tie (wsV RL 63 RX7 yX7_tie_ wsX7_tie_) := goodIn_app (goodIn_of _ (by decide +kernel)) ggL_tie_X7_tie_
set_option maxRecDepth 20000 in
theorem ggL_tie_X6_tie : GoodIn wsL_tie wsX6_tie := goodIn_ca (goodIn_ca (goodIn_ca (goodIn_r _ [41, 42, 43, 44, 45, 46, 47, 48, 49, 50, 51, 52, 18, 4, 19, 53, 21, 22, 54, 55, 56, 57, 58, 59, 60, 61, 62, 63, 64, 65, 3, 5, 66, 67, 68, 69, 70, 71, 72, 73, 74, 75, 76, 77, 78, 79, 80, 81, 82, 83, 84, 85, 86, 87, 88, 89, 90, 91, 92, 93, 94, 95, 96, 97, 98, 99, 100, 101, 102, 103, 104, 105, 106, 107, 108, 109, 110, 111, 112, 113, 114, 115, 116, 117, 118, 119, 120, 121, 122, 123, 124, 125, 126, 127, 137, 138, 139, 140, 141, 142, 143, 144, 145, 146, 147, 148, 149, 150, 151, 152, 153, 154, 155, 156, 157, 158, 159, 160, 161, 162, 163, 164, 165] (by decide +kernel) (by decide +kernel)) (goodIn_sub (fun _ h => List.mem_cons_of_mem _ (List.mem_append_left _ (List.mem_append_left _ (List.mem_append_right _ h)))) (by decide +kernel))) (goodIn_sub (fun _ h => List.mem_cons_of_mem _ (List.mem_append_left _ (List.mem_append_right _ h))) (by decide +kernel))) (goodIn_sub (fun _ h => List.mem_cons_of_mem _ (List.mem_append_right _ h)) (by decide +kernel))
set_option maxRecDepth 20000 in
theorem gL_tie_X6_tie : GoodIn wsL_tie (wsV RL 66 RX6 yX6_tie wsX6_tie) := goodIn_app (goodIn_of _ (by decide +kernel)) ggL_tie_X6_tie
theorem dL_tie_0 : decode cL_tie 0 = .ok (.aload_n 1, 1) := by decide +kernel
theorem dL_tie_1 : decode cL_tie 1 = .ok (.getfield 40, 3) := by decide +kernel
theorem dL_tie_4 : decode cL_tie 4 = .ok (.arraylength, 1) := by decide +kernel
theorem dL_tie_5 : decode cL_tie 5 = .ok (.istore_n 3, 1) := by decide +kernel
theorem dL_tie_6 : decode cL_tie 6 = .ok (.iload_n 2, 1) := by decide +kernel
theorem dL_tie_7 : decode cL_tie 7 = .ok (.iload_n 3, 1) := by decide +kernel
theorem dL_tie_8 : decode cL_tie 8 = .ok (.invokestatic 18, 3) := by decide +kernel
theorem dL_tie_11 : decode cL_tie 11 = .ok (.istore 4, 2) := by decide +kernel
theorem dL_tie_13 : decode cL_tie 13 = .ok (.iconst 0, 1) := by decide +kernel
theorem dL_tie_14 : decode cL_tie 14 = .ok (.istore 5, 2) := by decide +kernel
theorem dL_tie_16 : decode cL_tie 16 = .ok (.iload 5, 2) := by decide +kernel
theorem dL_tie_18 : decode cL_tie 18 = .ok (.iload_n 3, 1) := by decide +kernel
theorem dL_tie_19 : decode cL_tie 19 = .ok (.if_icmp .ge 175, 3) := by decide +kernel
theorem dL_tie_22 : decode cL_tie 22 = .ok (.iload 5, 2) := by decide +kernel
theorem dL_tie_24 : decode cL_tie 24 = .ok (.iload_n 2, 1) := by decide +kernel
theorem dL_tie_25 : decode cL_tie 25 = .ok (.iconst 4, 1) := by decide +kernel
theorem dL_tie_26 : decode cL_tie 26 = .ok (.ishr, 1) := by decide +kernel
theorem dL_tie_27 : decode cL_tie 27 = .ok (.iload_n 3, 1) := by decide +kernel
theorem dL_tie_28 : decode cL_tie 28 = .ok (.invokestatic 18, 3) := by decide +kernel
theorem dL_tie_31 : decode cL_tie 31 = .ok (.iadd, 1) := by decide +kernel
theorem dL_tie_32 : decode cL_tie 32 = .ok (.iload_n 3, 1) := by decide +kernel
theorem dL_tie_33 : decode cL_tie 33 = .ok (.irem, 1) := by decide +kernel
theorem dL_tie_34 : decode cL_tie 34 = .ok (.istore 6, 2) := by decide +kernel
theorem dL_tie_36 : decode cL_tie 36 = .ok (.aload_n 1, 1) := by decide +kernel
theorem dL_tie_37 : decode cL_tie 37 = .ok (.getfield 40, 3) := by decide +kernel
theorem dL_tie_40 : decode cL_tie 40 = .ok (.iload 4, 2) := by decide +kernel
theorem dL_tie_42 : decode cL_tie 42 = .ok (.aaload, 1) := by decide +kernel
theorem dL_tie_43 : decode cL_tie 43 = .ok (.astore 7, 2) := by decide +kernel
theorem dL_tie_45 : decode cL_tie 45 = .ok (.aload_n 1, 1) := by decide +kernel
theorem dL_tie_46 : decode cL_tie 46 = .ok (.getfield 40, 3) := by decide +kernel
theorem dL_tie_49 : decode cL_tie 49 = .ok (.iload 6, 2) := by decide +kernel
theorem dL_tie_51 : decode cL_tie 51 = .ok (.aaload, 1) := by decide +kernel
theorem dL_tie_52 : decode cL_tie 52 = .ok (.astore 8, 2) := by decide +kernel
theorem dL_tie_54 : decode cL_tie 54 = .ok (.aload 7, 2) := by decide +kernel
theorem dL_tie_56 : decode cL_tie 56 = .ok (.iconst 0, 1) := by decide +kernel
theorem dL_tie_57 : decode cL_tie 57 = .ok (.iaload, 1) := by decide +kernel
theorem dL_tie_58 : decode cL_tie 58 = .ok (.aload 8, 2) := by decide +kernel
theorem dL_tie_60 : decode cL_tie 60 = .ok (.iconst 0, 1) := by decide +kernel
theorem dL_tie_61 : decode cL_tie 61 = .ok (.iaload, 1) := by decide +kernel
theorem dL_tie_62 : decode cL_tie 62 = .ok (.isub, 1) := by decide +kernel
theorem dL_tie_63 : decode cL_tie 63 = .ok (.invokestatic 54, 3) := by decide +kernel
theorem dL_tie_66 : decode cL_tie 66 = .ok (.aload 7, 2) := by decide +kernel
theorem dL_tie_68 : decode cL_tie 68 = .ok (.iconst 1, 1) := by decide +kernel
theorem dL_tie_69 : decode cL_tie 69 = .ok (.iaload, 1) := by decide +kernel
theorem dL_tie_70 : decode cL_tie 70 = .ok (.aload 8, 2) := by decide +kernel
theorem dL_tie_72 : decode cL_tie 72 = .ok (.iconst 1, 1) := by decide +kernel
theorem dL_tie_73 : decode cL_tie 73 = .ok (.iaload, 1) := by decide +kernel
theorem dL_tie_74 : decode cL_tie 74 = .ok (.isub, 1) := by decide +kernel
theorem dL_tie_75 : decode cL_tie 75 = .ok (.invokestatic 54, 3) := by decide +kernel
theorem dL_tie_78 : decode cL_tie 78 = .ok (.iadd, 1) := by decide +kernel
theorem dL_tie_79 : decode cL_tie 79 = .ok (.iconst 1, 1) := by decide +kernel
theorem dL_tie_80 : decode cL_tie 80 = .ok (.if_icmp .ne 108, 3) := by decide +kernel
theorem dL_tie_83 : decode cL_tie 83 = .ok (.aload 7, 2) := by decide +kernel
theorem dL_tie_85 : decode cL_tie 85 = .ok (.bipush 6, 2) := by decide +kernel
theorem dL_tie_87 : decode cL_tie 87 = .ok (.iaload, 1) := by decide +kernel
theorem dL_tie_88 : decode cL_tie 88 = .ok (.aload 8, 2) := by decide +kernel
theorem dL_tie_90 : decode cL_tie 90 = .ok (.bipush 6, 2) := by decide +kernel
theorem dL_tie_92 : decode cL_tie 92 = .ok (.iaload, 1) := by decide +kernel
theorem dL_tie_93 : decode cL_tie 93 = .ok (.iadd, 1) := by decide +kernel
theorem dL_tie_94 : decode cL_tie 94 = .ok (.ifCond .gt 94, 3) := by decide +kernel
theorem dL_tie_97 : decode cL_tie 97 = .ok (.aload 7, 2) := by decide +kernel
theorem dL_tie_99 : decode cL_tie 99 = .ok (.bipush 7, 2) := by decide +kernel
theorem dL_tie_101 : decode cL_tie 101 = .ok (.iaload, 1) := by decide +kernel
theorem dL_tie_102 : decode cL_tie 102 = .ok (.aload 8, 2) := by decide +kernel
theorem dL_tie_104 : decode cL_tie 104 = .ok (.bipush 7, 2) := by decide +kernel
theorem dL_tie_106 : decode cL_tie 106 = .ok (.iaload, 1) := by decide +kernel
theorem dL_tie_107 : decode cL_tie 107 = .ok (.if_icmp .ne 81, 3) := by decide +kernel
theorem dL_tie_110 : decode cL_tie 110 = .ok (.aload 7, 2) := by decide +kernel
theorem dL_tie_112 : decode cL_tie 112 = .ok (.bipush 8, 2) := by decide +kernel
theorem dL_tie_114 : decode cL_tie 114 = .ok (.iaload, 1) := by decide +kernel
theorem dL_tie_115 : decode cL_tie 115 = .ok (.aload 8, 2) := by decide +kernel
theorem dL_tie_117 : decode cL_tie 117 = .ok (.bipush 8, 2) := by decide +kernel
theorem dL_tie_119 : decode cL_tie 119 = .ok (.iaload, 1) := by decide +kernel
theorem dL_tie_120 : decode cL_tie 120 = .ok (.if_icmp .ne 68, 3) := by decide +kernel
theorem dL_tie_123 : decode cL_tie 123 = .ok (.aload_n 1, 1) := by decide +kernel
theorem dL_tie_124 : decode cL_tie 124 = .ok (.getfield 59, 3) := by decide +kernel
theorem dL_tie_127 : decode cL_tie 127 = .ok (.ifCond .ne 6, 3) := by decide +kernel
theorem dL_tie_130 : decode cL_tie 130 = .ok (.goto 58, 3) := by decide +kernel
theorem dL_tie_133 : decode cL_tie 133 = .ok (.iconst 1, 1) := by decide +kernel
theorem dL_tie_134 : decode cL_tie 134 = .ok (.iload_n 2, 1) := by decide +kernel
theorem dL_tie_135 : decode cL_tie 135 = .ok (.iconst 2, 1) := by decide +kernel
theorem dL_tie_136 : decode cL_tie 136 = .ok (.ishr, 1) := by decide +kernel
theorem dL_tie_137 : decode cL_tie 137 = .ok (.bipush 50, 2) := by decide +kernel
theorem dL_tie_139 : decode cL_tie 139 = .ok (.invokestatic 18, 3) := by decide +kernel
theorem dL_tie_142 : decode cL_tie 142 = .ok (.iadd, 1) := by decide +kernel
theorem dL_tie_143 : decode cL_tie 143 = .ok (.istore 9, 2) := by decide +kernel
theorem dL_tie_145 : decode cL_tie 145 = .ok (.aload_n 1, 1) := by decide +kernel
theorem dL_tie_146 : decode cL_tie 146 = .ok (.iload 4, 2) := by decide +kernel
theorem dL_tie_148 : decode cL_tie 148 = .ok (.iload 6, 2) := by decide +kernel
theorem dL_tie_150 : decode cL_tie 150 = .ok (.iload 9, 2) := by decide +kernel
theorem dL_tie_152 : decode cL_tie 152 = .ok (.invokevirtual 63, 3) := by decide +kernel
theorem dL_tie_155 : decode cL_tie 155 = .ok (.aload_n 1, 1) := by decide +kernel
theorem dL_tie_156 : decode cL_tie 156 = .ok (.dup, 1) := by decide +kernel
theorem dL_tie_157 : decode cL_tie 157 = .ok (.getfield 59, 3) := by decide +kernel
theorem dL_tie_160 : decode cL_tie 160 = .ok (.iconst 1, 1) := by decide +kernel
theorem dL_tie_161 : decode cL_tie 161 = .ok (.isub, 1) := by decide +kernel
theorem dL_tie_162 : decode cL_tie 162 = .ok (.putfield 59, 3) := by decide +kernel
theorem dL_tie_165 : decode cL_tie 165 = .ok (.aload_n 0, 1) := by decide +kernel
theorem dL_tie_166 : decode cL_tie 166 = .ok (.iload 4, 2) := by decide +kernel
theorem dL_tie_168 : decode cL_tie 168 = .ok (.iload 6, 2) := by decide +kernel
theorem dL_tie_170 : decode cL_tie 170 = .ok (.iload 9, 2) := by decide +kernel
theorem dL_tie_172 : decode cL_tie 172 = .ok (.invokevirtual 66, 3) := by decide +kernel
theorem dL_tie_175 : decode cL_tie 175 = .ok (.aload_n 1, 1) := by decide +kernel
theorem dL_tie_176 : decode cL_tie 176 = .ok (.getfield 59, 3) := by decide +kernel
theorem dL_tie_179 : decode cL_tie 179 = .ok (.if_icmp .ne 7, 3) := by decide +kernel
theorem dL_tie_182 : decode cL_tie 182 = .ok (.iconst 1, 1) := by decide +kernel
theorem dL_tie_183 : decode cL_tie 183 = .ok (.goto 4, 3) := by decide +kernel
theorem dL_tie_186 : decode cL_tie 186 = .ok (.iconst 0, 1) := by decide +kernel
theorem dL_tie_187 : decode cL_tie 187 = .ok (.ireturn, 1) := by decide +kernel
theorem dL_tie_188 : decode cL_tie 188 = .ok (.iinc 5 1, 3) := by decide +kernel
theorem dL_tie_191 : decode cL_tie 191 = .ok (.goto (-175), 3) := by decide +kernel
theorem dL_tie_194 : decode cL_tie 194 = .ok (.iconst 1, 1) := by decide +kernel
theorem dL_tie_195 : decode cL_tie 195 = .ok (.ireturn, 1) := by decide +kernel
set_option maxRecDepth 20000 in
theorem ggL_act_L_below : GoodIn wsL_act wsL_below := goodIn_r _ [14, 15] (by decide +kernel) (by decide +kernel)
set_option maxRecDepth 20000 in
theorem gL_act_L_below : GoodIn wsL_act (va_wsS RL 18 yL_below wsL_below) := goodIn_app (goodIn_of _ (by decide +kernel)) ggL_act_L_below
set_option maxRecDepth 20000 in
theorem ggL_act_L_tie : GoodIn wsL_act wsL_tie := goodIn_ca (goodIn_ca (goodIn_ca (goodIn_r _ [18, 1, 19, 20, 7, 21, 4, 11, 12, 13, 14, 15, 22, 23, 24, 25, 26, 27, 6, 8, 28, 29, 30, 31, 32, 33, 34, 35, 36, 37, 38, 39, 40, 41, 42, 43, 44, 45, 46, 47, 48, 49, 50, 51, 52, 53, 54, 55, 56, 57, 58, 59, 60, 61, 62, 63, 64, 65, 66, 67, 68, 69, 70, 71, 72, 73, 74, 75, 76, 77, 78, 79, 80, 81, 82, 83, 84, 85, 86, 87, 88, 89, 90, 91, 92, 93, 94, 95, 96, 97, 98, 99, 100, 101, 102, 103, 104, 105, 106, 107, 108, 109, 110, 111, 112, 113, 114, 115, 116, 117, 118, 119, 120, 121, 122, 123, 124, 125, 126, 127, 128, 129, 130, 131, 132, 133, 134, 135, 191, 192, 193, 194, 195, 196, 197, 198, 199, 200, 201, 202, 203, 204, 205, 206, 207, 208, 209, 210, 211, 212, 213, 214, 215, 216, 217, 218, 219, 220, 221, 222, 223, 224, 225, 226, 227, 228] (by decide +kernel) (by decide +kernel)) (goodIn_sub (fun _ h => List.mem_cons_of_mem _ (List.mem_append_left _ (List.mem_append_left _ (List.mem_append_right _ h)))) (by decide +kernel))) (goodIn_sub (fun _ h => List.mem_cons_of_mem _ (List.mem_append_left _ (List.mem_append_right _ h))) (by decide +kernel))) (goodIn_sub (fun _ h => List.mem_cons_of_mem _ (List.mem_append_right _ h)) (by decide +kernel))
set_option maxRecDepth 20000 in
theorem gL_act_L_tie : GoodIn wsL_act (va_wsS RL 43 yL_tie wsL_tie) := goodIn_app (goodIn_of _ (by decide +kernel)) ggL_act_L_tie
set_option maxRecDepth 20000 in
theorem ggL_act_X7_untie : GoodIn wsL_act wsX7_untie := goodIn_r _ [41, 31, 32, 42, 43, 25, 44, 191, 192, 193, 194, 195, 196, 197, 198, 199] (by decide +kernel) (by decide +kernel)
set_option maxRecDepth 20000 in
theorem gL_act_X7_untie : GoodIn wsL_act (wsV RL 72 RX7 yX7_untie wsX7_untie) := goodIn_app (goodIn_of _ (by decide +kernel)) ggL_act_X7_untie
set_option maxRecDepth 20000 in
theorem ggL_act_X6_cut : GoodIn wsL_act wsX6_cut := goodIn_ca (goodIn_ca (goodIn_r _ [140, 50, 51, 54, 55, 56, 57, 59, 58, 60, 6, 7, 8, 62, 63, 64, 65, 66, 67, 141, 90, 91, 86, 92, 93, 94, 29, 30, 88, 95, 96, 142, 143, 144, 145, 101, 146, 147, 148, 149, 111, 112, 113, 114, 102, 115, 116, 117, 118, 119, 120, 121, 122, 123, 124, 125, 126, 127, 128, 129, 81, 130, 131, 132, 133, 134, 135, 200, 201, 202, 203, 204, 205, 206, 207, 208, 209, 210, 211, 212, 213, 214, 215, 216, 217, 218, 219, 220, 221, 222, 223, 224, 225, 226, 227, 228] (by decide +kernel) (by decide +kernel)) (goodIn_sub (fun _ h => List.mem_cons_of_mem _ (List.mem_append_left _ (List.mem_append_left _ (List.mem_append_right _ h)))) (by decide +kernel))) (goodIn_sub (fun _ h => List.mem_cons_of_mem _ (List.mem_append_right _ h)) (by decide +kernel))
set_option maxRecDepth 20000 in
theorem gL_act_X6_cut : GoodIn wsL_act (wsV RL 79 RX6 yX6_cut wsX6_cut) := goodIn_app (goodIn_of _ (by decide +kernel)) ggL_act_X6_cut
set_option maxRecDepth 20000 in
theorem ggL_act_X6_load : GoodIn wsL_act wsX6_load := goodIn_ca (goodIn_ca (goodIn_ca (goodIn_r _ [153, 50, 51, 52, 53, 54, 55, 56, 57, 154, 62, 63, 64, 65, 66, 67, 155, 78, 79, 80, 81, 82, 200, 201, 202, 203, 204, 205, 206, 207, 208, 209, 210, 211, 212, 213, 214, 215, 216, 217, 218, 219, 220, 221, 222, 223] (by decide +kernel) (by decide +kernel)) (goodIn_sub (fun _ h => List.mem_cons_of_mem _ (List.mem_append_left _ (List.mem_append_left _ (List.mem_append_right _ h)))) (by decide +kernel))) (goodIn_sub (fun _ h => List.mem_cons_of_mem _ (List.mem_append_left _ (List.mem_append_right _ h))) (by decide +kernel))) (goodIn_sub (fun _ h => List.mem_cons_of_mem _ (List.mem_append_right _ h)) (by decide +kernel))
set_option maxRecDepth 20000 in
theorem gL_act_X6_load : GoodIn wsL_act (wsV RL 82 RX6 yX6_load wsX6_load) := goodIn_app (goodIn_of _ (by decide +kernel)) ggL_act_X6_load
set_option maxRecDepth 20000 in
theorem ggL_act_X7_tie : GoodIn wsL_act wsX7_tie := goodIn_r _ [37, 32, 27, 6, 7, 8, 28, 29, 30, 191, 192, 193, 194, 195, 196, 197, 198, 199] (by decide +kernel) (by decide +kernel)
set_option maxRecDepth 20000 in
theorem gL_act_X7_tie : GoodIn wsL_act (wsV RL 85 RX7 yX7_tie wsX7_tie) := goodIn_app (goodIn_of _ (by decide +kernel)) ggL_act_X7_tie
set_option maxRecDepth 20000 in
theorem ggL_act_X6_go : GoodIn wsL_act wsX6_go := goodIn_ca (goodIn_ca (goodIn_r _ [160, 50, 51, 54, 55, 56, 161, 57, 162, 59, 163, 164, 165, 166, 167, 168, 169, 62, 63, 64, 65, 66, 67, 141, 90, 91, 86, 92, 93, 6, 7, 8, 94, 29, 30, 88, 95, 96, 200, 201, 202, 203, 204, 205, 206, 207, 208, 209, 210, 211, 229, 230, 231, 212, 213, 214, 215, 216, 217, 218, 219, 220, 221, 222, 223, 224, 225, 226, 227, 228] (by decide +kernel) (by decide +kernel)) (goodIn_sub (fun _ h => List.mem_cons_of_mem _ (List.mem_append_left _ (List.mem_append_left _ (List.mem_append_right _ h)))) (by decide +kernel))) (goodIn_sub (fun _ h => List.mem_cons_of_mem _ (List.mem_append_right _ h)) (by decide +kernel))
set_option maxRecDepth 20000 in
theorem gL_act_X6_go : GoodIn wsL_act (wsV RL 88 RX6 yX6_go wsX6_go) := goodIn_app (goodIn_of _ (by decide +kernel)) ggL_act_X6_go
set_option maxRecDepth 20000 in
theorem ggL_act_X7_load : GoodIn wsL_act wsX7_load := goodIn_r _ [173, 174, 175, 191, 192, 193, 194, 195, 196, 197, 198, 199] (by decide +kernel) (by decide +kernel)
set_option maxRecDepth 20000 in
theorem gL_act_X7_load : GoodIn wsL_act (wsV RL 91 RX7 yX7_load wsX7_load) := goodIn_app (goodIn_of _ (by decide +kernel)) ggL_act_X7_load
set_option maxRecDepth 20000 in
theorem ggL_act_X6_bail : GoodIn wsL_act wsX6_bail := goodIn_ca (goodIn_ca (goodIn_r _ [179, 50, 51, 54, 55, 56, 161, 162, 57, 180, 61, 29, 7, 30, 164, 165, 166, 167, 168, 169, 62, 63, 64, 65, 66, 67, 200, 201, 202, 203, 204, 205, 206, 207, 208, 209, 210, 211, 229, 230, 231, 212, 213, 214, 215, 216, 217, 218, 219, 220, 221, 222, 223] (by decide +kernel) (by decide +kernel)) (goodIn_sub (fun _ h => List.mem_cons_of_mem _ (List.mem_append_left _ (List.mem_append_left _ (List.mem_append_right _ h)))) (by decide +kernel))) (goodIn_sub (fun _ h => List.mem_cons_of_mem _ (List.mem_append_right _ h)) (by decide +kernel))
set_option maxRecDepth 20000 in
theorem gL_act_X6_bail : GoodIn wsL_act (wsV RL 93 RX6 yX6_bail wsX6_bail) := goodIn_app (goodIn_of _ (by decide +kernel)) ggL_act_X6_bail
set_option maxRecDepth 20000 in
theorem ggL_act_X6_setWind : GoodIn wsL_act wsX6_setWind := goodIn_ca (goodIn_r _ [184, 52, 53, 185, 186, 187, 188, 189, 48, 190, 200, 201, 202, 203, 204, 232, 233, 234, 235, 236, 237, 238] (by decide +kernel) (by decide +kernel)) (goodIn_sub (fun _ h => List.mem_cons_of_mem _ (List.mem_append_left _ (List.mem_append_right _ h))) (by decide +kernel))
set_option maxRecDepth 20000 in
theorem gL_act_X6_setWind : GoodIn wsL_act (wsV RL 102 RX6 yX6_setWind wsX6_setWind) := goodIn_app (goodIn_of _ (by decide +kernel)) ggL_act_X6_setWind
theorem dL_act_0 : decode cL_act 0 = .ok (.aload_n 1, 1) := by decide +kernel
theorem dL_act_1 : decode cL_act 1 = .ok (.getfield 40, 3) := by decide +kernel
theorem dL_act_4 : decode cL_act 4 = .ok (.arraylength, 1) := by decide +kernel
theorem dL_act_5 : decode cL_act 5 = .ok (.istore_n 3, 1) := by decide +kernel
theorem dL_act_6 : decode cL_act 6 = .ok (.iload_n 2, 1) := by decide +kernel
theorem dL_act_7 : decode cL_act 7 = .ok (.iload_n 3, 1) := by decide +kernel
theorem dL_act_8 : decode cL_act 8 = .ok (.invokestatic 18, 3) := by decide +kernel
theorem dL_act_11 : decode cL_act 11 = .ok (.istore 4, 2) := by decide +kernel
theorem dL_act_13 : decode cL_act 13 = .ok (.aload_n 1, 1) := by decide +kernel
theorem dL_act_14 : decode cL_act 14 = .ok (.getfield 51, 3) := by decide +kernel
theorem dL_act_17 : decode cL_act 17 = .ok (.arraylength, 1) := by decide +kernel
theorem dL_act_18 : decode cL_act 18 = .ok (.ifCond .ne 7, 3) := by decide +kernel
theorem dL_act_21 : decode cL_act 21 = .ok (.iconst (-1), 1) := by decide +kernel
theorem dL_act_22 : decode cL_act 22 = .ok (.goto 14, 3) := by decide +kernel
theorem dL_act_25 : decode cL_act 25 = .ok (.iload_n 2, 1) := by decide +kernel
theorem dL_act_26 : decode cL_act 26 = .ok (.iconst 3, 1) := by decide +kernel
theorem dL_act_27 : decode cL_act 27 = .ok (.ishr, 1) := by decide +kernel
theorem dL_act_28 : decode cL_act 28 = .ok (.aload_n 1, 1) := by decide +kernel
theorem dL_act_29 : decode cL_act 29 = .ok (.getfield 51, 3) := by decide +kernel
theorem dL_act_32 : decode cL_act 32 = .ok (.arraylength, 1) := by decide +kernel
theorem dL_act_33 : decode cL_act 33 = .ok (.invokestatic 18, 3) := by decide +kernel
theorem dL_act_36 : decode cL_act 36 = .ok (.istore 5, 2) := by decide +kernel
theorem dL_act_38 : decode cL_act 38 = .ok (.iload_n 2, 1) := by decide +kernel
theorem dL_act_39 : decode cL_act 39 = .ok (.bipush 6, 2) := by decide +kernel
theorem dL_act_41 : decode cL_act 41 = .ok (.ishr, 1) := by decide +kernel
theorem dL_act_42 : decode cL_act 42 = .ok (.bipush 7, 2) := by decide +kernel
theorem dL_act_44 : decode cL_act 44 = .ok (.invokestatic 18, 3) := by decide +kernel
theorem dL_act_47 : decode cL_act 47 = .ok (.tableswitch 415 0 5 #[37, 46, 118, 187, 271, 349], 37) := by decide +kernel
theorem dL_act_84 : decode cL_act 84 = .ok (.aload_n 0, 1) := by decide +kernel
theorem dL_act_85 : decode cL_act 85 = .ok (.aload_n 1, 1) := by decide +kernel
theorem dL_act_86 : decode cL_act 86 = .ok (.iload_n 2, 1) := by decide +kernel
theorem dL_act_87 : decode cL_act 87 = .ok (.iconst 2, 1) := by decide +kernel
theorem dL_act_88 : decode cL_act 88 = .ok (.ishr, 1) := by decide +kernel
theorem dL_act_89 : decode cL_act 89 = .ok (.invokestatic 43, 3) := by decide +kernel
theorem dL_act_92 : decode cL_act 92 = .ok (.ireturn, 1) := by decide +kernel
theorem dL_act_93 : decode cL_act 93 = .ok (.aload_n 1, 1) := by decide +kernel
theorem dL_act_94 : decode cL_act 94 = .ok (.getfield 69, 3) := by decide +kernel
theorem dL_act_97 : decode cL_act 97 = .ok (.arraylength, 1) := by decide +kernel
theorem dL_act_98 : decode cL_act 98 = .ok (.ifCond .ne 5, 3) := by decide +kernel
theorem dL_act_101 : decode cL_act 101 = .ok (.iconst 1, 1) := by decide +kernel
theorem dL_act_102 : decode cL_act 102 = .ok (.ireturn, 1) := by decide +kernel
theorem dL_act_103 : decode cL_act 103 = .ok (.aload_n 1, 1) := by decide +kernel
theorem dL_act_104 : decode cL_act 104 = .ok (.getfield 69, 3) := by decide +kernel
theorem dL_act_107 : decode cL_act 107 = .ok (.iload_n 2, 1) := by decide +kernel
theorem dL_act_108 : decode cL_act 108 = .ok (.aload_n 1, 1) := by decide +kernel
theorem dL_act_109 : decode cL_act 109 = .ok (.getfield 69, 3) := by decide +kernel
theorem dL_act_112 : decode cL_act 112 = .ok (.arraylength, 1) := by decide +kernel
theorem dL_act_113 : decode cL_act 113 = .ok (.invokestatic 18, 3) := by decide +kernel
theorem dL_act_116 : decode cL_act 116 = .ok (.aaload, 1) := by decide +kernel
theorem dL_act_117 : decode cL_act 117 = .ok (.astore 6, 2) := by decide +kernel
theorem dL_act_119 : decode cL_act 119 = .ok (.aload_n 1, 1) := by decide +kernel
theorem dL_act_120 : decode cL_act 120 = .ok (.aload 6, 2) := by decide +kernel
theorem dL_act_122 : decode cL_act 122 = .ok (.invokevirtual 72, 3) := by decide +kernel
theorem dL_act_125 : decode cL_act 125 = .ok (.aload_n 1, 1) := by decide +kernel
theorem dL_act_126 : decode cL_act 126 = .ok (.bipush 40, 2) := by decide +kernel
theorem dL_act_128 : decode cL_act 128 = .ok (.aload_n 1, 1) := by decide +kernel
theorem dL_act_129 : decode cL_act 129 = .ok (.getfield 59, 3) := by decide +kernel
theorem dL_act_132 : decode cL_act 132 = .ok (.iconst 1, 1) := by decide +kernel
theorem dL_act_133 : decode cL_act 133 = .ok (.iadd, 1) := by decide +kernel
theorem dL_act_134 : decode cL_act 134 = .ok (.invokestatic 76, 3) := by decide +kernel
theorem dL_act_137 : decode cL_act 137 = .ok (.putfield 59, 3) := by decide +kernel
theorem dL_act_140 : decode cL_act 140 = .ok (.aload_n 0, 1) := by decide +kernel
theorem dL_act_141 : decode cL_act 141 = .ok (.aload 6, 2) := by decide +kernel
theorem dL_act_143 : decode cL_act 143 = .ok (.iconst 1, 1) := by decide +kernel
theorem dL_act_144 : decode cL_act 144 = .ok (.iaload, 1) := by decide +kernel
theorem dL_act_145 : decode cL_act 145 = .ok (.aload 6, 2) := by decide +kernel
theorem dL_act_147 : decode cL_act 147 = .ok (.iconst 0, 1) := by decide +kernel
theorem dL_act_148 : decode cL_act 148 = .ok (.iaload, 1) := by decide +kernel
theorem dL_act_149 : decode cL_act 149 = .ok (.invokevirtual 79, 3) := by decide +kernel
theorem dL_act_152 : decode cL_act 152 = .ok (.aload_n 1, 1) := by decide +kernel
theorem dL_act_153 : decode cL_act 153 = .ok (.getfield 59, 3) := by decide +kernel
theorem dL_act_156 : decode cL_act 156 = .ok (.if_icmp .ne 7, 3) := by decide +kernel
theorem dL_act_159 : decode cL_act 159 = .ok (.iconst 1, 1) := by decide +kernel
theorem dL_act_160 : decode cL_act 160 = .ok (.goto 4, 3) := by decide +kernel
theorem dL_act_163 : decode cL_act 163 = .ok (.iconst 0, 1) := by decide +kernel
theorem dL_act_164 : decode cL_act 164 = .ok (.ireturn, 1) := by decide +kernel
theorem dL_act_165 : decode cL_act 165 = .ok (.aload_n 1, 1) := by decide +kernel
theorem dL_act_166 : decode cL_act 166 = .ok (.getfield 40, 3) := by decide +kernel
theorem dL_act_169 : decode cL_act 169 = .ok (.iload 4, 2) := by decide +kernel
theorem dL_act_171 : decode cL_act 171 = .ok (.aaload, 1) := by decide +kernel
theorem dL_act_172 : decode cL_act 172 = .ok (.bipush 6, 2) := by decide +kernel
theorem dL_act_174 : decode cL_act 174 = .ok (.iaload, 1) := by decide +kernel
theorem dL_act_175 : decode cL_act 175 = .ok (.ifCond .le 5, 3) := by decide +kernel
theorem dL_act_178 : decode cL_act 178 = .ok (.iconst 1, 1) := by decide +kernel
theorem dL_act_179 : decode cL_act 179 = .ok (.ireturn, 1) := by decide +kernel
theorem dL_act_180 : decode cL_act 180 = .ok (.aload_n 1, 1) := by decide +kernel
theorem dL_act_181 : decode cL_act 181 = .ok (.getfield 40, 3) := by decide +kernel
theorem dL_act_184 : decode cL_act 184 = .ok (.iload 4, 2) := by decide +kernel
theorem dL_act_186 : decode cL_act 186 = .ok (.aaload, 1) := by decide +kernel
theorem dL_act_187 : decode cL_act 187 = .ok (.iconst 5, 1) := by decide +kernel
theorem dL_act_188 : decode cL_act 188 = .ok (.iaload, 1) := by decide +kernel
theorem dL_act_189 : decode cL_act 189 = .ok (.istore 7, 2) := by decide +kernel
theorem dL_act_191 : decode cL_act 191 = .ok (.aload_n 1, 1) := by decide +kernel
theorem dL_act_192 : decode cL_act 192 = .ok (.getfield 40, 3) := by decide +kernel
theorem dL_act_195 : decode cL_act 195 = .ok (.iload 4, 2) := by decide +kernel
theorem dL_act_197 : decode cL_act 197 = .ok (.aaload, 1) := by decide +kernel
theorem dL_act_198 : decode cL_act 198 = .ok (.iconst 5, 1) := by decide +kernel
theorem dL_act_199 : decode cL_act 199 = .ok (.iload_n 2, 1) := by decide +kernel
theorem dL_act_200 : decode cL_act 200 = .ok (.iconst 2, 1) := by decide +kernel
theorem dL_act_201 : decode cL_act 201 = .ok (.ishr, 1) := by decide +kernel
theorem dL_act_202 : decode cL_act 202 = .ok (.bipush 31, 2) := by decide +kernel
theorem dL_act_204 : decode cL_act 204 = .ok (.invokestatic 18, 3) := by decide +kernel
theorem dL_act_207 : decode cL_act 207 = .ok (.iastore, 1) := by decide +kernel
theorem dL_act_208 : decode cL_act 208 = .ok (.aload_n 0, 1) := by decide +kernel
theorem dL_act_209 : decode cL_act 209 = .ok (.iload 4, 2) := by decide +kernel
theorem dL_act_211 : decode cL_act 211 = .ok (.aload_n 1, 1) := by decide +kernel
theorem dL_act_212 : decode cL_act 212 = .ok (.getfield 40, 3) := by decide +kernel
theorem dL_act_215 : decode cL_act 215 = .ok (.iload 4, 2) := by decide +kernel
theorem dL_act_217 : decode cL_act 217 = .ok (.aaload, 1) := by decide +kernel
theorem dL_act_218 : decode cL_act 218 = .ok (.iconst 5, 1) := by decide +kernel
theorem dL_act_219 : decode cL_act 219 = .ok (.iaload, 1) := by decide +kernel
theorem dL_act_220 : decode cL_act 220 = .ok (.invokevirtual 82, 3) := by decide +kernel
theorem dL_act_223 : decode cL_act 223 = .ok (.iload 7, 2) := by decide +kernel
theorem dL_act_225 : decode cL_act 225 = .ok (.if_icmp .ne 7, 3) := by decide +kernel
theorem dL_act_228 : decode cL_act 228 = .ok (.iconst 1, 1) := by decide +kernel
theorem dL_act_229 : decode cL_act 229 = .ok (.goto 4, 3) := by decide +kernel
theorem dL_act_232 : decode cL_act 232 = .ok (.iconst 0, 1) := by decide +kernel
theorem dL_act_233 : decode cL_act 233 = .ok (.ireturn, 1) := by decide +kernel
theorem dL_act_234 : decode cL_act 234 = .ok (.iload 5, 2) := by decide +kernel
theorem dL_act_236 : decode cL_act 236 = .ok (.ifCond .lt 33, 3) := by decide +kernel
theorem dL_act_239 : decode cL_act 239 = .ok (.aload_n 1, 1) := by decide +kernel
theorem dL_act_240 : decode cL_act 240 = .ok (.getfield 51, 3) := by decide +kernel
theorem dL_act_243 : decode cL_act 243 = .ok (.iload 5, 2) := by decide +kernel
theorem dL_act_245 : decode cL_act 245 = .ok (.aaload, 1) := by decide +kernel
theorem dL_act_246 : decode cL_act 246 = .ok (.iconst 0, 1) := by decide +kernel
theorem dL_act_247 : decode cL_act 247 = .ok (.iaload, 1) := by decide +kernel
theorem dL_act_248 : decode cL_act 248 = .ok (.ifCond .lt 21, 3) := by decide +kernel
theorem dL_act_251 : decode cL_act 251 = .ok (.aload_n 1, 1) := by decide +kernel
theorem dL_act_252 : decode cL_act 252 = .ok (.aload_n 1, 1) := by decide +kernel
theorem dL_act_253 : decode cL_act 253 = .ok (.getfield 51, 3) := by decide +kernel
theorem dL_act_256 : decode cL_act 256 = .ok (.iload 5, 2) := by decide +kernel
theorem dL_act_258 : decode cL_act 258 = .ok (.aaload, 1) := by decide +kernel
theorem dL_act_259 : decode cL_act 259 = .ok (.iconst 0, 1) := by decide +kernel
theorem dL_act_260 : decode cL_act 260 = .ok (.iaload, 1) := by decide +kernel
theorem dL_act_261 : decode cL_act 261 = .ok (.iload 4, 2) := by decide +kernel
theorem dL_act_263 : decode cL_act 263 = .ok (.invokevirtual 85, 3) := by decide +kernel
theorem dL_act_266 : decode cL_act 266 = .ok (.ifnonnull 5, 3) := by decide +kernel
theorem dL_act_269 : decode cL_act 269 = .ok (.iconst 1, 1) := by decide +kernel
theorem dL_act_270 : decode cL_act 270 = .ok (.ireturn, 1) := by decide +kernel
theorem dL_act_271 : decode cL_act 271 = .ok (.aload_n 1, 1) := by decide +kernel
theorem dL_act_272 : decode cL_act 272 = .ok (.getfield 51, 3) := by decide +kernel
theorem dL_act_275 : decode cL_act 275 = .ok (.iload 5, 2) := by decide +kernel
theorem dL_act_277 : decode cL_act 277 = .ok (.aaload, 1) := by decide +kernel
theorem dL_act_278 : decode cL_act 278 = .ok (.iconst 0, 1) := by decide +kernel
theorem dL_act_279 : decode cL_act 279 = .ok (.iload 4, 2) := by decide +kernel
theorem dL_act_281 : decode cL_act 281 = .ok (.iastore, 1) := by decide +kernel
theorem dL_act_282 : decode cL_act 282 = .ok (.aload_n 0, 1) := by decide +kernel
theorem dL_act_283 : decode cL_act 283 = .ok (.iload 5, 2) := by decide +kernel
theorem dL_act_285 : decode cL_act 285 = .ok (.iload 4, 2) := by decide +kernel
theorem dL_act_287 : decode cL_act 287 = .ok (.invokevirtual 88, 3) := by decide +kernel
theorem dL_act_290 : decode cL_act 290 = .ok (.aload_n 1, 1) := by decide +kernel
theorem dL_act_291 : decode cL_act 291 = .ok (.iload 4, 2) := by decide +kernel
theorem dL_act_293 : decode cL_act 293 = .ok (.invokevirtual 91, 3) := by decide +kernel
theorem dL_act_296 : decode cL_act 296 = .ok (.aload_n 1, 1) := by decide +kernel
theorem dL_act_297 : decode cL_act 297 = .ok (.getfield 40, 3) := by decide +kernel
theorem dL_act_300 : decode cL_act 300 = .ok (.iload 4, 2) := by decide +kernel
theorem dL_act_302 : decode cL_act 302 = .ok (.aaload, 1) := by decide +kernel
theorem dL_act_303 : decode cL_act 303 = .ok (.iconst 5, 1) := by decide +kernel
theorem dL_act_304 : decode cL_act 304 = .ok (.iaload, 1) := by decide +kernel
theorem dL_act_305 : decode cL_act 305 = .ok (.isub, 1) := by decide +kernel
theorem dL_act_306 : decode cL_act 306 = .ok (.bipush 7, 2) := by decide +kernel
theorem dL_act_308 : decode cL_act 308 = .ok (.idiv, 1) := by decide +kernel
theorem dL_act_309 : decode cL_act 309 = .ok (.if_icmp .ne 7, 3) := by decide +kernel
theorem dL_act_312 : decode cL_act 312 = .ok (.iconst 1, 1) := by decide +kernel
theorem dL_act_313 : decode cL_act 313 = .ok (.goto 4, 3) := by decide +kernel
theorem dL_act_316 : decode cL_act 316 = .ok (.iconst 0, 1) := by decide +kernel
theorem dL_act_317 : decode cL_act 317 = .ok (.ireturn, 1) := by decide +kernel
theorem dL_act_318 : decode cL_act 318 = .ok (.iload 5, 2) := by decide +kernel
theorem dL_act_320 : decode cL_act 320 = .ok (.ifCond .lt 15, 3) := by decide +kernel
theorem dL_act_323 : decode cL_act 323 = .ok (.aload_n 1, 1) := by decide +kernel
theorem dL_act_324 : decode cL_act 324 = .ok (.getfield 51, 3) := by decide +kernel
theorem dL_act_327 : decode cL_act 327 = .ok (.iload 5, 2) := by decide +kernel
theorem dL_act_329 : decode cL_act 329 = .ok (.aaload, 1) := by decide +kernel
theorem dL_act_330 : decode cL_act 330 = .ok (.iconst 0, 1) := by decide +kernel
theorem dL_act_331 : decode cL_act 331 = .ok (.iaload, 1) := by decide +kernel
theorem dL_act_332 : decode cL_act 332 = .ok (.ifCond .ge 5, 3) := by decide +kernel
theorem dL_act_335 : decode cL_act 335 = .ok (.iconst 1, 1) := by decide +kernel
theorem dL_act_336 : decode cL_act 336 = .ok (.ireturn, 1) := by decide +kernel
theorem dL_act_337 : decode cL_act 337 = .ok (.aload_n 1, 1) := by decide +kernel
theorem dL_act_338 : decode cL_act 338 = .ok (.getfield 40, 3) := by decide +kernel
theorem dL_act_341 : decode cL_act 341 = .ok (.aload_n 1, 1) := by decide +kernel
theorem dL_act_342 : decode cL_act 342 = .ok (.getfield 51, 3) := by decide +kernel
theorem dL_act_345 : decode cL_act 345 = .ok (.iload 5, 2) := by decide +kernel
theorem dL_act_347 : decode cL_act 347 = .ok (.aaload, 1) := by decide +kernel
theorem dL_act_348 : decode cL_act 348 = .ok (.iconst 0, 1) := by decide +kernel
theorem dL_act_349 : decode cL_act 349 = .ok (.iaload, 1) := by decide +kernel
theorem dL_act_350 : decode cL_act 350 = .ok (.aaload, 1) := by decide +kernel
theorem dL_act_351 : decode cL_act 351 = .ok (.astore 8, 2) := by decide +kernel
theorem dL_act_353 : decode cL_act 353 = .ok (.aload 8, 2) := by decide +kernel
theorem dL_act_355 : decode cL_act 355 = .ok (.iconst 4, 1) := by decide +kernel
theorem dL_act_356 : decode cL_act 356 = .ok (.aload 8, 2) := by decide +kernel
theorem dL_act_358 : decode cL_act 358 = .ok (.iconst 4, 1) := by decide +kernel
theorem dL_act_359 : decode cL_act 359 = .ok (.iaload, 1) := by decide +kernel
theorem dL_act_360 : decode cL_act 360 = .ok (.bipush 25, 2) := by decide +kernel
theorem dL_act_362 : decode cL_act 362 = .ok (.if_icmp .le 13, 3) := by decide +kernel
theorem dL_act_365 : decode cL_act 365 = .ok (.aload 8, 2) := by decide +kernel
theorem dL_act_367 : decode cL_act 367 = .ok (.iconst 4, 1) := by decide +kernel
theorem dL_act_368 : decode cL_act 368 = .ok (.iaload, 1) := by decide +kernel
theorem dL_act_369 : decode cL_act 369 = .ok (.bipush 25, 2) := by decide +kernel
theorem dL_act_371 : decode cL_act 371 = .ok (.isub, 1) := by decide +kernel
theorem dL_act_372 : decode cL_act 372 = .ok (.goto 4, 3) := by decide +kernel
theorem dL_act_375 : decode cL_act 375 = .ok (.iconst 0, 1) := by decide +kernel
theorem dL_act_376 : decode cL_act 376 = .ok (.iastore, 1) := by decide +kernel
theorem dL_act_377 : decode cL_act 377 = .ok (.aload_n 0, 1) := by decide +kernel
theorem dL_act_378 : decode cL_act 378 = .ok (.iload 5, 2) := by decide +kernel
theorem dL_act_380 : decode cL_act 380 = .ok (.invokevirtual 93, 3) := by decide +kernel
theorem dL_act_383 : decode cL_act 383 = .ok (.aload 8, 2) := by decide +kernel
theorem dL_act_385 : decode cL_act 385 = .ok (.iconst 4, 1) := by decide +kernel
theorem dL_act_386 : decode cL_act 386 = .ok (.iaload, 1) := by decide +kernel
theorem dL_act_387 : decode cL_act 387 = .ok (.if_icmp .ne 7, 3) := by decide +kernel
theorem dL_act_390 : decode cL_act 390 = .ok (.iconst 1, 1) := by decide +kernel
theorem dL_act_391 : decode cL_act 391 = .ok (.goto 4, 3) := by decide +kernel
theorem dL_act_394 : decode cL_act 394 = .ok (.iconst 0, 1) := by decide +kernel
theorem dL_act_395 : decode cL_act 395 = .ok (.ireturn, 1) := by decide +kernel
theorem dL_act_396 : decode cL_act 396 = .ok (.iconst 5, 1) := by decide +kernel
theorem dL_act_397 : decode cL_act 397 = .ok (.aload_n 1, 1) := by decide +kernel
theorem dL_act_398 : decode cL_act 398 = .ok (.getfield 96, 3) := by decide +kernel
theorem dL_act_401 : decode cL_act 401 = .ok (.iconst 2, 1) := by decide +kernel
theorem dL_act_402 : decode cL_act 402 = .ok (.iadd, 1) := by decide +kernel
theorem dL_act_403 : decode cL_act 403 = .ok (.imul, 1) := by decide +kernel
theorem dL_act_404 : decode cL_act 404 = .ok (.aload_n 1, 1) := by decide +kernel
theorem dL_act_405 : decode cL_act 405 = .ok (.getfield 99, 3) := by decide +kernel
theorem dL_act_408 : decode cL_act 408 = .ok (.iadd, 1) := by decide +kernel
theorem dL_act_409 : decode cL_act 409 = .ok (.iconst 2, 1) := by decide +kernel
theorem dL_act_410 : decode cL_act 410 = .ok (.iadd, 1) := by decide +kernel
theorem dL_act_411 : decode cL_act 411 = .ok (.istore 9, 2) := by decide +kernel
theorem dL_act_413 : decode cL_act 413 = .ok (.aload_n 1, 1) := by decide +kernel
theorem dL_act_414 : decode cL_act 414 = .ok (.iload_n 2, 1) := by decide +kernel
theorem dL_act_415 : decode cL_act 415 = .ok (.iconst 1, 1) := by decide +kernel
theorem dL_act_416 : decode cL_act 416 = .ok (.ishr, 1) := by decide +kernel
theorem dL_act_417 : decode cL_act 417 = .ok (.iconst 5, 1) := by decide +kernel
theorem dL_act_418 : decode cL_act 418 = .ok (.invokestatic 18, 3) := by decide +kernel
theorem dL_act_421 : decode cL_act 421 = .ok (.iconst 2, 1) := by decide +kernel
theorem dL_act_422 : decode cL_act 422 = .ok (.isub, 1) := by decide +kernel
theorem dL_act_423 : decode cL_act 423 = .ok (.putfield 96, 3) := by decide +kernel
theorem dL_act_426 : decode cL_act 426 = .ok (.aload_n 1, 1) := by decide +kernel
theorem dL_act_427 : decode cL_act 427 = .ok (.iload_n 2, 1) := by decide +kernel
theorem dL_act_428 : decode cL_act 428 = .ok (.iconst 4, 1) := by decide +kernel
theorem dL_act_429 : decode cL_act 429 = .ok (.ishr, 1) := by decide +kernel
theorem dL_act_430 : decode cL_act 430 = .ok (.iconst 5, 1) := by decide +kernel
theorem dL_act_431 : decode cL_act 431 = .ok (.invokestatic 18, 3) := by decide +kernel
theorem dL_act_434 : decode cL_act 434 = .ok (.iconst 2, 1) := by decide +kernel
theorem dL_act_435 : decode cL_act 435 = .ok (.isub, 1) := by decide +kernel
theorem dL_act_436 : decode cL_act 436 = .ok (.putfield 99, 3) := by decide +kernel
theorem dL_act_439 : decode cL_act 439 = .ok (.aload_n 0, 1) := by decide +kernel
theorem dL_act_440 : decode cL_act 440 = .ok (.aload_n 1, 1) := by decide +kernel
theorem dL_act_441 : decode cL_act 441 = .ok (.getfield 96, 3) := by decide +kernel
theorem dL_act_444 : decode cL_act 444 = .ok (.aload_n 1, 1) := by decide +kernel
theorem dL_act_445 : decode cL_act 445 = .ok (.getfield 99, 3) := by decide +kernel
theorem dL_act_448 : decode cL_act 448 = .ok (.invokevirtual 102, 3) := by decide +kernel
theorem dL_act_451 : decode cL_act 451 = .ok (.iload 9, 2) := by decide +kernel
theorem dL_act_453 : decode cL_act 453 = .ok (.if_icmp .ne 7, 3) := by decide +kernel
theorem dL_act_456 : decode cL_act 456 = .ok (.iconst 1, 1) := by decide +kernel
theorem dL_act_457 : decode cL_act 457 = .ok (.goto 4, 3) := by decide +kernel
theorem dL_act_460 : decode cL_act 460 = .ok (.iconst 0, 1) := by decide +kernel
theorem dL_act_461 : decode cL_act 461 = .ok (.ireturn, 1) := by decide +kernel
theorem dL_act_462 : decode cL_act 462 = .ok (.iconst 1, 1) := by decide +kernel
theorem dL_act_463 : decode cL_act 463 = .ok (.ireturn, 1) := by decide +kernel
