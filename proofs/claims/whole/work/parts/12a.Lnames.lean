set_option maxRecDepth 20000 in
theorem ggL_addWater_X6_addWater : GoodIn wsL_addWater wsX6_addWater := goodIn_ca (goodIn_ca (goodIn_r _ [7, 8, 9, 10, 11, 12, 13, 14, 15, 6, 16, 17, 18, 19, 20, 21, 22, 23, 24, 25, 26, 27, 28, 29, 30, 31, 32, 33, 34, 35, 36, 37, 38, 39, 40, 41, 42, 43, 44, 45] (by decide +kernel) (by decide +kernel)) (goodIn_sub (fun _ h => List.mem_cons_of_mem _ (List.mem_append_left _ (List.mem_append_right _ h))) (by decide +kernel))) (goodIn_sub (fun _ h => List.mem_cons_of_mem _ (List.mem_append_right _ h)) (by decide +kernel))
set_option maxRecDepth 20000 in
theorem gL_addWater_X6_addWater : GoodIn wsL_addWater (wsV RL 7 RX6 yX6_addWater wsX6_addWater) := goodIn_app (goodIn_of _ (by decide +kernel)) ggL_addWater_X6_addWater
theorem dL_addWater_0 : decode cL_addWater 0 = .ok (.aload 8, 2) := by decide +kernel
theorem dL_addWater_2 : decode cL_addWater 2 = .ok (.iconst 0, 1) := by decide +kernel
theorem dL_addWater_3 : decode cL_addWater 3 = .ok (.aload_n 0, 1) := by decide +kernel
theorem dL_addWater_4 : decode cL_addWater 4 = .ok (.iload_n 1, 1) := by decide +kernel
theorem dL_addWater_5 : decode cL_addWater 5 = .ok (.iload_n 2, 1) := by decide +kernel
theorem dL_addWater_6 : decode cL_addWater 6 = .ok (.iload_n 3, 1) := by decide +kernel
theorem dL_addWater_7 : decode cL_addWater 7 = .ok (.iload 4, 2) := by decide +kernel
theorem dL_addWater_9 : decode cL_addWater 9 = .ok (.iload 5, 2) := by decide +kernel
theorem dL_addWater_11 : decode cL_addWater 11 = .ok (.iload 6, 2) := by decide +kernel
theorem dL_addWater_13 : decode cL_addWater 13 = .ok (.iload 7, 2) := by decide +kernel
theorem dL_addWater_15 : decode cL_addWater 15 = .ok (.invokevirtual 7, 3) := by decide +kernel
theorem dL_addWater_18 : decode cL_addWater 18 = .ok (.i2l, 1) := by decide +kernel
theorem dL_addWater_19 : decode cL_addWater 19 = .ok (.lastore, 1) := by decide +kernel
theorem dL_addWater_20 : decode cL_addWater 20 = .ok (.goto 11, 3) := by decide +kernel
theorem dL_addWater_23 : decode cL_addWater 23 = .ok (.astore 9, 2) := by decide +kernel
theorem dL_addWater_25 : decode cL_addWater 25 = .ok (.iconst 1, 1) := by decide +kernel
theorem dL_addWater_26 : decode cL_addWater 26 = .ok (.ireturn, 1) := by decide +kernel
theorem dL_addWater_27 : decode cL_addWater 27 = .ok (.astore 9, 2) := by decide +kernel
theorem dL_addWater_29 : decode cL_addWater 29 = .ok (.iconst 2, 1) := by decide +kernel
theorem dL_addWater_30 : decode cL_addWater 30 = .ok (.ireturn, 1) := by decide +kernel
theorem dL_addWater_31 : decode cL_addWater 31 = .ok (.iconst 0, 1) := by decide +kernel
theorem dL_addWater_32 : decode cL_addWater 32 = .ok (.ireturn, 1) := by decide +kernel
set_option maxRecDepth 20000 in
theorem ggL_sea_X6_sea : GoodIn wsL_sea wsX6_sea := goodIn_ca (goodIn_r _ [6, 7, 8, 9, 10, 11, 12, 13, 5, 14, 15, 16, 17, 18, 19, 20, 21, 22, 23, 24, 25, 26, 27, 28, 29, 30, 31, 32, 33, 34, 35, 36, 37, 38, 39, 40, 41, 42, 43, 44, 45, 46, 47, 48, 49, 50, 51, 52, 53, 54, 55, 56, 57, 58, 59, 60, 61, 62, 63, 64, 65, 66, 67, 68, 69, 70, 71, 72, 73, 74, 75, 76, 77, 78, 79, 80, 81, 82, 83] (by decide +kernel) (by decide +kernel)) (goodIn_sub (fun _ h => List.mem_cons_of_mem _ (List.mem_append_right _ h)) (by decide +kernel))
set_option maxRecDepth 20000 in
theorem gL_sea_X6_sea : GoodIn wsL_sea (wsV RL 17 RX6 yX6_sea wsX6_sea) := goodIn_app (goodIn_of _ (by decide +kernel)) ggL_sea_X6_sea
theorem dL_sea_0 : decode cL_sea 0 = .ok (.aload 4, 2) := by decide +kernel
theorem dL_sea_2 : decode cL_sea 2 = .ok (.iconst 0, 1) := by decide +kernel
theorem dL_sea_3 : decode cL_sea 3 = .ok (.aload_n 0, 1) := by decide +kernel
theorem dL_sea_4 : decode cL_sea 4 = .ok (.iload_n 1, 1) := by decide +kernel
theorem dL_sea_5 : decode cL_sea 5 = .ok (.iload_n 2, 1) := by decide +kernel
theorem dL_sea_6 : decode cL_sea 6 = .ok (.iload_n 3, 1) := by decide +kernel
theorem dL_sea_7 : decode cL_sea 7 = .ok (.invokevirtual 17, 3) := by decide +kernel
theorem dL_sea_10 : decode cL_sea 10 = .ok (.i2l, 1) := by decide +kernel
theorem dL_sea_11 : decode cL_sea 11 = .ok (.lastore, 1) := by decide +kernel
theorem dL_sea_12 : decode cL_sea 12 = .ok (.goto 7, 3) := by decide +kernel
theorem dL_sea_15 : decode cL_sea 15 = .ok (.astore 5, 2) := by decide +kernel
theorem dL_sea_17 : decode cL_sea 17 = .ok (.iconst 1, 1) := by decide +kernel
theorem dL_sea_18 : decode cL_sea 18 = .ok (.ireturn, 1) := by decide +kernel
theorem dL_sea_19 : decode cL_sea 19 = .ok (.iconst 0, 1) := by decide +kernel
theorem dL_sea_20 : decode cL_sea 20 = .ok (.ireturn, 1) := by decide +kernel
set_option maxRecDepth 20000 in
theorem ggL_setWind_X6_setWind : GoodIn wsL_setWind wsX6_setWind := goodIn_ca (goodIn_r _ [6, 7, 8, 9, 10, 11, 12, 13, 5, 14, 15, 16, 17, 18, 19, 20, 21, 22, 23, 24, 25, 26] (by decide +kernel) (by decide +kernel)) (goodIn_sub (fun _ h => List.mem_cons_of_mem _ (List.mem_append_right _ h)) (by decide +kernel))
set_option maxRecDepth 20000 in
theorem gL_setWind_X6_setWind : GoodIn wsL_setWind (wsV RL 23 RX6 yX6_setWind wsX6_setWind) := goodIn_app (goodIn_of _ (by decide +kernel)) ggL_setWind_X6_setWind
theorem dL_setWind_0 : decode cL_setWind 0 = .ok (.aload_n 3, 1) := by decide +kernel
theorem dL_setWind_1 : decode cL_setWind 1 = .ok (.iconst 0, 1) := by decide +kernel
theorem dL_setWind_2 : decode cL_setWind 2 = .ok (.aload_n 0, 1) := by decide +kernel
theorem dL_setWind_3 : decode cL_setWind 3 = .ok (.iload_n 1, 1) := by decide +kernel
theorem dL_setWind_4 : decode cL_setWind 4 = .ok (.iload_n 2, 1) := by decide +kernel
theorem dL_setWind_5 : decode cL_setWind 5 = .ok (.invokevirtual 23, 3) := by decide +kernel
theorem dL_setWind_8 : decode cL_setWind 8 = .ok (.i2l, 1) := by decide +kernel
theorem dL_setWind_9 : decode cL_setWind 9 = .ok (.lastore, 1) := by decide +kernel
theorem dL_setWind_10 : decode cL_setWind 10 = .ok (.goto 7, 3) := by decide +kernel
theorem dL_setWind_13 : decode cL_setWind 13 = .ok (.astore 4, 2) := by decide +kernel
theorem dL_setWind_15 : decode cL_setWind 15 = .ok (.iconst 1, 1) := by decide +kernel
theorem dL_setWind_16 : decode cL_setWind 16 = .ok (.ireturn, 1) := by decide +kernel
theorem dL_setWind_17 : decode cL_setWind 17 = .ok (.iconst 0, 1) := by decide +kernel
theorem dL_setWind_18 : decode cL_setWind 18 = .ok (.ireturn, 1) := by decide +kernel
set_option maxRecDepth 20000 in
theorem ggL_addBarrel_X6_addBarrel : GoodIn wsL_addBarrel wsX6_addBarrel := goodIn_ca (goodIn_ca (goodIn_r _ [7, 8, 9, 10, 11, 12, 13, 14, 15, 16, 6, 17, 18, 19, 20, 21, 22, 23, 24, 25, 26, 27, 28, 29, 30, 31, 32, 33, 34, 35, 36, 37, 38, 39, 40, 41, 42, 43, 44, 45, 46, 47, 48, 49, 50, 51, 52, 53, 54, 55, 56, 57, 58, 59, 60, 61, 62, 63] (by decide +kernel) (by decide +kernel)) (goodIn_sub (fun _ h => List.mem_cons_of_mem _ (List.mem_append_left _ (List.mem_append_right _ h))) (by decide +kernel))) (goodIn_sub (fun _ h => List.mem_cons_of_mem _ (List.mem_append_right _ h)) (by decide +kernel))
set_option maxRecDepth 20000 in
theorem gL_addBarrel_X6_addBarrel : GoodIn wsL_addBarrel (wsV RL 27 RX6 yX6_addBarrel wsX6_addBarrel) := goodIn_app (goodIn_of _ (by decide +kernel)) ggL_addBarrel_X6_addBarrel
theorem dL_addBarrel_0 : decode cL_addBarrel 0 = .ok (.aload 5, 2) := by decide +kernel
theorem dL_addBarrel_2 : decode cL_addBarrel 2 = .ok (.iconst 0, 1) := by decide +kernel
theorem dL_addBarrel_3 : decode cL_addBarrel 3 = .ok (.aload_n 0, 1) := by decide +kernel
theorem dL_addBarrel_4 : decode cL_addBarrel 4 = .ok (.iload_n 1, 1) := by decide +kernel
theorem dL_addBarrel_5 : decode cL_addBarrel 5 = .ok (.iload_n 2, 1) := by decide +kernel
theorem dL_addBarrel_6 : decode cL_addBarrel 6 = .ok (.iload_n 3, 1) := by decide +kernel
theorem dL_addBarrel_7 : decode cL_addBarrel 7 = .ok (.iload 4, 2) := by decide +kernel
theorem dL_addBarrel_9 : decode cL_addBarrel 9 = .ok (.invokevirtual 27, 3) := by decide +kernel
theorem dL_addBarrel_12 : decode cL_addBarrel 12 = .ok (.i2l, 1) := by decide +kernel
theorem dL_addBarrel_13 : decode cL_addBarrel 13 = .ok (.lastore, 1) := by decide +kernel
theorem dL_addBarrel_14 : decode cL_addBarrel 14 = .ok (.goto 11, 3) := by decide +kernel
theorem dL_addBarrel_17 : decode cL_addBarrel 17 = .ok (.astore 6, 2) := by decide +kernel
theorem dL_addBarrel_19 : decode cL_addBarrel 19 = .ok (.iconst 1, 1) := by decide +kernel
theorem dL_addBarrel_20 : decode cL_addBarrel 20 = .ok (.ireturn, 1) := by decide +kernel
theorem dL_addBarrel_21 : decode cL_addBarrel 21 = .ok (.astore 6, 2) := by decide +kernel
theorem dL_addBarrel_23 : decode cL_addBarrel 23 = .ok (.iconst 2, 1) := by decide +kernel
theorem dL_addBarrel_24 : decode cL_addBarrel 24 = .ok (.ireturn, 1) := by decide +kernel
theorem dL_addBarrel_25 : decode cL_addBarrel 25 = .ok (.iconst 0, 1) := by decide +kernel
theorem dL_addBarrel_26 : decode cL_addBarrel 26 = .ok (.ireturn, 1) := by decide +kernel
set_option maxRecDepth 20000 in
theorem ggL_tie_X6_tie : GoodIn wsL_tie wsX6_tie := goodIn_ca (goodIn_ca (goodIn_ca (goodIn_r _ [8, 9, 10, 11, 12, 13, 14, 15, 16, 17, 18, 19, 20, 21, 22, 23, 24, 25, 26, 27, 28, 29, 30, 31, 32, 33, 34, 35, 36, 37, 38, 39, 40, 41, 42, 43, 44, 45, 46, 47, 48, 49, 50, 51, 52, 53, 54, 55, 56, 57, 58, 59, 60, 61, 62, 63, 64, 65, 66, 67, 68, 69, 70, 71, 72, 73, 74, 75, 76, 77, 78, 79, 80, 81, 82, 83, 84, 85, 86, 87, 88, 89, 90, 91, 92, 93, 94, 95, 96, 97, 98, 99, 100, 101, 102, 103, 104, 105, 106, 107, 108, 109, 110, 111, 112, 113, 114, 115, 116, 117, 118, 119, 120, 121, 122, 123, 124, 125, 126, 127, 128, 129, 130] (by decide +kernel) (by decide +kernel)) (goodIn_sub (fun _ h => List.mem_cons_of_mem _ (List.mem_append_left _ (List.mem_append_left _ (List.mem_append_right _ h)))) (by decide +kernel))) (goodIn_sub (fun _ h => List.mem_cons_of_mem _ (List.mem_append_left _ (List.mem_append_right _ h))) (by decide +kernel))) (goodIn_sub (fun _ h => List.mem_cons_of_mem _ (List.mem_append_right _ h)) (by decide +kernel))
set_option maxRecDepth 20000 in
theorem gL_tie_X6_tie : GoodIn wsL_tie (wsV RL 31 RX6 yX6_tie wsX6_tie) := goodIn_app (goodIn_of _ (by decide +kernel)) ggL_tie_X6_tie
theorem dL_tie_0 : decode cL_tie 0 = .ok (.aload 4, 2) := by decide +kernel
theorem dL_tie_2 : decode cL_tie 2 = .ok (.iconst 0, 1) := by decide +kernel
theorem dL_tie_3 : decode cL_tie 3 = .ok (.aload_n 0, 1) := by decide +kernel
theorem dL_tie_4 : decode cL_tie 4 = .ok (.iload_n 1, 1) := by decide +kernel
theorem dL_tie_5 : decode cL_tie 5 = .ok (.iload_n 2, 1) := by decide +kernel
theorem dL_tie_6 : decode cL_tie 6 = .ok (.iload_n 3, 1) := by decide +kernel
theorem dL_tie_7 : decode cL_tie 7 = .ok (.invokevirtual 31, 3) := by decide +kernel
theorem dL_tie_10 : decode cL_tie 10 = .ok (.i2l, 1) := by decide +kernel
theorem dL_tie_11 : decode cL_tie 11 = .ok (.lastore, 1) := by decide +kernel
theorem dL_tie_12 : decode cL_tie 12 = .ok (.goto 15, 3) := by decide +kernel
theorem dL_tie_15 : decode cL_tie 15 = .ok (.astore 5, 2) := by decide +kernel
theorem dL_tie_17 : decode cL_tie 17 = .ok (.iconst 1, 1) := by decide +kernel
theorem dL_tie_18 : decode cL_tie 18 = .ok (.ireturn, 1) := by decide +kernel
theorem dL_tie_19 : decode cL_tie 19 = .ok (.astore 5, 2) := by decide +kernel
theorem dL_tie_21 : decode cL_tie 21 = .ok (.iconst 2, 1) := by decide +kernel
theorem dL_tie_22 : decode cL_tie 22 = .ok (.ireturn, 1) := by decide +kernel
theorem dL_tie_23 : decode cL_tie 23 = .ok (.astore 5, 2) := by decide +kernel
theorem dL_tie_25 : decode cL_tie 25 = .ok (.iconst 3, 1) := by decide +kernel
theorem dL_tie_26 : decode cL_tie 26 = .ok (.ireturn, 1) := by decide +kernel
theorem dL_tie_27 : decode cL_tie 27 = .ok (.iconst 0, 1) := by decide +kernel
theorem dL_tie_28 : decode cL_tie 28 = .ok (.ireturn, 1) := by decide +kernel
set_option maxRecDepth 20000 in
theorem ggL_cut_X6_cut : GoodIn wsL_cut wsX6_cut := goodIn_ca (goodIn_ca (goodIn_r _ [7, 8, 9, 10, 11, 12, 13, 14, 15, 16, 17, 18, 19, 20, 21, 22, 23, 24, 25, 26, 27, 28, 29, 30, 31, 32, 33, 34, 35, 36, 37, 38, 39, 40, 41, 42, 43, 44, 45, 46, 47, 48, 49, 50, 51, 52, 53, 54, 55, 56, 57, 58, 59, 60, 61, 62, 63, 64, 65, 66, 67, 68, 69, 70, 71, 72, 73, 74, 75, 76, 77, 78, 79, 80, 81, 82, 83, 84, 85, 86, 87, 88, 89, 90, 91, 92, 93, 94, 95, 96, 97, 98, 99, 100, 101, 102] (by decide +kernel) (by decide +kernel)) (goodIn_sub (fun _ h => List.mem_cons_of_mem _ (List.mem_append_left _ (List.mem_append_right _ h))) (by decide +kernel))) (goodIn_sub (fun _ h => List.mem_cons_of_mem _ (List.mem_append_right _ h)) (by decide +kernel))
set_option maxRecDepth 20000 in
theorem gL_cut_X6_cut : GoodIn wsL_cut (wsV RL 34 RX6 yX6_cut wsX6_cut) := goodIn_app (goodIn_of _ (by decide +kernel)) ggL_cut_X6_cut
theorem dL_cut_0 : decode cL_cut 0 = .ok (.aload_n 3, 1) := by decide +kernel
theorem dL_cut_1 : decode cL_cut 1 = .ok (.iconst 0, 1) := by decide +kernel
theorem dL_cut_2 : decode cL_cut 2 = .ok (.aload_n 0, 1) := by decide +kernel
theorem dL_cut_3 : decode cL_cut 3 = .ok (.iload_n 1, 1) := by decide +kernel
theorem dL_cut_4 : decode cL_cut 4 = .ok (.iload_n 2, 1) := by decide +kernel
theorem dL_cut_5 : decode cL_cut 5 = .ok (.invokevirtual 34, 3) := by decide +kernel
theorem dL_cut_8 : decode cL_cut 8 = .ok (.i2l, 1) := by decide +kernel
theorem dL_cut_9 : decode cL_cut 9 = .ok (.lastore, 1) := by decide +kernel
theorem dL_cut_10 : decode cL_cut 10 = .ok (.goto 11, 3) := by decide +kernel
theorem dL_cut_13 : decode cL_cut 13 = .ok (.astore 4, 2) := by decide +kernel
theorem dL_cut_15 : decode cL_cut 15 = .ok (.iconst 1, 1) := by decide +kernel
theorem dL_cut_16 : decode cL_cut 16 = .ok (.ireturn, 1) := by decide +kernel
theorem dL_cut_17 : decode cL_cut 17 = .ok (.astore 4, 2) := by decide +kernel
theorem dL_cut_19 : decode cL_cut 19 = .ok (.iconst 2, 1) := by decide +kernel
theorem dL_cut_20 : decode cL_cut 20 = .ok (.ireturn, 1) := by decide +kernel
theorem dL_cut_21 : decode cL_cut 21 = .ok (.iconst 0, 1) := by decide +kernel
theorem dL_cut_22 : decode cL_cut 22 = .ok (.ireturn, 1) := by decide +kernel
set_option maxRecDepth 20000 in
theorem ggL_load_X6_load : GoodIn wsL_load wsX6_load := goodIn_ca (goodIn_ca (goodIn_ca (goodIn_r _ [8, 9, 10, 11, 12, 13, 14, 15, 16, 17, 18, 19, 20, 21, 22, 23, 24, 25, 26, 27, 28, 29, 30, 31, 32, 33, 34, 35, 36, 37, 38, 39, 40, 41, 42, 43, 44, 45, 46, 47, 48, 49, 50, 51, 52, 53] (by decide +kernel) (by decide +kernel)) (goodIn_sub (fun _ h => List.mem_cons_of_mem _ (List.mem_append_left _ (List.mem_append_left _ (List.mem_append_right _ h)))) (by decide +kernel))) (goodIn_sub (fun _ h => List.mem_cons_of_mem _ (List.mem_append_left _ (List.mem_append_right _ h))) (by decide +kernel))) (goodIn_sub (fun _ h => List.mem_cons_of_mem _ (List.mem_append_right _ h)) (by decide +kernel))
set_option maxRecDepth 20000 in
theorem gL_load_X6_load : GoodIn wsL_load (wsV RL 37 RX6 yX6_load wsX6_load) := goodIn_app (goodIn_of _ (by decide +kernel)) ggL_load_X6_load
theorem dL_load_0 : decode cL_load 0 = .ok (.aload_n 3, 1) := by decide +kernel
theorem dL_load_1 : decode cL_load 1 = .ok (.iconst 0, 1) := by decide +kernel
theorem dL_load_2 : decode cL_load 2 = .ok (.aload_n 0, 1) := by decide +kernel
theorem dL_load_3 : decode cL_load 3 = .ok (.iload_n 1, 1) := by decide +kernel
theorem dL_load_4 : decode cL_load 4 = .ok (.iload_n 2, 1) := by decide +kernel
theorem dL_load_5 : decode cL_load 5 = .ok (.invokevirtual 37, 3) := by decide +kernel
theorem dL_load_8 : decode cL_load 8 = .ok (.i2l, 1) := by decide +kernel
theorem dL_load_9 : decode cL_load 9 = .ok (.lastore, 1) := by decide +kernel
theorem dL_load_10 : decode cL_load 10 = .ok (.goto 15, 3) := by decide +kernel
theorem dL_load_13 : decode cL_load 13 = .ok (.astore 4, 2) := by decide +kernel
theorem dL_load_15 : decode cL_load 15 = .ok (.iconst 1, 1) := by decide +kernel
theorem dL_load_16 : decode cL_load 16 = .ok (.ireturn, 1) := by decide +kernel
theorem dL_load_17 : decode cL_load 17 = .ok (.astore 4, 2) := by decide +kernel
theorem dL_load_19 : decode cL_load 19 = .ok (.iconst 2, 1) := by decide +kernel
theorem dL_load_20 : decode cL_load 20 = .ok (.ireturn, 1) := by decide +kernel
theorem dL_load_21 : decode cL_load 21 = .ok (.astore 4, 2) := by decide +kernel
theorem dL_load_23 : decode cL_load 23 = .ok (.iconst 3, 1) := by decide +kernel
theorem dL_load_24 : decode cL_load 24 = .ok (.ireturn, 1) := by decide +kernel
theorem dL_load_25 : decode cL_load 25 = .ok (.iconst 0, 1) := by decide +kernel
theorem dL_load_26 : decode cL_load 26 = .ok (.ireturn, 1) := by decide +kernel
set_option maxRecDepth 20000 in
theorem ggL_barrel_X6_barrel : GoodIn wsL_barrel wsX6_barrel := goodIn_ca (goodIn_r _ [6, 7, 8, 9, 10, 11, 12, 13, 14, 15, 16, 17, 18, 5, 19, 20, 21, 22, 23, 24, 25, 26, 27, 28, 29, 30, 31, 32, 33, 34, 35, 36, 37, 38, 39, 40, 41, 42, 43, 44, 45, 46, 47, 48, 49, 50, 51, 52, 53, 54, 55, 56, 57, 58, 59, 60, 61, 62, 63, 64, 65, 66, 67, 68, 69, 70, 71, 72, 73, 74, 75, 76, 77, 78, 79, 80, 81, 82, 83] (by decide +kernel) (by decide +kernel)) (goodIn_sub (fun _ h => List.mem_cons_of_mem _ (List.mem_append_right _ h)) (by decide +kernel))
set_option maxRecDepth 20000 in
theorem gL_barrel_X6_barrel : GoodIn wsL_barrel (wsV RL 40 RX6 yX6_barrel wsX6_barrel) := goodIn_app (goodIn_of _ (by decide +kernel)) ggL_barrel_X6_barrel
theorem dL_barrel_0 : decode cL_barrel 0 = .ok (.aload_n 3, 1) := by decide +kernel
theorem dL_barrel_1 : decode cL_barrel 1 = .ok (.iconst 0, 1) := by decide +kernel
theorem dL_barrel_2 : decode cL_barrel 2 = .ok (.aload_n 0, 1) := by decide +kernel
theorem dL_barrel_3 : decode cL_barrel 3 = .ok (.iload_n 1, 1) := by decide +kernel
theorem dL_barrel_4 : decode cL_barrel 4 = .ok (.iload_n 2, 1) := by decide +kernel
theorem dL_barrel_5 : decode cL_barrel 5 = .ok (.invokevirtual 40, 3) := by decide +kernel
theorem dL_barrel_8 : decode cL_barrel 8 = .ok (.i2l, 1) := by decide +kernel
theorem dL_barrel_9 : decode cL_barrel 9 = .ok (.lastore, 1) := by decide +kernel
theorem dL_barrel_10 : decode cL_barrel 10 = .ok (.goto 7, 3) := by decide +kernel
theorem dL_barrel_13 : decode cL_barrel 13 = .ok (.astore 4, 2) := by decide +kernel
theorem dL_barrel_15 : decode cL_barrel 15 = .ok (.iconst 1, 1) := by decide +kernel
theorem dL_barrel_16 : decode cL_barrel 16 = .ok (.ireturn, 1) := by decide +kernel
theorem dL_barrel_17 : decode cL_barrel 17 = .ok (.iconst 0, 1) := by decide +kernel
theorem dL_barrel_18 : decode cL_barrel 18 = .ok (.ireturn, 1) := by decide +kernel
set_option maxRecDepth 20000 in
theorem ggL_lashing_X6_lashing : GoodIn wsL_lashing wsX6_lashing := goodIn_ca (goodIn_r _ [6, 7, 8, 9, 10, 11, 12, 13, 14, 15, 16, 17, 18, 19, 20, 21, 22, 5, 23, 24, 25, 26, 27, 28, 29, 30, 31, 32, 33, 34, 35, 36, 37, 38, 39, 40, 41, 42, 43, 44, 45, 46, 47, 48, 49, 50, 51, 52, 53, 54, 55, 56, 57, 58, 59, 60, 61, 62, 63, 64, 65, 66, 67, 68, 69, 70, 71, 72, 73, 74, 75, 76, 77, 78, 79, 80, 81, 82, 83, 84, 85, 86, 87, 88, 89, 90, 91, 92, 93, 94, 95, 96, 97, 98, 99, 100, 101, 102, 103, 104, 105, 106, 107, 108, 109, 110, 111, 112] (by decide +kernel) (by decide +kernel)) (goodIn_sub (fun _ h => List.mem_cons_of_mem _ (List.mem_append_right _ h)) (by decide +kernel))
set_option maxRecDepth 20000 in
theorem gL_lashing_X6_lashing : GoodIn wsL_lashing (wsV RL 43 RX6 yX6_lashing wsX6_lashing) := goodIn_app (goodIn_of _ (by decide +kernel)) ggL_lashing_X6_lashing
theorem dL_lashing_0 : decode cL_lashing 0 = .ok (.aload 4, 2) := by decide +kernel
theorem dL_lashing_2 : decode cL_lashing 2 = .ok (.iconst 0, 1) := by decide +kernel
theorem dL_lashing_3 : decode cL_lashing 3 = .ok (.aload_n 0, 1) := by decide +kernel
theorem dL_lashing_4 : decode cL_lashing 4 = .ok (.iload_n 1, 1) := by decide +kernel
theorem dL_lashing_5 : decode cL_lashing 5 = .ok (.iload_n 2, 1) := by decide +kernel
theorem dL_lashing_6 : decode cL_lashing 6 = .ok (.iload_n 3, 1) := by decide +kernel
theorem dL_lashing_7 : decode cL_lashing 7 = .ok (.invokevirtual 43, 3) := by decide +kernel
theorem dL_lashing_10 : decode cL_lashing 10 = .ok (.i2l, 1) := by decide +kernel
theorem dL_lashing_11 : decode cL_lashing 11 = .ok (.lastore, 1) := by decide +kernel
theorem dL_lashing_12 : decode cL_lashing 12 = .ok (.goto 7, 3) := by decide +kernel
theorem dL_lashing_15 : decode cL_lashing 15 = .ok (.astore 5, 2) := by decide +kernel
theorem dL_lashing_17 : decode cL_lashing 17 = .ok (.iconst 1, 1) := by decide +kernel
theorem dL_lashing_18 : decode cL_lashing 18 = .ok (.ireturn, 1) := by decide +kernel
theorem dL_lashing_19 : decode cL_lashing 19 = .ok (.iconst 0, 1) := by decide +kernel
theorem dL_lashing_20 : decode cL_lashing 20 = .ok (.ireturn, 1) := by decide +kernel
set_option maxRecDepth 20000 in
theorem ggL_addCastaway_X6_addCastaway : GoodIn wsL_addCastaway wsX6_addCastaway := goodIn_ca (goodIn_ca (goodIn_r _ [7, 8, 9, 10, 11, 12, 13, 14, 15, 16, 17, 18, 19, 20, 21, 22, 23, 24, 25, 26, 27, 28, 29, 30, 31, 32, 33, 34, 35, 36, 37, 38, 39, 40, 41, 42, 43, 44, 45, 46, 47, 48, 49, 50, 51, 52, 53, 54, 55, 56, 57, 58, 59, 60, 61, 62, 63] (by decide +kernel) (by decide +kernel)) (goodIn_sub (fun _ h => List.mem_cons_of_mem _ (List.mem_append_left _ (List.mem_append_right _ h))) (by decide +kernel))) (goodIn_sub (fun _ h => List.mem_cons_of_mem _ (List.mem_append_right _ h)) (by decide +kernel))
set_option maxRecDepth 20000 in
theorem gL_addCastaway_X6_addCastaway : GoodIn wsL_addCastaway (wsV RL 46 RX6 yX6_addCastaway wsX6_addCastaway) := goodIn_app (goodIn_of _ (by decide +kernel)) ggL_addCastaway_X6_addCastaway
theorem dL_addCastaway_0 : decode cL_addCastaway 0 = .ok (.aload_n 2, 1) := by decide +kernel
theorem dL_addCastaway_1 : decode cL_addCastaway 1 = .ok (.iconst 0, 1) := by decide +kernel
theorem dL_addCastaway_2 : decode cL_addCastaway 2 = .ok (.aload_n 0, 1) := by decide +kernel
theorem dL_addCastaway_3 : decode cL_addCastaway 3 = .ok (.iload_n 1, 1) := by decide +kernel
theorem dL_addCastaway_4 : decode cL_addCastaway 4 = .ok (.invokevirtual 46, 3) := by decide +kernel
theorem dL_addCastaway_7 : decode cL_addCastaway 7 = .ok (.i2l, 1) := by decide +kernel
theorem dL_addCastaway_8 : decode cL_addCastaway 8 = .ok (.lastore, 1) := by decide +kernel
theorem dL_addCastaway_9 : decode cL_addCastaway 9 = .ok (.goto 9, 3) := by decide +kernel
theorem dL_addCastaway_12 : decode cL_addCastaway 12 = .ok (.astore_n 3, 1) := by decide +kernel
theorem dL_addCastaway_13 : decode cL_addCastaway 13 = .ok (.iconst 1, 1) := by decide +kernel
theorem dL_addCastaway_14 : decode cL_addCastaway 14 = .ok (.ireturn, 1) := by decide +kernel
theorem dL_addCastaway_15 : decode cL_addCastaway 15 = .ok (.astore_n 3, 1) := by decide +kernel
theorem dL_addCastaway_16 : decode cL_addCastaway 16 = .ok (.iconst 2, 1) := by decide +kernel
theorem dL_addCastaway_17 : decode cL_addCastaway 17 = .ok (.ireturn, 1) := by decide +kernel
theorem dL_addCastaway_18 : decode cL_addCastaway 18 = .ok (.iconst 0, 1) := by decide +kernel
theorem dL_addCastaway_19 : decode cL_addCastaway 19 = .ok (.ireturn, 1) := by decide +kernel
set_option maxRecDepth 20000 in
theorem ggL_go_X6_go : GoodIn wsL_go wsX6_go := goodIn_ca (goodIn_ca (goodIn_r _ [7, 8, 9, 10, 11, 12, 13, 14, 15, 16, 17, 18, 19, 20, 21, 22, 23, 24, 25, 26, 27, 28, 29, 30, 31, 32, 33, 34, 35, 36, 37, 38, 39, 40, 41, 42, 43, 44, 45, 46, 47, 48, 49, 50, 51, 52, 53, 54, 55, 56, 57, 58, 59, 60, 61, 62, 63, 64, 65, 66, 67, 68, 69, 70, 71, 72, 73, 74, 75, 76] (by decide +kernel) (by decide +kernel)) (goodIn_sub (fun _ h => List.mem_cons_of_mem _ (List.mem_append_left _ (List.mem_append_right _ h))) (by decide +kernel))) (goodIn_sub (fun _ h => List.mem_cons_of_mem _ (List.mem_append_right _ h)) (by decide +kernel))
set_option maxRecDepth 20000 in
theorem gL_go_X6_go : GoodIn wsL_go (wsV RL 50 RX6 yX6_go wsX6_go) := goodIn_app (goodIn_of _ (by decide +kernel)) ggL_go_X6_go
theorem dL_go_0 : decode cL_go 0 = .ok (.aload_n 3, 1) := by decide +kernel
theorem dL_go_1 : decode cL_go 1 = .ok (.iconst 0, 1) := by decide +kernel
theorem dL_go_2 : decode cL_go 2 = .ok (.aload_n 0, 1) := by decide +kernel
theorem dL_go_3 : decode cL_go 3 = .ok (.iload_n 1, 1) := by decide +kernel
theorem dL_go_4 : decode cL_go 4 = .ok (.iload_n 2, 1) := by decide +kernel
theorem dL_go_5 : decode cL_go 5 = .ok (.invokevirtual 50, 3) := by decide +kernel
theorem dL_go_8 : decode cL_go 8 = .ok (.i2l, 1) := by decide +kernel
theorem dL_go_9 : decode cL_go 9 = .ok (.lastore, 1) := by decide +kernel
theorem dL_go_10 : decode cL_go 10 = .ok (.goto 11, 3) := by decide +kernel
theorem dL_go_13 : decode cL_go 13 = .ok (.astore 4, 2) := by decide +kernel
theorem dL_go_15 : decode cL_go 15 = .ok (.iconst 1, 1) := by decide +kernel
theorem dL_go_16 : decode cL_go 16 = .ok (.ireturn, 1) := by decide +kernel
theorem dL_go_17 : decode cL_go 17 = .ok (.astore 4, 2) := by decide +kernel
theorem dL_go_19 : decode cL_go 19 = .ok (.iconst 2, 1) := by decide +kernel
theorem dL_go_20 : decode cL_go 20 = .ok (.ireturn, 1) := by decide +kernel
theorem dL_go_21 : decode cL_go 21 = .ok (.iconst 0, 1) := by decide +kernel
theorem dL_go_22 : decode cL_go 22 = .ok (.ireturn, 1) := by decide +kernel
set_option maxRecDepth 20000 in
theorem ggL_bail_X6_bail : GoodIn wsL_bail wsX6_bail := goodIn_ca (goodIn_ca (goodIn_r _ [7, 8, 9, 10, 11, 12, 13, 14, 15, 16, 17, 18, 19, 20, 21, 22, 23, 24, 25, 26, 27, 28, 29, 30, 31, 32, 33, 34, 35, 36, 37, 38, 39, 40, 41, 42, 43, 44, 45, 46, 47, 48, 49, 50, 51, 52, 53, 54, 55, 56, 57, 58, 59] (by decide +kernel) (by decide +kernel)) (goodIn_sub (fun _ h => List.mem_cons_of_mem _ (List.mem_append_left _ (List.mem_append_right _ h))) (by decide +kernel))) (goodIn_sub (fun _ h => List.mem_cons_of_mem _ (List.mem_append_right _ h)) (by decide +kernel))
set_option maxRecDepth 20000 in
theorem gL_bail_X6_bail : GoodIn wsL_bail (wsV RL 53 RX6 yX6_bail wsX6_bail) := goodIn_app (goodIn_of _ (by decide +kernel)) ggL_bail_X6_bail
theorem dL_bail_0 : decode cL_bail 0 = .ok (.aload_n 2, 1) := by decide +kernel
theorem dL_bail_1 : decode cL_bail 1 = .ok (.iconst 0, 1) := by decide +kernel
theorem dL_bail_2 : decode cL_bail 2 = .ok (.aload_n 0, 1) := by decide +kernel
theorem dL_bail_3 : decode cL_bail 3 = .ok (.iload_n 1, 1) := by decide +kernel
theorem dL_bail_4 : decode cL_bail 4 = .ok (.invokevirtual 53, 3) := by decide +kernel
theorem dL_bail_7 : decode cL_bail 7 = .ok (.i2l, 1) := by decide +kernel
theorem dL_bail_8 : decode cL_bail 8 = .ok (.lastore, 1) := by decide +kernel
theorem dL_bail_9 : decode cL_bail 9 = .ok (.goto 9, 3) := by decide +kernel
theorem dL_bail_12 : decode cL_bail 12 = .ok (.astore_n 3, 1) := by decide +kernel
theorem dL_bail_13 : decode cL_bail 13 = .ok (.iconst 1, 1) := by decide +kernel
theorem dL_bail_14 : decode cL_bail 14 = .ok (.ireturn, 1) := by decide +kernel
theorem dL_bail_15 : decode cL_bail 15 = .ok (.astore_n 3, 1) := by decide +kernel
theorem dL_bail_16 : decode cL_bail 16 = .ok (.iconst 2, 1) := by decide +kernel
theorem dL_bail_17 : decode cL_bail 17 = .ok (.ireturn, 1) := by decide +kernel
theorem dL_bail_18 : decode cL_bail 18 = .ok (.iconst 0, 1) := by decide +kernel
theorem dL_bail_19 : decode cL_bail 19 = .ok (.ireturn, 1) := by decide +kernel
set_option maxRecDepth 20000 in
theorem ggL_castaway_X6_castaway : GoodIn wsL_castaway wsX6_castaway := goodIn_ca (goodIn_r _ [6, 7, 8, 9, 10, 11, 12, 13, 14, 15, 16, 17, 18, 5, 19, 20, 21, 22, 23, 24, 25, 26, 27, 28, 29, 30, 31, 32, 33, 34, 35, 36, 37, 38, 39, 40] (by decide +kernel) (by decide +kernel)) (goodIn_sub (fun _ h => List.mem_cons_of_mem _ (List.mem_append_right _ h)) (by decide +kernel))
set_option maxRecDepth 20000 in
theorem gL_castaway_X6_castaway : GoodIn wsL_castaway (wsV RL 56 RX6 yX6_castaway wsX6_castaway) := goodIn_app (goodIn_of _ (by decide +kernel)) ggL_castaway_X6_castaway
theorem dL_castaway_0 : decode cL_castaway 0 = .ok (.aload_n 3, 1) := by decide +kernel
theorem dL_castaway_1 : decode cL_castaway 1 = .ok (.iconst 0, 1) := by decide +kernel
theorem dL_castaway_2 : decode cL_castaway 2 = .ok (.aload_n 0, 1) := by decide +kernel
theorem dL_castaway_3 : decode cL_castaway 3 = .ok (.iload_n 1, 1) := by decide +kernel
theorem dL_castaway_4 : decode cL_castaway 4 = .ok (.iload_n 2, 1) := by decide +kernel
theorem dL_castaway_5 : decode cL_castaway 5 = .ok (.invokevirtual 56, 3) := by decide +kernel
theorem dL_castaway_8 : decode cL_castaway 8 = .ok (.i2l, 1) := by decide +kernel
theorem dL_castaway_9 : decode cL_castaway 9 = .ok (.lastore, 1) := by decide +kernel
theorem dL_castaway_10 : decode cL_castaway 10 = .ok (.goto 7, 3) := by decide +kernel
theorem dL_castaway_13 : decode cL_castaway 13 = .ok (.astore 4, 2) := by decide +kernel
theorem dL_castaway_15 : decode cL_castaway 15 = .ok (.iconst 1, 1) := by decide +kernel
theorem dL_castaway_16 : decode cL_castaway 16 = .ok (.ireturn, 1) := by decide +kernel
theorem dL_castaway_17 : decode cL_castaway 17 = .ok (.iconst 0, 1) := by decide +kernel
theorem dL_castaway_18 : decode cL_castaway 18 = .ok (.ireturn, 1) := by decide +kernel
set_option maxRecDepth 20000 in
theorem ggL_pass_X6_pass : GoodIn wsL_pass wsX6_pass := goodIn_ca (goodIn_r _ [6, 7, 8, 9, 10, 11, 12, 13, 14, 15, 16, 17, 18, 19, 20, 21, 22, 23, 24, 25, 26, 27, 28, 29, 30, 31, 32, 33, 34, 35, 36, 37, 38, 39, 40, 41, 42, 43, 44, 45, 46, 47, 48, 49, 50, 51, 52, 53, 54, 55, 56, 57, 58, 59, 60, 61, 62, 63, 64, 65, 66, 67, 68, 69, 70, 71, 72, 73, 74, 75, 76, 77, 78, 79, 80, 81, 82, 83, 84, 85, 86, 87, 88, 89, 90, 91, 92, 93, 94, 95, 96, 97, 98, 99, 100, 101, 102, 103, 104, 105, 106, 107, 108, 109, 110, 111, 112, 113, 114, 115, 116, 117, 118, 119, 120, 121, 122, 123, 124, 125, 126, 127, 128, 129, 130, 5, 131, 132, 133, 134, 135, 136, 137, 138, 139, 140, 141, 142, 143, 144, 145, 146, 147, 148, 149, 150, 151, 152, 153, 154, 155, 156, 157, 158, 159, 160, 161, 162, 163, 164, 165, 166, 167, 168, 169, 170, 171, 172, 173, 174, 175, 176, 177, 178, 179, 180, 181, 182, 183, 184, 185, 186, 187, 188, 189, 190, 191, 192, 193, 194, 195, 196, 197, 198, 199, 200, 201, 202, 203, 204, 205, 206, 207, 208, 209, 210, 211, 212, 213, 214, 215, 216, 217, 218, 219, 220, 221, 222, 223, 224, 225] (by decide +kernel) (by decide +kernel)) (goodIn_sub (fun _ h => List.mem_cons_of_mem _ (List.mem_append_right _ h)) (by decide +kernel))
set_option maxRecDepth 20000 in
theorem gL_pass_X6_pass : GoodIn wsL_pass (wsV RL 59 RX6 yX6_pass wsX6_pass) := goodIn_app (goodIn_of _ (by decide +kernel)) ggL_pass_X6_pass
theorem dL_pass_0 : decode cL_pass 0 = .ok (.aload_n 2, 1) := by decide +kernel
theorem dL_pass_1 : decode cL_pass 1 = .ok (.iconst 0, 1) := by decide +kernel
theorem dL_pass_2 : decode cL_pass 2 = .ok (.aload_n 0, 1) := by decide +kernel
theorem dL_pass_3 : decode cL_pass 3 = .ok (.iload_n 1, 1) := by decide +kernel
theorem dL_pass_4 : decode cL_pass 4 = .ok (.invokevirtual 59, 3) := by decide +kernel
theorem dL_pass_7 : decode cL_pass 7 = .ok (.i2l, 1) := by decide +kernel
theorem dL_pass_8 : decode cL_pass 8 = .ok (.lastore, 1) := by decide +kernel
theorem dL_pass_9 : decode cL_pass 9 = .ok (.goto 6, 3) := by decide +kernel
theorem dL_pass_12 : decode cL_pass 12 = .ok (.astore_n 3, 1) := by decide +kernel
theorem dL_pass_13 : decode cL_pass 13 = .ok (.iconst 1, 1) := by decide +kernel
theorem dL_pass_14 : decode cL_pass 14 = .ok (.ireturn, 1) := by decide +kernel
theorem dL_pass_15 : decode cL_pass 15 = .ok (.iconst 0, 1) := by decide +kernel
theorem dL_pass_16 : decode cL_pass 16 = .ok (.ireturn, 1) := by decide +kernel
set_option maxRecDepth 20000 in
theorem ggL_count_X6_count : GoodIn wsL_count wsX6_count := goodIn_ca (goodIn_r _ [6, 7, 8, 9, 10, 5, 11, 12, 13, 14, 15, 16, 17, 18, 19, 20, 21, 22, 23, 24, 25, 26, 27, 28, 29, 30, 31, 32, 33, 34, 35, 36, 37, 38, 39, 40, 41, 42, 43, 44, 45, 46, 47, 48, 49, 50, 51, 52, 53, 54, 55, 56, 57, 58, 59, 60, 61, 62, 63, 64, 65, 66, 67, 68, 69, 70, 71, 72, 73, 74, 75, 76, 77, 78, 79, 80, 81] (by decide +kernel) (by decide +kernel)) (goodIn_sub (fun _ h => List.mem_cons_of_mem _ (List.mem_append_right _ h)) (by decide +kernel))
set_option maxRecDepth 20000 in
theorem gL_count_X6_count : GoodIn wsL_count (wsV RL 62 RX6 yX6_count wsX6_count) := goodIn_app (goodIn_of _ (by decide +kernel)) ggL_count_X6_count
theorem dL_count_0 : decode cL_count 0 = .ok (.aload_n 2, 1) := by decide +kernel
theorem dL_count_1 : decode cL_count 1 = .ok (.iconst 0, 1) := by decide +kernel
theorem dL_count_2 : decode cL_count 2 = .ok (.aload_n 0, 1) := by decide +kernel
theorem dL_count_3 : decode cL_count 3 = .ok (.iload_n 1, 1) := by decide +kernel
theorem dL_count_4 : decode cL_count 4 = .ok (.invokevirtual 62, 3) := by decide +kernel
theorem dL_count_7 : decode cL_count 7 = .ok (.i2l, 1) := by decide +kernel
theorem dL_count_8 : decode cL_count 8 = .ok (.lastore, 1) := by decide +kernel
theorem dL_count_9 : decode cL_count 9 = .ok (.goto 6, 3) := by decide +kernel
theorem dL_count_12 : decode cL_count 12 = .ok (.astore_n 3, 1) := by decide +kernel
theorem dL_count_13 : decode cL_count 13 = .ok (.iconst 1, 1) := by decide +kernel
theorem dL_count_14 : decode cL_count 14 = .ok (.ireturn, 1) := by decide +kernel
theorem dL_count_15 : decode cL_count 15 = .ok (.iconst 0, 1) := by decide +kernel
theorem dL_count_16 : decode cL_count 16 = .ok (.ireturn, 1) := by decide +kernel
set_option maxRecDepth 20000 in
theorem ggL_firm_X6_firm : GoodIn wsL_firm wsX6_firm := goodIn_ca (goodIn_r _ [6, 7, 8, 9, 10, 11, 12, 13, 14, 15, 16, 17, 18, 19, 20, 21, 22, 23, 24, 25, 26, 27, 28, 29, 30, 31, 32, 33, 34, 35, 36, 37, 38, 39, 40, 41, 42, 43, 44, 45, 46, 47, 48, 49, 50, 51, 52, 53, 54, 55, 56, 57, 58, 59, 60, 61, 62, 63, 64, 65, 66, 67, 68, 69, 70, 71, 72, 73, 74, 75, 76, 77, 78, 79, 80, 81, 82, 83, 84, 85, 86, 87, 88] (by decide +kernel) (by decide +kernel)) (goodIn_sub (fun _ h => List.mem_cons_of_mem _ (List.mem_append_right _ h)) (by decide +kernel))
set_option maxRecDepth 20000 in
theorem gL_firm_X6_firm : GoodIn wsL_firm (wsV RL 65 RX6 yX6_firm wsX6_firm) := goodIn_app (goodIn_of _ (by decide +kernel)) ggL_firm_X6_firm
theorem dL_firm_0 : decode cL_firm 0 = .ok (.aload_n 3, 1) := by decide +kernel
theorem dL_firm_1 : decode cL_firm 1 = .ok (.iconst 0, 1) := by decide +kernel
theorem dL_firm_2 : decode cL_firm 2 = .ok (.aload_n 0, 1) := by decide +kernel
theorem dL_firm_3 : decode cL_firm 3 = .ok (.iload_n 1, 1) := by decide +kernel
theorem dL_firm_4 : decode cL_firm 4 = .ok (.iload_n 2, 1) := by decide +kernel
theorem dL_firm_5 : decode cL_firm 5 = .ok (.invokevirtual 65, 3) := by decide +kernel
theorem dL_firm_8 : decode cL_firm 8 = .ok (.i2l, 1) := by decide +kernel
theorem dL_firm_9 : decode cL_firm 9 = .ok (.lastore, 1) := by decide +kernel
theorem dL_firm_10 : decode cL_firm 10 = .ok (.goto 7, 3) := by decide +kernel
theorem dL_firm_13 : decode cL_firm 13 = .ok (.astore 4, 2) := by decide +kernel
theorem dL_firm_15 : decode cL_firm 15 = .ok (.iconst 1, 1) := by decide +kernel
theorem dL_firm_16 : decode cL_firm 16 = .ok (.ireturn, 1) := by decide +kernel
theorem dL_firm_17 : decode cL_firm 17 = .ok (.iconst 0, 1) := by decide +kernel
theorem dL_firm_18 : decode cL_firm 18 = .ok (.ireturn, 1) := by decide +kernel
set_option maxRecDepth 20000 in
theorem ggL_hold_X6_hold : GoodIn wsL_hold wsX6_hold := goodIn_ca (goodIn_r _ [6, 7, 8, 9, 10, 11, 12, 13, 14, 15, 16, 17, 18, 19, 20, 21, 22, 23, 24, 25, 26, 27, 28, 29, 30, 31, 32, 33, 34, 35, 36, 37, 38, 39, 40, 41, 42, 43, 44, 45, 46, 47, 48, 49, 50, 51, 52, 53, 54, 55, 56, 57, 58, 59, 60, 61, 62, 63, 64, 65, 66, 67, 68, 69, 70, 71, 72, 73, 74, 75, 76, 77, 78, 79, 80, 81, 82] (by decide +kernel) (by decide +kernel)) (goodIn_sub (fun _ h => List.mem_cons_of_mem _ (List.mem_append_right _ h)) (by decide +kernel))
set_option maxRecDepth 20000 in
theorem gL_hold_X6_hold : GoodIn wsL_hold (wsV RL 68 RX6 yX6_hold wsX6_hold) := goodIn_app (goodIn_of _ (by decide +kernel)) ggL_hold_X6_hold
theorem dL_hold_0 : decode cL_hold 0 = .ok (.aload_n 3, 1) := by decide +kernel
theorem dL_hold_1 : decode cL_hold 1 = .ok (.iconst 0, 1) := by decide +kernel
theorem dL_hold_2 : decode cL_hold 2 = .ok (.aload_n 0, 1) := by decide +kernel
theorem dL_hold_3 : decode cL_hold 3 = .ok (.iload_n 1, 1) := by decide +kernel
theorem dL_hold_4 : decode cL_hold 4 = .ok (.iload_n 2, 1) := by decide +kernel
theorem dL_hold_5 : decode cL_hold 5 = .ok (.invokevirtual 68, 3) := by decide +kernel
theorem dL_hold_8 : decode cL_hold 8 = .ok (.i2l, 1) := by decide +kernel
theorem dL_hold_9 : decode cL_hold 9 = .ok (.lastore, 1) := by decide +kernel
theorem dL_hold_10 : decode cL_hold 10 = .ok (.goto 7, 3) := by decide +kernel
theorem dL_hold_13 : decode cL_hold 13 = .ok (.astore 4, 2) := by decide +kernel
theorem dL_hold_15 : decode cL_hold 15 = .ok (.iconst 1, 1) := by decide +kernel
theorem dL_hold_16 : decode cL_hold 16 = .ok (.ireturn, 1) := by decide +kernel
theorem dL_hold_17 : decode cL_hold 17 = .ok (.iconst 0, 1) := by decide +kernel
theorem dL_hold_18 : decode cL_hold 18 = .ok (.ireturn, 1) := by decide +kernel
set_option maxRecDepth 20000 in
theorem ggL_piece_X6_piece : GoodIn wsL_piece wsX6_piece := goodIn_ca (goodIn_r _ [6, 7, 8, 9, 10, 11, 12, 13, 14, 15, 16, 17, 18, 19, 5, 20, 21, 22, 23, 24, 25, 26, 27, 28, 29, 30, 31, 32, 33, 34, 35, 36, 37, 38, 39, 40, 41, 42, 43, 44, 45, 46, 47, 48, 49, 50, 51, 52, 53, 54, 55, 56, 57, 58, 59, 60, 61, 62, 63, 64, 65, 66, 67, 68, 69, 70, 71, 72, 73, 74, 75, 76, 77, 78, 79, 80, 81, 82, 83, 84, 85, 86, 87, 88, 89, 90, 91, 92, 93, 94, 95, 96, 97, 98, 99, 100, 101, 102, 103, 104, 105, 106, 107, 108, 109, 110, 111, 112, 113, 114, 115, 116, 117] (by decide +kernel) (by decide +kernel)) (goodIn_sub (fun _ h => List.mem_cons_of_mem _ (List.mem_append_right _ h)) (by decide +kernel))
set_option maxRecDepth 20000 in
theorem gL_piece_X6_piece : GoodIn wsL_piece (wsV RL 71 RX6 yX6_piece wsX6_piece) := goodIn_app (goodIn_of _ (by decide +kernel)) ggL_piece_X6_piece
theorem dL_piece_0 : decode cL_piece 0 = .ok (.aload_n 3, 1) := by decide +kernel
theorem dL_piece_1 : decode cL_piece 1 = .ok (.iconst 0, 1) := by decide +kernel
theorem dL_piece_2 : decode cL_piece 2 = .ok (.aload_n 0, 1) := by decide +kernel
theorem dL_piece_3 : decode cL_piece 3 = .ok (.iload_n 1, 1) := by decide +kernel
theorem dL_piece_4 : decode cL_piece 4 = .ok (.iload_n 2, 1) := by decide +kernel
theorem dL_piece_5 : decode cL_piece 5 = .ok (.invokevirtual 71, 3) := by decide +kernel
theorem dL_piece_8 : decode cL_piece 8 = .ok (.i2l, 1) := by decide +kernel
theorem dL_piece_9 : decode cL_piece 9 = .ok (.lastore, 1) := by decide +kernel
theorem dL_piece_10 : decode cL_piece 10 = .ok (.goto 7, 3) := by decide +kernel
theorem dL_piece_13 : decode cL_piece 13 = .ok (.astore 4, 2) := by decide +kernel
theorem dL_piece_15 : decode cL_piece 15 = .ok (.iconst 1, 1) := by decide +kernel
theorem dL_piece_16 : decode cL_piece 16 = .ok (.ireturn, 1) := by decide +kernel
theorem dL_piece_17 : decode cL_piece 17 = .ok (.iconst 0, 1) := by decide +kernel
theorem dL_piece_18 : decode cL_piece 18 = .ok (.ireturn, 1) := by decide +kernel
set_option maxRecDepth 20000 in
theorem ggL_foresee_X6_foresee : GoodIn wsL_foresee wsX6_foresee := goodIn_ca (goodIn_ca (goodIn_r _ [7, 8, 9, 10, 11, 12, 13, 14, 15, 16, 17, 18, 19, 20, 6, 21, 22, 23, 24, 25, 26, 27, 28, 29, 30, 31, 32, 33, 34, 35, 36, 37, 38, 39, 40, 41, 42, 43, 44, 45, 46, 47, 48, 49, 50, 51, 52, 53, 54, 55, 56, 57, 58, 59, 60, 61, 62, 63, 64, 65, 66, 67, 68, 69, 70, 71, 72, 73, 74, 75, 76, 77, 78, 79, 80, 81, 82, 83, 84, 85, 86, 87, 88, 89, 90, 91, 92, 93, 94, 95, 96, 97, 98, 99, 100, 101, 102, 103, 104, 105, 106, 107, 108, 109, 110, 111, 112, 113, 114, 115, 116, 117, 118, 119, 120, 121, 122, 123, 124, 125, 126, 127, 128, 129, 130, 131, 132, 133, 134, 135, 136, 137, 138, 139, 140, 141, 142, 143, 144, 145, 146, 147, 148, 149, 150, 151, 152, 153, 154, 155, 156, 157, 158, 159, 160, 161, 162, 163, 164, 165, 166, 167, 168, 169, 170, 171, 172, 173, 174, 175, 176, 177, 178, 179, 180, 181, 182, 183, 184, 185, 186, 187, 188, 189, 190, 191, 192, 193, 194, 195, 196, 197, 198, 199, 200, 201, 202, 203, 204, 205, 206, 207, 208, 209, 210, 211, 212, 213, 214, 215, 216, 217, 218, 219, 220, 221, 222, 223, 224, 225, 226, 227, 228, 229, 230, 231, 232, 233, 234, 235, 236, 237, 238, 239, 240, 241, 242, 243, 244, 245, 246, 247, 248, 249, 250, 251, 252, 253, 254, 255, 256, 257, 258, 259, 260, 261, 262, 263, 264, 265, 266, 267, 268, 269, 270, 271, 272, 273] (by decide +kernel) (by decide +kernel)) (goodIn_sub (fun _ h => List.mem_cons_of_mem _ (List.mem_append_left _ (List.mem_append_right _ h))) (by decide +kernel))) (goodIn_sub (fun _ h => List.mem_cons_of_mem _ (List.mem_append_right _ h)) (by decide +kernel))
set_option maxRecDepth 20000 in
theorem gL_foresee_X6_foresee : GoodIn wsL_foresee (wsV RL 74 RX6 yX6_foresee wsX6_foresee) := goodIn_app (goodIn_of _ (by decide +kernel)) ggL_foresee_X6_foresee
theorem dL_foresee_0 : decode cL_foresee 0 = .ok (.aload_n 3, 1) := by decide +kernel
theorem dL_foresee_1 : decode cL_foresee 1 = .ok (.iconst 0, 1) := by decide +kernel
theorem dL_foresee_2 : decode cL_foresee 2 = .ok (.aload_n 0, 1) := by decide +kernel
theorem dL_foresee_3 : decode cL_foresee 3 = .ok (.iload_n 1, 1) := by decide +kernel
theorem dL_foresee_4 : decode cL_foresee 4 = .ok (.iload_n 2, 1) := by decide +kernel
theorem dL_foresee_5 : decode cL_foresee 5 = .ok (.invokevirtual 74, 3) := by decide +kernel
theorem dL_foresee_8 : decode cL_foresee 8 = .ok (.i2l, 1) := by decide +kernel
theorem dL_foresee_9 : decode cL_foresee 9 = .ok (.lastore, 1) := by decide +kernel
theorem dL_foresee_10 : decode cL_foresee 10 = .ok (.goto 11, 3) := by decide +kernel
theorem dL_foresee_13 : decode cL_foresee 13 = .ok (.astore 4, 2) := by decide +kernel
theorem dL_foresee_15 : decode cL_foresee 15 = .ok (.iconst 1, 1) := by decide +kernel
theorem dL_foresee_16 : decode cL_foresee 16 = .ok (.ireturn, 1) := by decide +kernel
theorem dL_foresee_17 : decode cL_foresee 17 = .ok (.astore 4, 2) := by decide +kernel
theorem dL_foresee_19 : decode cL_foresee 19 = .ok (.iconst 2, 1) := by decide +kernel
theorem dL_foresee_20 : decode cL_foresee 20 = .ok (.ireturn, 1) := by decide +kernel
theorem dL_foresee_21 : decode cL_foresee 21 = .ok (.iconst 0, 1) := by decide +kernel
theorem dL_foresee_22 : decode cL_foresee 22 = .ok (.ireturn, 1) := by decide +kernel
set_option maxRecDepth 20000 in
theorem ggL_advise_X6_advise : GoodIn wsL_advise wsX6_advise := goodIn_ca (goodIn_r _ [6, 7, 8, 9, 10, 11, 12, 13, 14, 15, 16, 17, 18, 5, 19, 20, 21, 22, 23, 24, 25, 26, 27, 28, 29, 30, 31, 32, 33, 34, 35, 36, 37, 38, 39, 40, 41, 42, 43, 44, 45, 46, 47, 48, 49, 50, 51, 52, 53, 54, 55, 56, 57, 58, 59, 60, 61, 62, 63, 64, 65, 66, 67, 68, 69, 70, 71, 72, 73, 74, 75, 76, 77, 78, 79, 80, 81, 82, 83, 84, 85, 86, 87, 88, 89, 90, 91, 92, 93, 94, 95, 96, 97, 98, 99, 100, 101, 102, 103, 104, 105, 106, 107, 108, 109, 110, 111, 112, 113, 114, 115, 116, 117, 118, 119, 120, 121, 122, 123, 124, 125, 126, 127, 128, 129, 130, 131, 132, 133, 134, 135, 136, 137, 138, 139, 140, 141, 142, 143, 144, 145, 146, 147, 148, 149, 150, 151, 152, 153, 154, 155, 156, 157, 158, 159, 160, 161, 162, 163, 164, 165, 166, 167, 168, 169, 170, 171, 172, 173, 174, 175, 176, 177, 178, 179, 180, 181, 182, 183, 184, 185, 186, 187, 188, 189, 190, 191, 192, 193, 194, 195, 196, 197, 198, 199, 200, 201, 202, 203, 204, 205, 206, 207, 208, 209, 210, 211, 212, 213, 214, 215, 216, 217, 218, 219, 220, 221, 222, 223, 224, 225, 226, 227, 228, 229, 230, 231, 232, 233, 234, 235, 236, 237, 238, 239, 240, 241, 242, 243, 244, 245, 246, 247, 248, 249, 250, 251, 252, 253, 254, 255, 256, 257, 258, 259, 260, 261, 262, 263, 264, 265, 266, 267, 268, 269] (by decide +kernel) (by decide +kernel)) (goodIn_sub (fun _ h => List.mem_cons_of_mem _ (List.mem_append_right _ h)) (by decide +kernel))
set_option maxRecDepth 20000 in
theorem gL_advise_X6_advise : GoodIn wsL_advise (wsV RL 77 RX6 yX6_advise wsX6_advise) := goodIn_app (goodIn_of _ (by decide +kernel)) ggL_advise_X6_advise
theorem dL_advise_0 : decode cL_advise 0 = .ok (.aload_n 2, 1) := by decide +kernel
theorem dL_advise_1 : decode cL_advise 1 = .ok (.iconst 0, 1) := by decide +kernel
theorem dL_advise_2 : decode cL_advise 2 = .ok (.aload_n 0, 1) := by decide +kernel
theorem dL_advise_3 : decode cL_advise 3 = .ok (.iload_n 1, 1) := by decide +kernel
theorem dL_advise_4 : decode cL_advise 4 = .ok (.invokevirtual 77, 3) := by decide +kernel
theorem dL_advise_7 : decode cL_advise 7 = .ok (.i2l, 1) := by decide +kernel
theorem dL_advise_8 : decode cL_advise 8 = .ok (.lastore, 1) := by decide +kernel
theorem dL_advise_9 : decode cL_advise 9 = .ok (.goto 6, 3) := by decide +kernel
theorem dL_advise_12 : decode cL_advise 12 = .ok (.astore_n 3, 1) := by decide +kernel
theorem dL_advise_13 : decode cL_advise 13 = .ok (.iconst 1, 1) := by decide +kernel
theorem dL_advise_14 : decode cL_advise 14 = .ok (.ireturn, 1) := by decide +kernel
theorem dL_advise_15 : decode cL_advise 15 = .ok (.iconst 0, 1) := by decide +kernel
theorem dL_advise_16 : decode cL_advise 16 = .ok (.ireturn, 1) := by decide +kernel
