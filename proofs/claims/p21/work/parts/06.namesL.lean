theorem dL_cell_0 : decode cL_cell 0 = .ok (.iload_n 1, 1) := by decide +kernel
theorem dL_cell_1 : decode cL_cell 1 = .ok (.aload_n 0, 1) := by decide +kernel
theorem dL_cell_2 : decode cL_cell 2 = .ok (.arraylength, 1) := by decide +kernel
theorem dL_cell_3 : decode cL_cell 3 = .ok (.if_icmp .ge 9, 3) := by decide +kernel
theorem dL_cell_6 : decode cL_cell 6 = .ok (.aload_n 0, 1) := by decide +kernel
theorem dL_cell_7 : decode cL_cell 7 = .ok (.iload_n 1, 1) := by decide +kernel
theorem dL_cell_8 : decode cL_cell 8 = .ok (.iaload, 1) := by decide +kernel
theorem dL_cell_9 : decode cL_cell 9 = .ok (.goto 15, 3) := by decide +kernel
theorem dL_cell_12 : decode cL_cell 12 = .ok (.ldc 7, 2) := by decide +kernel
theorem dL_cell_14 : decode cL_cell 14 = .ok (.iload_n 1, 1) := by decide +kernel
theorem dL_cell_15 : decode cL_cell 15 = .ok (.sipush 6997, 3) := by decide +kernel
theorem dL_cell_18 : decode cL_cell 18 = .ok (.irem, 1) := by decide +kernel
theorem dL_cell_19 : decode cL_cell 19 = .ok (.imul, 1) := by decide +kernel
theorem dL_cell_20 : decode cL_cell 20 = .ok (.sipush 5113, 3) := by decide +kernel
theorem dL_cell_23 : decode cL_cell 23 = .ok (.iadd, 1) := by decide +kernel
theorem dL_cell_24 : decode cL_cell 24 = .ok (.ldc 8, 2) := by decide +kernel
theorem dL_cell_26 : decode cL_cell 26 = .ok (.iand, 1) := by decide +kernel
theorem dL_cell_27 : decode cL_cell 27 = .ok (.ireturn, 1) := by decide +kernel
set_option maxRecDepth 20000 in
theorem ggL_add_X1_add : GoodIn wsL_add wsX1_add := goodIn_ca (goodIn_ca (goodIn_r _ [7, 8, 9, 10, 11, 12, 13, 14, 15, 16, 17, 18, 19, 6, 20, 21, 22, 23, 24, 25, 26, 27, 28, 29, 30, 31, 32, 33, 34, 35, 36, 37, 38, 39, 40, 41, 42, 43, 44, 45, 46, 47, 48, 49, 50, 51, 52, 53, 54, 55, 56, 57, 58, 59, 60, 61, 62, 63, 64, 65, 66, 67, 68, 69, 70, 71] (by decide +kernel) (by decide +kernel)) (goodIn_sub (fun _ h => List.mem_cons_of_mem _ (List.mem_append_left _ (List.mem_append_right _ h))) (by decide +kernel))) (goodIn_sub (fun _ h => List.mem_cons_of_mem _ (List.mem_append_right _ h)) (by decide +kernel))
set_option maxRecDepth 20000 in
theorem gL_add_X1_add : GoodIn wsL_add (wsV RL 9 RX1 yX1_add wsX1_add) := goodIn_app (goodIn_of _ (by decide +kernel)) ggL_add_X1_add
theorem dL_add_0 : decode cL_add 0 = .ok (.aload_n 0, 1) := by decide +kernel
theorem dL_add_1 : decode cL_add 1 = .ok (.iload_n 1, 1) := by decide +kernel
theorem dL_add_2 : decode cL_add 2 = .ok (.iload_n 2, 1) := by decide +kernel
theorem dL_add_3 : decode cL_add 3 = .ok (.iload_n 3, 1) := by decide +kernel
theorem dL_add_4 : decode cL_add 4 = .ok (.invokevirtual 9, 3) := by decide +kernel
theorem dL_add_7 : decode cL_add 7 = .ok (.ireturn, 1) := by decide +kernel
theorem dL_add_8 : decode cL_add 8 = .ok (.astore 4, 2) := by decide +kernel
theorem dL_add_10 : decode cL_add 10 = .ok (.bipush (-102), 2) := by decide +kernel
theorem dL_add_12 : decode cL_add 12 = .ok (.ireturn, 1) := by decide +kernel
theorem dL_add_13 : decode cL_add 13 = .ok (.astore 4, 2) := by decide +kernel
theorem dL_add_15 : decode cL_add 15 = .ok (.bipush (-103), 2) := by decide +kernel
theorem dL_add_17 : decode cL_add 17 = .ok (.ireturn, 1) := by decide +kernel
set_option maxRecDepth 20000 in
theorem ggL_survivor_X1_setSurvivor : GoodIn wsL_survivor wsX1_setSurvivor := goodIn_ca (goodIn_ca (goodIn_ca (goodIn_r _ [8, 9, 10, 11, 12, 13, 7, 14, 15, 16, 17, 18, 19, 20, 21, 22, 23, 24, 25, 26, 27, 28, 29, 30, 31, 32, 33, 34, 35, 36, 37, 38, 39, 40, 41, 42, 43, 44, 45, 46, 47] (by decide +kernel) (by decide +kernel)) (goodIn_sub (fun _ h => List.mem_cons_of_mem _ (List.mem_append_left _ (List.mem_append_left _ (List.mem_append_right _ h)))) (by decide +kernel))) (goodIn_sub (fun _ h => List.mem_cons_of_mem _ (List.mem_append_left _ (List.mem_append_right _ h))) (by decide +kernel))) (goodIn_sub (fun _ h => List.mem_cons_of_mem _ (List.mem_append_right _ h)) (by decide +kernel))
set_option maxRecDepth 20000 in
theorem gL_survivor_X1_setSurvivor : GoodIn wsL_survivor (wsV RL 19 RX1 yX1_setSurvivor wsX1_setSurvivor) := goodIn_app (goodIn_of _ (by decide +kernel)) ggL_survivor_X1_setSurvivor
theorem dL_survivor_0 : decode cL_survivor 0 = .ok (.aload_n 0, 1) := by decide +kernel
theorem dL_survivor_1 : decode cL_survivor 1 = .ok (.iload_n 1, 1) := by decide +kernel
theorem dL_survivor_2 : decode cL_survivor 2 = .ok (.iload_n 2, 1) := by decide +kernel
theorem dL_survivor_3 : decode cL_survivor 3 = .ok (.iload_n 3, 1) := by decide +kernel
theorem dL_survivor_4 : decode cL_survivor 4 = .ok (.invokevirtual 19, 3) := by decide +kernel
theorem dL_survivor_7 : decode cL_survivor 7 = .ok (.goto 18, 3) := by decide +kernel
theorem dL_survivor_10 : decode cL_survivor 10 = .ok (.astore 4, 2) := by decide +kernel
theorem dL_survivor_12 : decode cL_survivor 12 = .ok (.bipush (-101), 2) := by decide +kernel
theorem dL_survivor_14 : decode cL_survivor 14 = .ok (.ireturn, 1) := by decide +kernel
theorem dL_survivor_15 : decode cL_survivor 15 = .ok (.astore 4, 2) := by decide +kernel
theorem dL_survivor_17 : decode cL_survivor 17 = .ok (.bipush (-102), 2) := by decide +kernel
theorem dL_survivor_19 : decode cL_survivor 19 = .ok (.ireturn, 1) := by decide +kernel
theorem dL_survivor_20 : decode cL_survivor 20 = .ok (.astore 4, 2) := by decide +kernel
theorem dL_survivor_22 : decode cL_survivor 22 = .ok (.bipush (-103), 2) := by decide +kernel
theorem dL_survivor_24 : decode cL_survivor 24 = .ok (.ireturn, 1) := by decide +kernel
theorem dL_survivor_25 : decode cL_survivor 25 = .ok (.iconst 0, 1) := by decide +kernel
theorem dL_survivor_26 : decode cL_survivor 26 = .ok (.ireturn, 1) := by decide +kernel
set_option maxRecDepth 20000 in
theorem ggL_cap_X1_setCap : GoodIn wsL_cap wsX1_setCap := goodIn_ca (goodIn_ca (goodIn_ca (goodIn_r _ [8, 9, 10, 11, 12, 13, 7, 14, 15, 16, 17, 18, 19, 20, 21, 22, 23, 24, 25, 26, 27, 28, 29, 30, 31, 32, 33, 34, 35, 36, 37, 38, 39, 40, 41, 42, 43, 44, 45, 46, 47, 48, 49, 50, 51, 52, 53, 54, 55, 56, 57, 58, 59, 60, 61, 62, 63, 64] (by decide +kernel) (by decide +kernel)) (goodIn_sub (fun _ h => List.mem_cons_of_mem _ (List.mem_append_left _ (List.mem_append_left _ (List.mem_append_right _ h)))) (by decide +kernel))) (goodIn_sub (fun _ h => List.mem_cons_of_mem _ (List.mem_append_left _ (List.mem_append_right _ h))) (by decide +kernel))) (goodIn_sub (fun _ h => List.mem_cons_of_mem _ (List.mem_append_right _ h)) (by decide +kernel))
set_option maxRecDepth 20000 in
theorem gL_cap_X1_setCap : GoodIn wsL_cap (wsV RL 25 RX1 yX1_setCap wsX1_setCap) := goodIn_app (goodIn_of _ (by decide +kernel)) ggL_cap_X1_setCap
theorem dL_cap_0 : decode cL_cap 0 = .ok (.aload_n 0, 1) := by decide +kernel
theorem dL_cap_1 : decode cL_cap 1 = .ok (.iload_n 1, 1) := by decide +kernel
theorem dL_cap_2 : decode cL_cap 2 = .ok (.iload_n 2, 1) := by decide +kernel
theorem dL_cap_3 : decode cL_cap 3 = .ok (.invokevirtual 25, 3) := by decide +kernel
theorem dL_cap_6 : decode cL_cap 6 = .ok (.goto 15, 3) := by decide +kernel
theorem dL_cap_9 : decode cL_cap 9 = .ok (.astore_n 3, 1) := by decide +kernel
theorem dL_cap_10 : decode cL_cap 10 = .ok (.bipush (-101), 2) := by decide +kernel
theorem dL_cap_12 : decode cL_cap 12 = .ok (.ireturn, 1) := by decide +kernel
theorem dL_cap_13 : decode cL_cap 13 = .ok (.astore_n 3, 1) := by decide +kernel
theorem dL_cap_14 : decode cL_cap 14 = .ok (.bipush (-102), 2) := by decide +kernel
theorem dL_cap_16 : decode cL_cap 16 = .ok (.ireturn, 1) := by decide +kernel
theorem dL_cap_17 : decode cL_cap 17 = .ok (.astore_n 3, 1) := by decide +kernel
theorem dL_cap_18 : decode cL_cap 18 = .ok (.bipush (-103), 2) := by decide +kernel
theorem dL_cap_20 : decode cL_cap 20 = .ok (.ireturn, 1) := by decide +kernel
theorem dL_cap_21 : decode cL_cap 21 = .ok (.iconst 0, 1) := by decide +kernel
theorem dL_cap_22 : decode cL_cap 22 = .ok (.ireturn, 1) := by decide +kernel
set_option maxRecDepth 20000 in
theorem ggL_protect_X1_protect : GoodIn wsL_protect wsX1_protect := goodIn_ca (goodIn_ca (goodIn_ca (goodIn_r _ [8, 9, 10, 11, 12, 13, 14, 7, 15, 16, 17, 18, 19, 20, 21, 22, 23, 24, 25, 26, 27, 28, 29, 30, 31, 32, 33, 34, 35, 36, 37, 38, 39, 40, 41, 42, 43, 44, 45, 46, 47, 48] (by decide +kernel) (by decide +kernel)) (goodIn_sub (fun _ h => List.mem_cons_of_mem _ (List.mem_append_left _ (List.mem_append_left _ (List.mem_append_right _ h)))) (by decide +kernel))) (goodIn_sub (fun _ h => List.mem_cons_of_mem _ (List.mem_append_left _ (List.mem_append_right _ h))) (by decide +kernel))) (goodIn_sub (fun _ h => List.mem_cons_of_mem _ (List.mem_append_right _ h)) (by decide +kernel))
set_option maxRecDepth 20000 in
theorem gL_protect_X1_protect : GoodIn wsL_protect (wsV RL 29 RX1 yX1_protect wsX1_protect) := goodIn_app (goodIn_of _ (by decide +kernel)) ggL_protect_X1_protect
theorem dL_protect_0 : decode cL_protect 0 = .ok (.aload_n 0, 1) := by decide +kernel
theorem dL_protect_1 : decode cL_protect 1 = .ok (.iload_n 1, 1) := by decide +kernel
theorem dL_protect_2 : decode cL_protect 2 = .ok (.iload_n 2, 1) := by decide +kernel
theorem dL_protect_3 : decode cL_protect 3 = .ok (.iload_n 3, 1) := by decide +kernel
theorem dL_protect_4 : decode cL_protect 4 = .ok (.invokevirtual 29, 3) := by decide +kernel
theorem dL_protect_7 : decode cL_protect 7 = .ok (.goto 18, 3) := by decide +kernel
theorem dL_protect_10 : decode cL_protect 10 = .ok (.astore 4, 2) := by decide +kernel
theorem dL_protect_12 : decode cL_protect 12 = .ok (.bipush (-101), 2) := by decide +kernel
theorem dL_protect_14 : decode cL_protect 14 = .ok (.ireturn, 1) := by decide +kernel
theorem dL_protect_15 : decode cL_protect 15 = .ok (.astore 4, 2) := by decide +kernel
theorem dL_protect_17 : decode cL_protect 17 = .ok (.bipush (-102), 2) := by decide +kernel
theorem dL_protect_19 : decode cL_protect 19 = .ok (.ireturn, 1) := by decide +kernel
theorem dL_protect_20 : decode cL_protect 20 = .ok (.astore 4, 2) := by decide +kernel
theorem dL_protect_22 : decode cL_protect 22 = .ok (.bipush (-103), 2) := by decide +kernel
theorem dL_protect_24 : decode cL_protect 24 = .ok (.ireturn, 1) := by decide +kernel
theorem dL_protect_25 : decode cL_protect 25 = .ok (.iconst 0, 1) := by decide +kernel
theorem dL_protect_26 : decode cL_protect 26 = .ok (.ireturn, 1) := by decide +kernel
set_option maxRecDepth 20000 in
theorem ggL_inflation_X1_setInflation : GoodIn wsL_inflation wsX1_setInflation := goodIn_ca (goodIn_r _ [6, 7, 8, 9, 10, 5, 11, 12, 13, 14, 15, 16, 17, 18, 19, 20, 21, 22, 23, 24, 25, 26, 27, 28, 29, 30, 31, 32, 33, 34, 35, 36, 37, 38, 39, 40, 41, 42, 43, 44, 45, 46, 47] (by decide +kernel) (by decide +kernel)) (goodIn_sub (fun _ h => List.mem_cons_of_mem _ (List.mem_append_right _ h)) (by decide +kernel))
set_option maxRecDepth 20000 in
theorem gL_inflation_X1_setInflation : GoodIn wsL_inflation (wsV RL 33 RX1 yX1_setInflation wsX1_setInflation) := goodIn_app (goodIn_of _ (by decide +kernel)) ggL_inflation_X1_setInflation
theorem dL_inflation_0 : decode cL_inflation 0 = .ok (.aload_n 0, 1) := by decide +kernel
theorem dL_inflation_1 : decode cL_inflation 1 = .ok (.iload_n 1, 1) := by decide +kernel
theorem dL_inflation_2 : decode cL_inflation 2 = .ok (.iload_n 2, 1) := by decide +kernel
theorem dL_inflation_3 : decode cL_inflation 3 = .ok (.invokevirtual 33, 3) := by decide +kernel
theorem dL_inflation_6 : decode cL_inflation 6 = .ok (.ireturn, 1) := by decide +kernel
theorem dL_inflation_7 : decode cL_inflation 7 = .ok (.astore_n 3, 1) := by decide +kernel
theorem dL_inflation_8 : decode cL_inflation 8 = .ok (.sipush (-10002), 3) := by decide +kernel
theorem dL_inflation_11 : decode cL_inflation 11 = .ok (.ireturn, 1) := by decide +kernel
set_option maxRecDepth 20000 in
theorem ggL_die_X1_die : GoodIn wsL_die wsX1_die := goodIn_ca (goodIn_ca (goodIn_ca (goodIn_r _ [8, 9, 10, 11, 12, 13, 14, 15, 16, 17, 18, 19, 7, 20, 21, 22, 23, 24, 25, 26, 27, 28, 29, 30, 31, 32, 33, 34, 35, 36, 37, 38, 39, 40, 41, 42, 43, 44, 45] (by decide +kernel) (by decide +kernel)) (goodIn_sub (fun _ h => List.mem_cons_of_mem _ (List.mem_append_left _ (List.mem_append_left _ (List.mem_append_right _ h)))) (by decide +kernel))) (goodIn_sub (fun _ h => List.mem_cons_of_mem _ (List.mem_append_left _ (List.mem_append_right _ h))) (by decide +kernel))) (goodIn_sub (fun _ h => List.mem_cons_of_mem _ (List.mem_append_right _ h)) (by decide +kernel))
set_option maxRecDepth 20000 in
theorem gL_die_X1_die : GoodIn wsL_die (wsV RL 37 RX1 yX1_die wsX1_die) := goodIn_app (goodIn_of _ (by decide +kernel)) ggL_die_X1_die
theorem dL_die_0 : decode cL_die 0 = .ok (.aload_n 0, 1) := by decide +kernel
theorem dL_die_1 : decode cL_die 1 = .ok (.iload_n 1, 1) := by decide +kernel
theorem dL_die_2 : decode cL_die 2 = .ok (.iload_n 2, 1) := by decide +kernel
theorem dL_die_3 : decode cL_die 3 = .ok (.iload_n 3, 1) := by decide +kernel
theorem dL_die_4 : decode cL_die 4 = .ok (.invokevirtual 37, 3) := by decide +kernel
theorem dL_die_7 : decode cL_die 7 = .ok (.goto 18, 3) := by decide +kernel
theorem dL_die_10 : decode cL_die 10 = .ok (.astore 4, 2) := by decide +kernel
theorem dL_die_12 : decode cL_die 12 = .ok (.bipush (-101), 2) := by decide +kernel
theorem dL_die_14 : decode cL_die 14 = .ok (.ireturn, 1) := by decide +kernel
theorem dL_die_15 : decode cL_die 15 = .ok (.astore 4, 2) := by decide +kernel
theorem dL_die_17 : decode cL_die 17 = .ok (.bipush (-102), 2) := by decide +kernel
theorem dL_die_19 : decode cL_die 19 = .ok (.ireturn, 1) := by decide +kernel
theorem dL_die_20 : decode cL_die 20 = .ok (.astore 4, 2) := by decide +kernel
theorem dL_die_22 : decode cL_die 22 = .ok (.bipush (-103), 2) := by decide +kernel
theorem dL_die_24 : decode cL_die 24 = .ok (.ireturn, 1) := by decide +kernel
theorem dL_die_25 : decode cL_die 25 = .ok (.iconst 0, 1) := by decide +kernel
theorem dL_die_26 : decode cL_die 26 = .ok (.ireturn, 1) := by decide +kernel
set_option maxRecDepth 20000 in
theorem ggL_takeBack_X1_takeBack : GoodIn wsL_takeBack wsX1_takeBack := goodIn_ca (goodIn_ca (goodIn_ca (goodIn_r _ [8, 9, 10, 11, 12, 13, 14, 7, 15, 16, 17, 18, 19, 20, 21, 22, 23, 24, 25, 26, 27, 28, 29, 30, 31, 32, 33, 34, 35, 36, 37, 38, 39, 40] (by decide +kernel) (by decide +kernel)) (goodIn_sub (fun _ h => List.mem_cons_of_mem _ (List.mem_append_left _ (List.mem_append_left _ (List.mem_append_right _ h)))) (by decide +kernel))) (goodIn_sub (fun _ h => List.mem_cons_of_mem _ (List.mem_append_left _ (List.mem_append_right _ h))) (by decide +kernel))) (goodIn_sub (fun _ h => List.mem_cons_of_mem _ (List.mem_append_right _ h)) (by decide +kernel))
set_option maxRecDepth 20000 in
theorem gL_takeBack_X1_takeBack : GoodIn wsL_takeBack (wsV RL 40 RX1 yX1_takeBack wsX1_takeBack) := goodIn_app (goodIn_of _ (by decide +kernel)) ggL_takeBack_X1_takeBack
theorem dL_takeBack_0 : decode cL_takeBack 0 = .ok (.aload_n 0, 1) := by decide +kernel
theorem dL_takeBack_1 : decode cL_takeBack 1 = .ok (.iload_n 1, 1) := by decide +kernel
theorem dL_takeBack_2 : decode cL_takeBack 2 = .ok (.iload_n 2, 1) := by decide +kernel
theorem dL_takeBack_3 : decode cL_takeBack 3 = .ok (.invokevirtual 40, 3) := by decide +kernel
theorem dL_takeBack_6 : decode cL_takeBack 6 = .ok (.ireturn, 1) := by decide +kernel
theorem dL_takeBack_7 : decode cL_takeBack 7 = .ok (.astore_n 3, 1) := by decide +kernel
theorem dL_takeBack_8 : decode cL_takeBack 8 = .ok (.bipush (-101), 2) := by decide +kernel
theorem dL_takeBack_10 : decode cL_takeBack 10 = .ok (.ireturn, 1) := by decide +kernel
theorem dL_takeBack_11 : decode cL_takeBack 11 = .ok (.astore_n 3, 1) := by decide +kernel
theorem dL_takeBack_12 : decode cL_takeBack 12 = .ok (.bipush (-102), 2) := by decide +kernel
theorem dL_takeBack_14 : decode cL_takeBack 14 = .ok (.ireturn, 1) := by decide +kernel
theorem dL_takeBack_15 : decode cL_takeBack 15 = .ok (.astore_n 3, 1) := by decide +kernel
theorem dL_takeBack_16 : decode cL_takeBack 16 = .ok (.bipush (-103), 2) := by decide +kernel
theorem dL_takeBack_18 : decode cL_takeBack 18 = .ok (.ireturn, 1) := by decide +kernel
set_option maxRecDepth 20000 in
theorem ggL_run_X1_run : GoodIn wsL_run wsX1_run := goodIn_ca (goodIn_r _ [7, 8, 9, 10, 11, 12, 13, 14, 15, 16, 17, 18, 19, 20, 21, 22, 23, 24, 25, 26, 27, 28, 29, 30, 31, 32, 33, 34, 35, 36, 37, 38, 39, 40, 41, 42, 43, 44, 45, 46, 47, 48, 49, 50, 51, 52, 53, 54, 55, 56, 57, 58, 59, 60, 61, 62, 63, 64, 65, 66, 67, 68, 69, 70, 71, 72, 73, 74, 75, 76, 77, 78] (by decide +kernel) (by decide +kernel)) (goodIn_sub (fun _ h => List.mem_cons_of_mem _ (List.mem_append_right _ h)) (by decide +kernel))
set_option maxRecDepth 20000 in
theorem gL_run_X1_run : GoodIn wsL_run (wsV RL 43 RX1 yX1_run wsX1_run) := goodIn_app (goodIn_of _ (by decide +kernel)) ggL_run_X1_run
theorem dL_run_0 : decode cL_run 0 = .ok (.aload_n 0, 1) := by decide +kernel
theorem dL_run_1 : decode cL_run 1 = .ok (.invokevirtual 43, 3) := by decide +kernel
theorem dL_run_4 : decode cL_run 4 = .ok (.lreturn, 1) := by decide +kernel
theorem dL_run_5 : decode cL_run 5 = .ok (.astore_n 1, 1) := by decide +kernel
theorem dL_run_6 : decode cL_run 6 = .ok (.ldc2_w 47, 3) := by decide +kernel
theorem dL_run_9 : decode cL_run 9 = .ok (.lreturn, 1) := by decide +kernel
set_option maxRecDepth 20000 in
theorem ggL_back_X1_giveBack : GoodIn wsL_back wsX1_giveBack := goodIn_ca (goodIn_ca (goodIn_ca (goodIn_r _ [11, 12, 13, 14, 15, 16, 17, 18, 19, 10, 20, 21, 22, 23, 24, 25, 26, 27, 28, 29, 30, 31, 32, 33, 34, 35, 36, 37, 38, 39, 40, 41, 42, 43, 44, 45, 46, 47, 48, 49, 50, 51, 52, 53, 54, 55, 56, 57, 58, 59, 60, 61, 62, 63, 64, 65, 66, 67, 68, 69, 70, 71, 72, 73, 74, 75, 76, 77, 78, 79, 80, 81, 82, 83, 84, 85, 86, 87, 88, 89, 90, 91, 92, 93, 94] (by decide +kernel) (by decide +kernel)) (goodIn_sub (fun _ h => List.mem_cons_of_mem _ (List.mem_append_left _ (List.mem_append_left _ (List.mem_append_right _ h)))) (by decide +kernel))) (goodIn_sub (fun _ h => List.mem_cons_of_mem _ (List.mem_append_left _ (List.mem_append_right _ h))) (by decide +kernel))) (goodIn_sub (fun _ h => List.mem_cons_of_mem _ (List.mem_append_right _ h)) (by decide +kernel))
set_option maxRecDepth 20000 in
theorem gL_back_X1_giveBack : GoodIn wsL_back (wsV RL 49 RX1 yX1_giveBack wsX1_giveBack) := goodIn_app (goodIn_of _ (by decide +kernel)) ggL_back_X1_giveBack
theorem dL_back_0 : decode cL_back 0 = .ok (.aload_n 0, 1) := by decide +kernel
theorem dL_back_1 : decode cL_back 1 = .ok (.iload_n 1, 1) := by decide +kernel
theorem dL_back_2 : decode cL_back 2 = .ok (.iload_n 2, 1) := by decide +kernel
theorem dL_back_3 : decode cL_back 3 = .ok (.invokevirtual 49, 3) := by decide +kernel
theorem dL_back_6 : decode cL_back 6 = .ok (.lreturn, 1) := by decide +kernel
theorem dL_back_7 : decode cL_back 7 = .ok (.astore_n 3, 1) := by decide +kernel
theorem dL_back_8 : decode cL_back 8 = .ok (.ldc2_w 53, 3) := by decide +kernel
theorem dL_back_11 : decode cL_back 11 = .ok (.lreturn, 1) := by decide +kernel
theorem dL_back_12 : decode cL_back 12 = .ok (.astore_n 3, 1) := by decide +kernel
theorem dL_back_13 : decode cL_back 13 = .ok (.ldc2_w 55, 3) := by decide +kernel
theorem dL_back_16 : decode cL_back 16 = .ok (.lreturn, 1) := by decide +kernel
theorem dL_back_17 : decode cL_back 17 = .ok (.astore_n 3, 1) := by decide +kernel
theorem dL_back_18 : decode cL_back 18 = .ok (.ldc2_w 47, 3) := by decide +kernel
theorem dL_back_21 : decode cL_back 21 = .ok (.lreturn, 1) := by decide +kernel
set_option maxRecDepth 20000 in
theorem ggL_paid_X1_paid : GoodIn wsL_paid wsX1_paid := goodIn_ca (goodIn_ca (goodIn_r _ [9, 10, 11, 12, 13, 14, 8, 15, 16, 17, 18, 19, 20, 21, 22, 23, 24, 25, 26, 27, 28, 29, 30, 31, 32, 33, 34, 35, 36, 37, 38, 39, 40] (by decide +kernel) (by decide +kernel)) (goodIn_sub (fun _ h => List.mem_cons_of_mem _ (List.mem_append_left _ (List.mem_append_right _ h))) (by decide +kernel))) (goodIn_sub (fun _ h => List.mem_cons_of_mem _ (List.mem_append_right _ h)) (by decide +kernel))
set_option maxRecDepth 20000 in
theorem gL_paid_X1_paid : GoodIn wsL_paid (wsV RL 57 RX1 yX1_paid wsX1_paid) := goodIn_app (goodIn_of _ (by decide +kernel)) ggL_paid_X1_paid
theorem dL_paid_0 : decode cL_paid 0 = .ok (.aload_n 0, 1) := by decide +kernel
theorem dL_paid_1 : decode cL_paid 1 = .ok (.iload_n 1, 1) := by decide +kernel
theorem dL_paid_2 : decode cL_paid 2 = .ok (.iload_n 2, 1) := by decide +kernel
theorem dL_paid_3 : decode cL_paid 3 = .ok (.invokevirtual 57, 3) := by decide +kernel
theorem dL_paid_6 : decode cL_paid 6 = .ok (.lreturn, 1) := by decide +kernel
theorem dL_paid_7 : decode cL_paid 7 = .ok (.astore_n 3, 1) := by decide +kernel
theorem dL_paid_8 : decode cL_paid 8 = .ok (.ldc2_w 53, 3) := by decide +kernel
theorem dL_paid_11 : decode cL_paid 11 = .ok (.lreturn, 1) := by decide +kernel
theorem dL_paid_12 : decode cL_paid 12 = .ok (.astore_n 3, 1) := by decide +kernel
theorem dL_paid_13 : decode cL_paid 13 = .ok (.ldc2_w 55, 3) := by decide +kernel
theorem dL_paid_16 : decode cL_paid 16 = .ok (.lreturn, 1) := by decide +kernel
set_option maxRecDepth 20000 in
theorem ggL_paidAll_X1_paidInAll : GoodIn wsL_paidAll wsX1_paidInAll := goodIn_ca (goodIn_r _ [7, 8, 9, 10, 11, 6, 12, 13, 14, 15, 16, 17, 18, 19, 20, 21, 22, 23, 24, 25, 26, 27, 28, 29, 30, 31, 32] (by decide +kernel) (by decide +kernel)) (goodIn_sub (fun _ h => List.mem_cons_of_mem _ (List.mem_append_right _ h)) (by decide +kernel))
set_option maxRecDepth 20000 in
theorem gL_paidAll_X1_paidInAll : GoodIn wsL_paidAll (wsV RL 60 RX1 yX1_paidInAll wsX1_paidInAll) := goodIn_app (goodIn_of _ (by decide +kernel)) ggL_paidAll_X1_paidInAll
theorem dL_paidAll_0 : decode cL_paidAll 0 = .ok (.aload_n 0, 1) := by decide +kernel
theorem dL_paidAll_1 : decode cL_paidAll 1 = .ok (.iload_n 1, 1) := by decide +kernel
theorem dL_paidAll_2 : decode cL_paidAll 2 = .ok (.invokevirtual 60, 3) := by decide +kernel
theorem dL_paidAll_5 : decode cL_paidAll 5 = .ok (.lreturn, 1) := by decide +kernel
theorem dL_paidAll_6 : decode cL_paidAll 6 = .ok (.astore_n 2, 1) := by decide +kernel
theorem dL_paidAll_7 : decode cL_paidAll 7 = .ok (.ldc2_w 53, 3) := by decide +kernel
theorem dL_paidAll_10 : decode cL_paidAll 10 = .ok (.lreturn, 1) := by decide +kernel
set_option maxRecDepth 20000 in
theorem ggL_owes_X1_owes : GoodIn wsL_owes wsX1_owes := goodIn_ca (goodIn_r _ [7, 8, 9, 10, 11, 6, 12, 13, 14, 15, 16, 17, 18, 19, 20, 21, 22, 23, 24, 25, 26, 27, 28, 29, 30, 31, 32, 33, 34, 35, 36, 37, 38, 39, 40, 41, 42, 43, 44, 45, 46, 47, 48, 49, 50, 51, 52, 53, 54, 55, 56, 57, 58, 59, 60, 61, 62, 63, 64, 65, 66, 67, 68, 69, 70, 71, 72, 73, 74, 75, 76, 77, 78, 79, 80, 81] (by decide +kernel) (by decide +kernel)) (goodIn_sub (fun _ h => List.mem_cons_of_mem _ (List.mem_append_right _ h)) (by decide +kernel))
set_option maxRecDepth 20000 in
theorem gL_owes_X1_owes : GoodIn wsL_owes (wsV RL 64 RX1 yX1_owes wsX1_owes) := goodIn_app (goodIn_of _ (by decide +kernel)) ggL_owes_X1_owes
theorem dL_owes_0 : decode cL_owes 0 = .ok (.aload_n 0, 1) := by decide +kernel
theorem dL_owes_1 : decode cL_owes 1 = .ok (.iload_n 1, 1) := by decide +kernel
theorem dL_owes_2 : decode cL_owes 2 = .ok (.invokevirtual 64, 3) := by decide +kernel
theorem dL_owes_5 : decode cL_owes 5 = .ok (.lreturn, 1) := by decide +kernel
theorem dL_owes_6 : decode cL_owes 6 = .ok (.astore_n 2, 1) := by decide +kernel
theorem dL_owes_7 : decode cL_owes 7 = .ok (.ldc2_w 53, 3) := by decide +kernel
theorem dL_owes_10 : decode cL_owes 10 = .ok (.lreturn, 1) := by decide +kernel
set_option maxRecDepth 20000 in
theorem ggL_full_X1_fullAmount : GoodIn wsL_full wsX1_fullAmount := goodIn_ca (goodIn_ca (goodIn_r _ [7, 8, 9, 10, 6, 11, 12, 13, 14, 15, 16, 17, 18, 19, 20, 21, 22, 23, 24, 25, 26, 27, 28, 29, 30, 31, 32, 33, 34, 35, 36, 37, 38, 39, 40, 41, 42, 43, 44, 45, 46] (by decide +kernel) (by decide +kernel)) (goodIn_sub (fun _ h => List.mem_cons_of_mem _ (List.mem_append_left _ (List.mem_append_right _ h))) (by decide +kernel))) (goodIn_sub (fun _ h => List.mem_cons_of_mem _ (List.mem_append_right _ h)) (by decide +kernel))
set_option maxRecDepth 20000 in
theorem gL_full_X1_fullAmount : GoodIn wsL_full (wsV RL 67 RX1 yX1_fullAmount wsX1_fullAmount) := goodIn_app (goodIn_of _ (by decide +kernel)) ggL_full_X1_fullAmount
theorem dL_full_0 : decode cL_full 0 = .ok (.aload_n 0, 1) := by decide +kernel
theorem dL_full_1 : decode cL_full 1 = .ok (.iload_n 1, 1) := by decide +kernel
theorem dL_full_2 : decode cL_full 2 = .ok (.iload_n 2, 1) := by decide +kernel
theorem dL_full_3 : decode cL_full 3 = .ok (.invokevirtual 67, 3) := by decide +kernel
theorem dL_full_6 : decode cL_full 6 = .ok (.ireturn, 1) := by decide +kernel
theorem dL_full_7 : decode cL_full 7 = .ok (.astore_n 3, 1) := by decide +kernel
theorem dL_full_8 : decode cL_full 8 = .ok (.bipush (-101), 2) := by decide +kernel
theorem dL_full_10 : decode cL_full 10 = .ok (.ireturn, 1) := by decide +kernel
theorem dL_full_11 : decode cL_full 11 = .ok (.astore_n 3, 1) := by decide +kernel
theorem dL_full_12 : decode cL_full 12 = .ok (.bipush (-102), 2) := by decide +kernel
theorem dL_full_14 : decode cL_full 14 = .ok (.ireturn, 1) := by decide +kernel
set_option maxRecDepth 20000 in
theorem ggL_carry_X1_carry : GoodIn wsL_carry wsX1_carry := goodIn_ca (goodIn_ca (goodIn_r _ [7, 8, 9, 10, 6, 11, 12, 13, 14, 15, 16, 17, 18, 19, 20, 21, 22, 23, 24, 25, 26, 27, 28, 29, 30, 31, 32, 33, 34, 35, 36, 37, 38, 39, 40, 41, 42, 43, 44, 45, 46] (by decide +kernel) (by decide +kernel)) (goodIn_sub (fun _ h => List.mem_cons_of_mem _ (List.mem_append_left _ (List.mem_append_right _ h))) (by decide +kernel))) (goodIn_sub (fun _ h => List.mem_cons_of_mem _ (List.mem_append_right _ h)) (by decide +kernel))
set_option maxRecDepth 20000 in
theorem gL_carry_X1_carry : GoodIn wsL_carry (wsV RL 70 RX1 yX1_carry wsX1_carry) := goodIn_app (goodIn_of _ (by decide +kernel)) ggL_carry_X1_carry
theorem dL_carry_0 : decode cL_carry 0 = .ok (.aload_n 0, 1) := by decide +kernel
theorem dL_carry_1 : decode cL_carry 1 = .ok (.iload_n 1, 1) := by decide +kernel
theorem dL_carry_2 : decode cL_carry 2 = .ok (.iload_n 2, 1) := by decide +kernel
theorem dL_carry_3 : decode cL_carry 3 = .ok (.invokevirtual 70, 3) := by decide +kernel
theorem dL_carry_6 : decode cL_carry 6 = .ok (.ireturn, 1) := by decide +kernel
theorem dL_carry_7 : decode cL_carry 7 = .ok (.astore_n 3, 1) := by decide +kernel
theorem dL_carry_8 : decode cL_carry 8 = .ok (.sipush (-10001), 3) := by decide +kernel
theorem dL_carry_11 : decode cL_carry 11 = .ok (.ireturn, 1) := by decide +kernel
theorem dL_carry_12 : decode cL_carry 12 = .ok (.astore_n 3, 1) := by decide +kernel
theorem dL_carry_13 : decode cL_carry 13 = .ok (.sipush (-10002), 3) := by decide +kernel
theorem dL_carry_16 : decode cL_carry 16 = .ok (.ireturn, 1) := by decide +kernel
set_option maxRecDepth 20000 in
theorem ggL_entitled_X1_entitled : GoodIn wsL_entitled wsX1_entitled := goodIn_ca (goodIn_ca (goodIn_r _ [9, 10, 11, 12, 8, 13, 14, 15, 16, 17, 18, 19, 20, 21, 22, 23, 24, 25, 26, 27, 28, 29, 30, 31, 32, 33, 34, 35, 36, 37, 38, 39, 40, 41, 42, 43, 44, 45, 46, 47, 48, 49, 50, 51, 52, 53, 54, 55, 56, 57, 58, 59, 60, 61, 62, 63, 64, 65, 66, 67, 68, 69, 70, 71, 72, 73, 74, 75, 76, 77, 78, 79, 80, 81, 82, 83, 84, 85] (by decide +kernel) (by decide +kernel)) (goodIn_sub (fun _ h => List.mem_cons_of_mem _ (List.mem_append_left _ (List.mem_append_right _ h))) (by decide +kernel))) (goodIn_sub (fun _ h => List.mem_cons_of_mem _ (List.mem_append_right _ h)) (by decide +kernel))
set_option maxRecDepth 20000 in
theorem gL_entitled_X1_entitled : GoodIn wsL_entitled (wsV RL 73 RX1 yX1_entitled wsX1_entitled) := goodIn_app (goodIn_of _ (by decide +kernel)) ggL_entitled_X1_entitled
theorem dL_entitled_0 : decode cL_entitled 0 = .ok (.aload_n 0, 1) := by decide +kernel
theorem dL_entitled_1 : decode cL_entitled 1 = .ok (.iload_n 1, 1) := by decide +kernel
theorem dL_entitled_2 : decode cL_entitled 2 = .ok (.iload_n 2, 1) := by decide +kernel
theorem dL_entitled_3 : decode cL_entitled 3 = .ok (.invokevirtual 73, 3) := by decide +kernel
theorem dL_entitled_6 : decode cL_entitled 6 = .ok (.lreturn, 1) := by decide +kernel
theorem dL_entitled_7 : decode cL_entitled 7 = .ok (.astore_n 3, 1) := by decide +kernel
theorem dL_entitled_8 : decode cL_entitled 8 = .ok (.ldc2_w 53, 3) := by decide +kernel
theorem dL_entitled_11 : decode cL_entitled 11 = .ok (.lreturn, 1) := by decide +kernel
theorem dL_entitled_12 : decode cL_entitled 12 = .ok (.astore_n 3, 1) := by decide +kernel
theorem dL_entitled_13 : decode cL_entitled 13 = .ok (.ldc2_w 55, 3) := by decide +kernel
theorem dL_entitled_16 : decode cL_entitled 16 = .ok (.lreturn, 1) := by decide +kernel
set_option maxRecDepth 20000 in
theorem ggL_upTo_X1_entitledUpTo : GoodIn wsL_upTo wsX1_entitledUpTo := goodIn_ca (goodIn_ca (goodIn_r _ [9, 10, 11, 12, 8, 13, 14, 15, 16, 17, 18, 19, 20, 21, 22, 23, 24, 25, 26, 27, 28, 29, 30, 31, 32, 33, 34, 35, 36, 37, 38, 39, 40, 41, 42, 43, 44, 45, 46, 47, 48, 49, 50, 51, 52, 53, 54, 55, 56, 57, 58, 59, 60, 61, 62, 63, 64, 65, 66, 67, 68, 69, 70, 71, 72, 73, 74, 75, 76, 77, 78, 79, 80, 81, 82, 83, 84, 85] (by decide +kernel) (by decide +kernel)) (goodIn_sub (fun _ h => List.mem_cons_of_mem _ (List.mem_append_left _ (List.mem_append_right _ h))) (by decide +kernel))) (goodIn_sub (fun _ h => List.mem_cons_of_mem _ (List.mem_append_right _ h)) (by decide +kernel))
set_option maxRecDepth 20000 in
theorem gL_upTo_X1_entitledUpTo : GoodIn wsL_upTo (wsV RL 76 RX1 yX1_entitledUpTo wsX1_entitledUpTo) := goodIn_app (goodIn_of _ (by decide +kernel)) ggL_upTo_X1_entitledUpTo
theorem dL_upTo_0 : decode cL_upTo 0 = .ok (.aload_n 0, 1) := by decide +kernel
theorem dL_upTo_1 : decode cL_upTo 1 = .ok (.iload_n 1, 1) := by decide +kernel
theorem dL_upTo_2 : decode cL_upTo 2 = .ok (.iload_n 2, 1) := by decide +kernel
theorem dL_upTo_3 : decode cL_upTo 3 = .ok (.invokevirtual 76, 3) := by decide +kernel
theorem dL_upTo_6 : decode cL_upTo 6 = .ok (.lreturn, 1) := by decide +kernel
theorem dL_upTo_7 : decode cL_upTo 7 = .ok (.astore_n 3, 1) := by decide +kernel
theorem dL_upTo_8 : decode cL_upTo 8 = .ok (.ldc2_w 53, 3) := by decide +kernel
theorem dL_upTo_11 : decode cL_upTo 11 = .ok (.lreturn, 1) := by decide +kernel
theorem dL_upTo_12 : decode cL_upTo 12 = .ok (.astore_n 3, 1) := by decide +kernel
theorem dL_upTo_13 : decode cL_upTo 13 = .ok (.ldc2_w 55, 3) := by decide +kernel
theorem dL_upTo_16 : decode cL_upTo 16 = .ok (.lreturn, 1) := by decide +kernel
set_option maxRecDepth 20000 in
theorem ggL_protection_X1_protection : GoodIn wsL_protection wsX1_protection := goodIn_ca (goodIn_r _ [7, 8, 9, 10, 6, 11, 12, 13, 14, 15, 16, 17, 18, 19, 20, 21, 22, 23, 24, 25, 26, 27, 28, 29, 30, 31, 32, 33, 34, 35, 36, 37, 38, 39, 40, 41, 42, 43, 44, 45, 46, 47, 48, 49, 50, 51, 52, 53, 54, 55, 56, 57, 58, 59, 60, 61, 62, 63, 64, 65, 66, 67, 68, 69, 70, 71] (by decide +kernel) (by decide +kernel)) (goodIn_sub (fun _ h => List.mem_cons_of_mem _ (List.mem_append_right _ h)) (by decide +kernel))
set_option maxRecDepth 20000 in
theorem gL_protection_X1_protection : GoodIn wsL_protection (wsV RL 79 RX1 yX1_protection wsX1_protection) := goodIn_app (goodIn_of _ (by decide +kernel)) ggL_protection_X1_protection
theorem dL_protection_0 : decode cL_protection 0 = .ok (.aload_n 0, 1) := by decide +kernel
theorem dL_protection_1 : decode cL_protection 1 = .ok (.iload_n 1, 1) := by decide +kernel
theorem dL_protection_2 : decode cL_protection 2 = .ok (.invokevirtual 79, 3) := by decide +kernel
theorem dL_protection_5 : decode cL_protection 5 = .ok (.lreturn, 1) := by decide +kernel
theorem dL_protection_6 : decode cL_protection 6 = .ok (.astore_n 2, 1) := by decide +kernel
theorem dL_protection_7 : decode cL_protection 7 = .ok (.ldc2_w 53, 3) := by decide +kernel
theorem dL_protection_10 : decode cL_protection 10 = .ok (.lreturn, 1) := by decide +kernel
set_option maxRecDepth 20000 in
theorem ggL_follows_L_full : GoodIn wsL_follows wsL_full := goodIn_ca (goodIn_ca (goodIn_r _ [5, 6, 7, 8, 9, 10, 11, 12, 13, 14, 15, 16, 17, 18, 19, 20, 21, 22, 23, 24, 25, 26, 27, 28, 29, 30, 31, 32, 33, 34, 112, 113, 114, 115, 116, 117, 118, 119, 120, 121, 122, 123, 124, 125, 126, 127, 128] (by decide +kernel) (by decide +kernel)) (goodIn_sub (fun _ h => List.mem_cons_of_mem _ (List.mem_append_left _ (List.mem_append_right _ h))) (by decide +kernel))) (goodIn_sub (fun _ h => List.mem_cons_of_mem _ (List.mem_append_right _ h)) (by decide +kernel))
set_option maxRecDepth 20000 in
theorem gL_follows_L_full : GoodIn wsL_follows (va_wsS RL 82 yL_full wsL_full) := goodIn_app (goodIn_of _ (by decide +kernel)) ggL_follows_L_full
set_option maxRecDepth 20000 in
theorem ggL_follows_L_carry : GoodIn wsL_follows wsL_carry := goodIn_ca (goodIn_ca (goodIn_r _ [37, 6, 7, 38, 39, 40, 11, 41, 13, 14, 15, 16, 17, 18, 19, 20, 21, 22, 23, 24, 25, 26, 27, 42, 43, 44, 31, 45, 33, 46, 112, 113, 114, 115, 116, 117, 118, 119, 120, 121, 122, 123, 124, 125, 126, 127, 128] (by decide +kernel) (by decide +kernel)) (goodIn_sub (fun _ h => List.mem_cons_of_mem _ (List.mem_append_left _ (List.mem_append_right _ h))) (by decide +kernel))) (goodIn_sub (fun _ h => List.mem_cons_of_mem _ (List.mem_append_right _ h)) (by decide +kernel))
set_option maxRecDepth 20000 in
theorem gL_follows_L_carry : GoodIn wsL_follows (va_wsS RL 88 yL_carry wsL_carry) := goodIn_app (goodIn_of _ (by decide +kernel)) ggL_follows_L_carry
set_option maxRecDepth 20000 in
theorem ggL_follows_L_entitled : GoodIn wsL_follows wsL_entitled := goodIn_ca (goodIn_ca (goodIn_r _ [49, 6, 7, 50, 1, 51, 52, 53, 11, 54, 13, 14, 15, 16, 17, 18, 19, 20, 21, 22, 23, 24, 25, 26, 27, 55, 56, 57, 31, 58, 59, 60, 61, 62, 33, 63, 64, 65, 66, 67, 68, 29, 30, 32, 34, 69, 70, 71, 72, 73, 74, 75, 76, 77, 78, 79, 80, 81, 82, 83, 84, 85, 86, 87, 88, 89, 90, 91, 92, 112, 113, 114, 115, 116, 117, 118, 119, 120, 121, 122, 123, 124, 125, 126, 127, 128] (by decide +kernel) (by decide +kernel)) (goodIn_sub (fun _ h => List.mem_cons_of_mem _ (List.mem_append_left _ (List.mem_append_right _ h))) (by decide +kernel))) (goodIn_sub (fun _ h => List.mem_cons_of_mem _ (List.mem_append_right _ h)) (by decide +kernel))
set_option maxRecDepth 20000 in
theorem gL_follows_L_entitled : GoodIn wsL_follows (va_wsS RL 90 yL_entitled wsL_entitled) := goodIn_app (goodIn_of _ (by decide +kernel)) ggL_follows_L_entitled
set_option maxRecDepth 20000 in
theorem ggL_follows_L_upTo : GoodIn wsL_follows wsL_upTo := goodIn_ca (goodIn_ca (goodIn_r _ [95, 6, 7, 50, 1, 96, 97, 98, 11, 99, 13, 14, 15, 16, 17, 18, 19, 20, 21, 22, 23, 24, 25, 26, 27, 100, 101, 102, 31, 103, 89, 90, 91, 92, 33, 59, 60, 61, 62, 63, 64, 65, 66, 67, 68, 29, 30, 32, 34, 69, 70, 71, 72, 73, 74, 75, 76, 77, 78, 79, 80, 81, 82, 83, 84, 85, 86, 87, 88, 112, 113, 114, 115, 116, 117, 118, 119, 120, 121, 122, 123, 124, 125, 126, 127, 128] (by decide +kernel) (by decide +kernel)) (goodIn_sub (fun _ h => List.mem_cons_of_mem _ (List.mem_append_left _ (List.mem_append_right _ h))) (by decide +kernel))) (goodIn_sub (fun _ h => List.mem_cons_of_mem _ (List.mem_append_right _ h)) (by decide +kernel))
set_option maxRecDepth 20000 in
theorem gL_follows_L_upTo : GoodIn wsL_follows (va_wsS RL 93 yL_upTo wsL_upTo) := goodIn_app (goodIn_of _ (by decide +kernel)) ggL_follows_L_upTo
set_option maxRecDepth 20000 in
theorem ggL_follows_L_protection : GoodIn wsL_follows wsL_protection := goodIn_ca (goodIn_r _ [106, 6, 50, 107, 108, 109, 11, 110, 13, 14, 15, 16, 17, 18, 19, 111, 81, 82, 31, 83, 84, 85, 67, 86, 87, 75, 88, 69, 70, 71, 72, 63, 73, 74, 76, 64, 77, 78, 79, 89, 90, 91, 92, 33, 59, 60, 61, 62, 65, 66, 68, 29, 30, 32, 34, 112, 113, 114, 115, 116, 117, 118, 119, 120, 121, 122, 123, 124, 125, 126, 127, 128] (by decide +kernel) (by decide +kernel)) (goodIn_sub (fun _ h => List.mem_cons_of_mem _ (List.mem_append_left _ (List.mem_append_right _ h))) (by decide +kernel))
set_option maxRecDepth 20000 in
theorem gL_follows_L_protection : GoodIn wsL_follows (va_wsS RL 96 yL_protection wsL_protection) := goodIn_app (goodIn_of _ (by decide +kernel)) ggL_follows_L_protection
theorem dL_follows_0 : decode cL_follows 0 = .ok (.lconst 0, 1) := by decide +kernel
theorem dL_follows_1 : decode cL_follows 1 = .ok (.lstore 6, 2) := by decide +kernel
theorem dL_follows_3 : decode cL_follows 3 = .ok (.iload_n 2, 1) := by decide +kernel
theorem dL_follows_4 : decode cL_follows 4 = .ok (.ifCond .eq 38, 3) := by decide +kernel
theorem dL_follows_7 : decode cL_follows 7 = .ok (.aload_n 0, 1) := by decide +kernel
theorem dL_follows_8 : decode cL_follows 8 = .ok (.iload_n 1, 1) := by decide +kernel
theorem dL_follows_9 : decode cL_follows 9 = .ok (.iload_n 2, 1) := by decide +kernel
theorem dL_follows_10 : decode cL_follows 10 = .ok (.iconst 1, 1) := by decide +kernel
theorem dL_follows_11 : decode cL_follows 11 = .ok (.isub, 1) := by decide +kernel
theorem dL_follows_12 : decode cL_follows 12 = .ok (.invokestatic 82, 3) := by decide +kernel
theorem dL_follows_15 : decode cL_follows 15 = .ok (.ifCond .ne 31, 3) := by decide +kernel
theorem dL_follows_18 : decode cL_follows 18 = .ok (.aload_n 0, 1) := by decide +kernel
theorem dL_follows_19 : decode cL_follows 19 = .ok (.iload_n 1, 1) := by decide +kernel
theorem dL_follows_20 : decode cL_follows 20 = .ok (.iload_n 2, 1) := by decide +kernel
theorem dL_follows_21 : decode cL_follows 21 = .ok (.iconst 1, 1) := by decide +kernel
theorem dL_follows_22 : decode cL_follows 22 = .ok (.isub, 1) := by decide +kernel
theorem dL_follows_23 : decode cL_follows 23 = .ok (.invokestatic 88, 3) := by decide +kernel
theorem dL_follows_26 : decode cL_follows 26 = .ok (.ifCond .ne 20, 3) := by decide +kernel
theorem dL_follows_29 : decode cL_follows 29 = .ok (.aload_n 0, 1) := by decide +kernel
theorem dL_follows_30 : decode cL_follows 30 = .ok (.iload_n 1, 1) := by decide +kernel
theorem dL_follows_31 : decode cL_follows 31 = .ok (.iload_n 2, 1) := by decide +kernel
theorem dL_follows_32 : decode cL_follows 32 = .ok (.iconst 1, 1) := by decide +kernel
theorem dL_follows_33 : decode cL_follows 33 = .ok (.isub, 1) := by decide +kernel
theorem dL_follows_34 : decode cL_follows 34 = .ok (.invokestatic 90, 3) := by decide +kernel
theorem dL_follows_37 : decode cL_follows 37 = .ok (.lconst 0, 1) := by decide +kernel
theorem dL_follows_38 : decode cL_follows 38 = .ok (.lcmp, 1) := by decide +kernel
theorem dL_follows_39 : decode cL_follows 39 = .ok (.ifCond .ne 7, 3) := by decide +kernel
theorem dL_follows_42 : decode cL_follows 42 = .ok (.iconst 1, 1) := by decide +kernel
theorem dL_follows_43 : decode cL_follows 43 = .ok (.goto 4, 3) := by decide +kernel
theorem dL_follows_46 : decode cL_follows 46 = .ok (.iconst 0, 1) := by decide +kernel
theorem dL_follows_47 : decode cL_follows 47 = .ok (.istore 8, 2) := by decide +kernel
theorem dL_follows_49 : decode cL_follows 49 = .ok (.iload 8, 2) := by decide +kernel
theorem dL_follows_51 : decode cL_follows 51 = .ok (.ifCond .eq 25, 3) := by decide +kernel
theorem dL_follows_54 : decode cL_follows 54 = .ok (.aload_n 0, 1) := by decide +kernel
theorem dL_follows_55 : decode cL_follows 55 = .ok (.iload_n 1, 1) := by decide +kernel
theorem dL_follows_56 : decode cL_follows 56 = .ok (.iload_n 2, 1) := by decide +kernel
theorem dL_follows_57 : decode cL_follows 57 = .ok (.invokestatic 88, 3) := by decide +kernel
theorem dL_follows_60 : decode cL_follows 60 = .ok (.ifCond .ne 16, 3) := by decide +kernel
theorem dL_follows_63 : decode cL_follows 63 = .ok (.aload_n 0, 1) := by decide +kernel
theorem dL_follows_64 : decode cL_follows 64 = .ok (.iload_n 1, 1) := by decide +kernel
theorem dL_follows_65 : decode cL_follows 65 = .ok (.iload_n 2, 1) := by decide +kernel
theorem dL_follows_66 : decode cL_follows 66 = .ok (.invokestatic 82, 3) := by decide +kernel
theorem dL_follows_69 : decode cL_follows 69 = .ok (.ifCond .le 7, 3) := by decide +kernel
theorem dL_follows_72 : decode cL_follows 72 = .ok (.iconst 1, 1) := by decide +kernel
theorem dL_follows_73 : decode cL_follows 73 = .ok (.goto 4, 3) := by decide +kernel
theorem dL_follows_76 : decode cL_follows 76 = .ok (.iconst 0, 1) := by decide +kernel
theorem dL_follows_77 : decode cL_follows 77 = .ok (.istore 8, 2) := by decide +kernel
theorem dL_follows_79 : decode cL_follows 79 = .ok (.iconst 0, 1) := by decide +kernel
theorem dL_follows_80 : decode cL_follows 80 = .ok (.istore 9, 2) := by decide +kernel
theorem dL_follows_82 : decode cL_follows 82 = .ok (.iconst 0, 1) := by decide +kernel
theorem dL_follows_83 : decode cL_follows 83 = .ok (.istore 10, 2) := by decide +kernel
theorem dL_follows_85 : decode cL_follows 85 = .ok (.iload 10, 2) := by decide +kernel
theorem dL_follows_87 : decode cL_follows 87 = .ok (.sipush 240, 3) := by decide +kernel
theorem dL_follows_90 : decode cL_follows 90 = .ok (.if_icmp .ge 294, 3) := by decide +kernel
theorem dL_follows_93 : decode cL_follows 93 = .ok (.iload 8, 2) := by decide +kernel
theorem dL_follows_95 : decode cL_follows 95 = .ok (.ifCond .eq 289, 3) := by decide +kernel
theorem dL_follows_98 : decode cL_follows 98 = .ok (.aload_n 0, 1) := by decide +kernel
theorem dL_follows_99 : decode cL_follows 99 = .ok (.iload_n 1, 1) := by decide +kernel
theorem dL_follows_100 : decode cL_follows 100 = .ok (.iload 10, 2) := by decide +kernel
theorem dL_follows_102 : decode cL_follows 102 = .ok (.invokestatic 82, 3) := by decide +kernel
theorem dL_follows_105 : decode cL_follows 105 = .ok (.istore 11, 2) := by decide +kernel
theorem dL_follows_107 : decode cL_follows 107 = .ok (.aload_n 0, 1) := by decide +kernel
theorem dL_follows_108 : decode cL_follows 108 = .ok (.iload_n 1, 1) := by decide +kernel
theorem dL_follows_109 : decode cL_follows 109 = .ok (.iload 10, 2) := by decide +kernel
theorem dL_follows_111 : decode cL_follows 111 = .ok (.invokestatic 88, 3) := by decide +kernel
theorem dL_follows_114 : decode cL_follows 114 = .ok (.istore 12, 2) := by decide +kernel
theorem dL_follows_116 : decode cL_follows 116 = .ok (.aload_n 0, 1) := by decide +kernel
theorem dL_follows_117 : decode cL_follows 117 = .ok (.iload_n 1, 1) := by decide +kernel
theorem dL_follows_118 : decode cL_follows 118 = .ok (.iload 10, 2) := by decide +kernel
theorem dL_follows_120 : decode cL_follows 120 = .ok (.invokestatic 90, 3) := by decide +kernel
theorem dL_follows_123 : decode cL_follows 123 = .ok (.lstore 13, 2) := by decide +kernel
theorem dL_follows_125 : decode cL_follows 125 = .ok (.iload 10, 2) := by decide +kernel
theorem dL_follows_127 : decode cL_follows 127 = .ok (.iload_n 2, 1) := by decide +kernel
theorem dL_follows_128 : decode cL_follows 128 = .ok (.if_icmp .le 164, 3) := by decide +kernel
theorem dL_follows_131 : decode cL_follows 131 = .ok (.aload_n 0, 1) := by decide +kernel
theorem dL_follows_132 : decode cL_follows 132 = .ok (.iload_n 1, 1) := by decide +kernel
theorem dL_follows_133 : decode cL_follows 133 = .ok (.iload 10, 2) := by decide +kernel
theorem dL_follows_135 : decode cL_follows 135 = .ok (.iconst 1, 1) := by decide +kernel
theorem dL_follows_136 : decode cL_follows 136 = .ok (.isub, 1) := by decide +kernel
theorem dL_follows_137 : decode cL_follows 137 = .ok (.invokestatic 82, 3) := by decide +kernel
theorem dL_follows_140 : decode cL_follows 140 = .ok (.istore 15, 2) := by decide +kernel
theorem dL_follows_142 : decode cL_follows 142 = .ok (.aload_n 0, 1) := by decide +kernel
theorem dL_follows_143 : decode cL_follows 143 = .ok (.iload_n 1, 1) := by decide +kernel
theorem dL_follows_144 : decode cL_follows 144 = .ok (.iload 10, 2) := by decide +kernel
theorem dL_follows_146 : decode cL_follows 146 = .ok (.iconst 1, 1) := by decide +kernel
theorem dL_follows_147 : decode cL_follows 147 = .ok (.isub, 1) := by decide +kernel
theorem dL_follows_148 : decode cL_follows 148 = .ok (.invokestatic 88, 3) := by decide +kernel
theorem dL_follows_151 : decode cL_follows 151 = .ok (.istore 16, 2) := by decide +kernel
theorem dL_follows_153 : decode cL_follows 153 = .ok (.iload 10, 2) := by decide +kernel
theorem dL_follows_155 : decode cL_follows 155 = .ok (.iload_n 2, 1) := by decide +kernel
theorem dL_follows_156 : decode cL_follows 156 = .ok (.isub, 1) := by decide +kernel
theorem dL_follows_157 : decode cL_follows 157 = .ok (.bipush 12, 2) := by decide +kernel
theorem dL_follows_159 : decode cL_follows 159 = .ok (.irem, 1) := by decide +kernel
theorem dL_follows_160 : decode cL_follows 160 = .ok (.ifCond .ne 7, 3) := by decide +kernel
theorem dL_follows_163 : decode cL_follows 163 = .ok (.iconst 1, 1) := by decide +kernel
theorem dL_follows_164 : decode cL_follows 164 = .ok (.goto 4, 3) := by decide +kernel
theorem dL_follows_167 : decode cL_follows 167 = .ok (.iconst 0, 1) := by decide +kernel
theorem dL_follows_168 : decode cL_follows 168 = .ok (.istore 17, 2) := by decide +kernel
theorem dL_follows_170 : decode cL_follows 170 = .ok (.iload 16, 2) := by decide +kernel
theorem dL_follows_172 : decode cL_follows 172 = .ok (.aload 5, 2) := by decide +kernel
theorem dL_follows_174 : decode cL_follows 174 = .ok (.iload 10, 2) := by decide +kernel
theorem dL_follows_176 : decode cL_follows 176 = .ok (.bipush 12, 2) := by decide +kernel
theorem dL_follows_178 : decode cL_follows 178 = .ok (.idiv, 1) := by decide +kernel
theorem dL_follows_179 : decode cL_follows 179 = .ok (.iload 10, 2) := by decide +kernel
theorem dL_follows_181 : decode cL_follows 181 = .ok (.bipush 12, 2) := by decide +kernel
theorem dL_follows_183 : decode cL_follows 183 = .ok (.idiv, 1) := by decide +kernel
theorem dL_follows_184 : decode cL_follows 184 = .ok (.ifCond .le 7, 3) := by decide +kernel
theorem dL_follows_187 : decode cL_follows 187 = .ok (.iconst 1, 1) := by decide +kernel
theorem dL_follows_188 : decode cL_follows 188 = .ok (.goto 4, 3) := by decide +kernel
theorem dL_follows_191 : decode cL_follows 191 = .ok (.iconst 0, 1) := by decide +kernel
theorem dL_follows_192 : decode cL_follows 192 = .ok (.isub, 1) := by decide +kernel
theorem dL_follows_193 : decode cL_follows 193 = .ok (.iaload, 1) := by decide +kernel
theorem dL_follows_194 : decode cL_follows 194 = .ok (.iadd, 1) := by decide +kernel
theorem dL_follows_195 : decode cL_follows 195 = .ok (.istore 18, 2) := by decide +kernel
theorem dL_follows_197 : decode cL_follows 197 = .ok (.iload 18, 2) := by decide +kernel
theorem dL_follows_199 : decode cL_follows 199 = .ok (.iload_n 3, 1) := by decide +kernel
theorem dL_follows_200 : decode cL_follows 200 = .ok (.if_icmp .le 7, 3) := by decide +kernel
theorem dL_follows_203 : decode cL_follows 203 = .ok (.iload_n 3, 1) := by decide +kernel
theorem dL_follows_204 : decode cL_follows 204 = .ok (.goto 14, 3) := by decide +kernel
theorem dL_follows_207 : decode cL_follows 207 = .ok (.iload 18, 2) := by decide +kernel
theorem dL_follows_209 : decode cL_follows 209 = .ok (.ifCond .ge 7, 3) := by decide +kernel
theorem dL_follows_212 : decode cL_follows 212 = .ok (.iconst 0, 1) := by decide +kernel
theorem dL_follows_213 : decode cL_follows 213 = .ok (.goto 5, 3) := by decide +kernel
theorem dL_follows_216 : decode cL_follows 216 = .ok (.iload 18, 2) := by decide +kernel
theorem dL_follows_218 : decode cL_follows 218 = .ok (.istore 18, 2) := by decide +kernel
theorem dL_follows_220 : decode cL_follows 220 = .ok (.iload 17, 2) := by decide +kernel
theorem dL_follows_222 : decode cL_follows 222 = .ok (.ifCond .eq 49, 3) := by decide +kernel
theorem dL_follows_225 : decode cL_follows 225 = .ok (.iload 11, 2) := by decide +kernel
theorem dL_follows_227 : decode cL_follows 227 = .ok (.iload 15, 2) := by decide +kernel
theorem dL_follows_229 : decode cL_follows 229 = .ok (.iload 15, 2) := by decide +kernel
theorem dL_follows_231 : decode cL_follows 231 = .ok (.iload 18, 2) := by decide +kernel
theorem dL_follows_233 : decode cL_follows 233 = .ok (.imul, 1) := by decide +kernel
theorem dL_follows_234 : decode cL_follows 234 = .ok (.sipush 1000, 3) := by decide +kernel
theorem dL_follows_237 : decode cL_follows 237 = .ok (.idiv, 1) := by decide +kernel
theorem dL_follows_238 : decode cL_follows 238 = .ok (.iadd, 1) := by decide +kernel
theorem dL_follows_239 : decode cL_follows 239 = .ok (.if_icmp .ne 28, 3) := by decide +kernel
theorem dL_follows_242 : decode cL_follows 242 = .ok (.iload 12, 2) := by decide +kernel
theorem dL_follows_244 : decode cL_follows 244 = .ok (.iload 16, 2) := by decide +kernel
theorem dL_follows_246 : decode cL_follows 246 = .ok (.aload 5, 2) := by decide +kernel
theorem dL_follows_248 : decode cL_follows 248 = .ok (.iload 10, 2) := by decide +kernel
theorem dL_follows_250 : decode cL_follows 250 = .ok (.bipush 12, 2) := by decide +kernel
theorem dL_follows_252 : decode cL_follows 252 = .ok (.idiv, 1) := by decide +kernel
theorem dL_follows_253 : decode cL_follows 253 = .ok (.iconst 1, 1) := by decide +kernel
theorem dL_follows_254 : decode cL_follows 254 = .ok (.isub, 1) := by decide +kernel
theorem dL_follows_255 : decode cL_follows 255 = .ok (.iaload, 1) := by decide +kernel
theorem dL_follows_256 : decode cL_follows 256 = .ok (.iadd, 1) := by decide +kernel
theorem dL_follows_257 : decode cL_follows 257 = .ok (.iload 18, 2) := by decide +kernel
theorem dL_follows_259 : decode cL_follows 259 = .ok (.isub, 1) := by decide +kernel
theorem dL_follows_260 : decode cL_follows 260 = .ok (.if_icmp .ne 7, 3) := by decide +kernel
theorem dL_follows_263 : decode cL_follows 263 = .ok (.iconst 1, 1) := by decide +kernel
theorem dL_follows_264 : decode cL_follows 264 = .ok (.goto 26, 3) := by decide +kernel
theorem dL_follows_267 : decode cL_follows 267 = .ok (.iconst 0, 1) := by decide +kernel
theorem dL_follows_268 : decode cL_follows 268 = .ok (.goto 22, 3) := by decide +kernel
theorem dL_follows_271 : decode cL_follows 271 = .ok (.iload 11, 2) := by decide +kernel
theorem dL_follows_273 : decode cL_follows 273 = .ok (.iload 15, 2) := by decide +kernel
theorem dL_follows_275 : decode cL_follows 275 = .ok (.if_icmp .ne 14, 3) := by decide +kernel
theorem dL_follows_278 : decode cL_follows 278 = .ok (.iload 12, 2) := by decide +kernel
theorem dL_follows_280 : decode cL_follows 280 = .ok (.iload 16, 2) := by decide +kernel
theorem dL_follows_282 : decode cL_follows 282 = .ok (.if_icmp .ne 7, 3) := by decide +kernel
theorem dL_follows_285 : decode cL_follows 285 = .ok (.iconst 1, 1) := by decide +kernel
theorem dL_follows_286 : decode cL_follows 286 = .ok (.goto 4, 3) := by decide +kernel
theorem dL_follows_289 : decode cL_follows 289 = .ok (.iconst 0, 1) := by decide +kernel
theorem dL_follows_290 : decode cL_follows 290 = .ok (.istore 8, 2) := by decide +kernel
theorem dL_follows_292 : decode cL_follows 292 = .ok (.lload 6, 2) := by decide +kernel
theorem dL_follows_294 : decode cL_follows 294 = .ok (.lload 13, 2) := by decide +kernel
theorem dL_follows_296 : decode cL_follows 296 = .ok (.ladd, 1) := by decide +kernel
theorem dL_follows_297 : decode cL_follows 297 = .ok (.lstore 6, 2) := by decide +kernel
theorem dL_follows_299 : decode cL_follows 299 = .ok (.iload 8, 2) := by decide +kernel
theorem dL_follows_301 : decode cL_follows 301 = .ok (.ifCond .eq 27, 3) := by decide +kernel
theorem dL_follows_304 : decode cL_follows 304 = .ok (.aload_n 0, 1) := by decide +kernel
theorem dL_follows_305 : decode cL_follows 305 = .ok (.iload_n 1, 1) := by decide +kernel
theorem dL_follows_306 : decode cL_follows 306 = .ok (.iload 10, 2) := by decide +kernel
theorem dL_follows_308 : decode cL_follows 308 = .ok (.invokestatic 93, 3) := by decide +kernel
theorem dL_follows_311 : decode cL_follows 311 = .ok (.lload 6, 2) := by decide +kernel
theorem dL_follows_313 : decode cL_follows 313 = .ok (.lcmp, 1) := by decide +kernel
theorem dL_follows_314 : decode cL_follows 314 = .ok (.ifCond .ne 14, 3) := by decide +kernel
theorem dL_follows_317 : decode cL_follows 317 = .ok (.lload 13, 2) := by decide +kernel
theorem dL_follows_319 : decode cL_follows 319 = .ok (.lconst 0, 1) := by decide +kernel
theorem dL_follows_320 : decode cL_follows 320 = .ok (.lcmp, 1) := by decide +kernel
theorem dL_follows_321 : decode cL_follows 321 = .ok (.ifCond .lt 7, 3) := by decide +kernel
theorem dL_follows_324 : decode cL_follows 324 = .ok (.iconst 1, 1) := by decide +kernel
theorem dL_follows_325 : decode cL_follows 325 = .ok (.goto 4, 3) := by decide +kernel
theorem dL_follows_328 : decode cL_follows 328 = .ok (.iconst 0, 1) := by decide +kernel
theorem dL_follows_329 : decode cL_follows 329 = .ok (.istore 8, 2) := by decide +kernel
theorem dL_follows_331 : decode cL_follows 331 = .ok (.iload 9, 2) := by decide +kernel
theorem dL_follows_333 : decode cL_follows 333 = .ok (.iload 10, 2) := by decide +kernel
theorem dL_follows_335 : decode cL_follows 335 = .ok (.iload_n 2, 1) := by decide +kernel
theorem dL_follows_336 : decode cL_follows 336 = .ok (.if_icmp .lt 38, 3) := by decide +kernel
theorem dL_follows_339 : decode cL_follows 339 = .ok (.lload 13, 2) := by decide +kernel
theorem dL_follows_341 : decode cL_follows 341 = .ok (.lconst 0, 1) := by decide +kernel
theorem dL_follows_342 : decode cL_follows 342 = .ok (.lcmp, 1) := by decide +kernel
theorem dL_follows_343 : decode cL_follows 343 = .ok (.ifCond .eq 31, 3) := by decide +kernel
theorem dL_follows_346 : decode cL_follows 346 = .ok (.lload 13, 2) := by decide +kernel
theorem dL_follows_348 : decode cL_follows 348 = .ok (.iload 11, 2) := by decide +kernel
theorem dL_follows_350 : decode cL_follows 350 = .ok (.i2l, 1) := by decide +kernel
theorem dL_follows_351 : decode cL_follows 351 = .ok (.lcmp, 1) := by decide +kernel
theorem dL_follows_352 : decode cL_follows 352 = .ok (.ifCond .eq 22, 3) := by decide +kernel
theorem dL_follows_355 : decode cL_follows 355 = .ok (.lload 13, 2) := by decide +kernel
theorem dL_follows_357 : decode cL_follows 357 = .ok (.iload 11, 2) := by decide +kernel
theorem dL_follows_359 : decode cL_follows 359 = .ok (.iload 4, 2) := by decide +kernel
theorem dL_follows_361 : decode cL_follows 361 = .ok (.imul, 1) := by decide +kernel
theorem dL_follows_362 : decode cL_follows 362 = .ok (.bipush 100, 2) := by decide +kernel
theorem dL_follows_364 : decode cL_follows 364 = .ok (.idiv, 1) := by decide +kernel
theorem dL_follows_365 : decode cL_follows 365 = .ok (.i2l, 1) := by decide +kernel
theorem dL_follows_366 : decode cL_follows 366 = .ok (.lcmp, 1) := by decide +kernel
theorem dL_follows_367 : decode cL_follows 367 = .ok (.ifCond .eq 7, 3) := by decide +kernel
theorem dL_follows_370 : decode cL_follows 370 = .ok (.iconst 1, 1) := by decide +kernel
theorem dL_follows_371 : decode cL_follows 371 = .ok (.goto 4, 3) := by decide +kernel
theorem dL_follows_374 : decode cL_follows 374 = .ok (.iconst 0, 1) := by decide +kernel
theorem dL_follows_375 : decode cL_follows 375 = .ok (.iadd, 1) := by decide +kernel
theorem dL_follows_376 : decode cL_follows 376 = .ok (.istore 9, 2) := by decide +kernel
theorem dL_follows_378 : decode cL_follows 378 = .ok (.iinc 10 1, 3) := by decide +kernel
theorem dL_follows_381 : decode cL_follows 381 = .ok (.goto (-296), 3) := by decide +kernel
theorem dL_follows_384 : decode cL_follows 384 = .ok (.iload 8, 2) := by decide +kernel
theorem dL_follows_386 : decode cL_follows 386 = .ok (.ifCond .eq 75, 3) := by decide +kernel
theorem dL_follows_389 : decode cL_follows 389 = .ok (.iload 9, 2) := by decide +kernel
theorem dL_follows_391 : decode cL_follows 391 = .ok (.iconst 1, 1) := by decide +kernel
theorem dL_follows_392 : decode cL_follows 392 = .ok (.if_icmp .gt 69, 3) := by decide +kernel
theorem dL_follows_395 : decode cL_follows 395 = .ok (.aload_n 0, 1) := by decide +kernel
theorem dL_follows_396 : decode cL_follows 396 = .ok (.iload_n 1, 1) := by decide +kernel
theorem dL_follows_397 : decode cL_follows 397 = .ok (.invokestatic 96, 3) := by decide +kernel
theorem dL_follows_400 : decode cL_follows 400 = .ok (.lconst 0, 1) := by decide +kernel
theorem dL_follows_401 : decode cL_follows 401 = .ok (.lcmp, 1) := by decide +kernel
theorem dL_follows_402 : decode cL_follows 402 = .ok (.ifCond .lt 59, 3) := by decide +kernel
theorem dL_follows_405 : decode cL_follows 405 = .ok (.aload_n 0, 1) := by decide +kernel
theorem dL_follows_406 : decode cL_follows 406 = .ok (.iload_n 1, 1) := by decide +kernel
theorem dL_follows_407 : decode cL_follows 407 = .ok (.invokestatic 96, 3) := by decide +kernel
theorem dL_follows_410 : decode cL_follows 410 = .ok (.lload 6, 2) := by decide +kernel
theorem dL_follows_412 : decode cL_follows 412 = .ok (.lcmp, 1) := by decide +kernel
theorem dL_follows_413 : decode cL_follows 413 = .ok (.ifCond .gt 48, 3) := by decide +kernel
theorem dL_follows_416 : decode cL_follows 416 = .ok (.aload_n 0, 1) := by decide +kernel
theorem dL_follows_417 : decode cL_follows 417 = .ok (.iload_n 1, 1) := by decide +kernel
theorem dL_follows_418 : decode cL_follows 418 = .ok (.sipush 240, 3) := by decide +kernel
theorem dL_follows_421 : decode cL_follows 421 = .ok (.invokestatic 82, 3) := by decide +kernel
theorem dL_follows_424 : decode cL_follows 424 = .ok (.bipush (-102), 2) := by decide +kernel
theorem dL_follows_426 : decode cL_follows 426 = .ok (.if_icmp .ne 35, 3) := by decide +kernel
theorem dL_follows_429 : decode cL_follows 429 = .ok (.aload_n 0, 1) := by decide +kernel
theorem dL_follows_430 : decode cL_follows 430 = .ok (.iload_n 1, 1) := by decide +kernel
theorem dL_follows_431 : decode cL_follows 431 = .ok (.iconst (-1), 1) := by decide +kernel
theorem dL_follows_432 : decode cL_follows 432 = .ok (.invokestatic 90, 3) := by decide +kernel
theorem dL_follows_435 : decode cL_follows 435 = .ok (.ldc2_w 55, 3) := by decide +kernel
theorem dL_follows_438 : decode cL_follows 438 = .ok (.lcmp, 1) := by decide +kernel
theorem dL_follows_439 : decode cL_follows 439 = .ok (.ifCond .ne 22, 3) := by decide +kernel
theorem dL_follows_442 : decode cL_follows 442 = .ok (.aload_n 0, 1) := by decide +kernel
theorem dL_follows_443 : decode cL_follows 443 = .ok (.iload_n 1, 1) := by decide +kernel
theorem dL_follows_444 : decode cL_follows 444 = .ok (.sipush 240, 3) := by decide +kernel
theorem dL_follows_447 : decode cL_follows 447 = .ok (.invokestatic 93, 3) := by decide +kernel
theorem dL_follows_450 : decode cL_follows 450 = .ok (.ldc2_w 55, 3) := by decide +kernel
theorem dL_follows_453 : decode cL_follows 453 = .ok (.lcmp, 1) := by decide +kernel
theorem dL_follows_454 : decode cL_follows 454 = .ok (.ifCond .ne 7, 3) := by decide +kernel
theorem dL_follows_457 : decode cL_follows 457 = .ok (.iconst 1, 1) := by decide +kernel
theorem dL_follows_458 : decode cL_follows 458 = .ok (.goto 4, 3) := by decide +kernel
theorem dL_follows_461 : decode cL_follows 461 = .ok (.iconst 0, 1) := by decide +kernel
theorem dL_follows_462 : decode cL_follows 462 = .ok (.ireturn, 1) := by decide +kernel
set_option maxRecDepth 20000 in
theorem ggL_law_X1_init : GoodIn wsL_law wsX1_init := goodIn_r _ [13, 14, 15, 16, 17, 18, 3, 19, 20, 21, 268, 269, 270, 271] (by decide +kernel) (by decide +kernel)
set_option maxRecDepth 20000 in
theorem gL_law_X1_init : GoodIn wsL_law (wsX1_init) := ggL_law_X1_init
set_option maxRecDepth 20000 in
theorem ggL_law_X1_month : GoodIn wsL_law wsX1_month := goodIn_r _ [25, 21, 268, 269, 270, 271] (by decide +kernel) (by decide +kernel)
set_option maxRecDepth 20000 in
theorem gL_law_X1_month : GoodIn wsL_law (wsV RL 100 RX1 yX1_month wsX1_month) := goodIn_app (goodIn_of _ (by decide +kernel)) ggL_law_X1_month
set_option maxRecDepth 20000 in
theorem ggL_law_L_paidAll : GoodIn wsL_law wsL_paidAll := goodIn_ca (goodIn_r _ [29, 30, 4, 31, 32, 33, 2, 34, 35, 36, 37, 38, 39, 40, 41, 18, 272, 273, 274, 275, 276, 277, 278, 279, 280, 281, 282, 283, 284, 268, 269, 270, 271] (by decide +kernel) (by decide +kernel)) (goodIn_sub (fun _ h => List.mem_append_left _ (List.mem_append_left _ (List.mem_append_right _ h))) (by decide +kernel))
set_option maxRecDepth 20000 in
theorem gL_law_L_paidAll : GoodIn wsL_law (va_wsS RL 104 yL_paidAll wsL_paidAll) := goodIn_app (goodIn_of _ (by decide +kernel)) ggL_law_L_paidAll
set_option maxRecDepth 20000 in
theorem ggL_law_L_owes : GoodIn wsL_law wsL_owes := goodIn_ca (goodIn_r _ [44, 30, 4, 45, 46, 47, 2, 48, 21, 36, 37, 38, 39, 40, 41, 18, 49, 50, 51, 52, 53, 54, 55, 56, 57, 58, 59, 60, 61, 62, 63, 64, 65, 66, 67, 68, 69, 70, 71, 72, 73, 74, 75, 76, 77, 78, 79, 80, 81, 82, 83, 84, 85, 86, 87, 88, 89, 90, 91, 92, 93, 94, 95, 96, 97, 268, 269, 270, 271, 272, 273, 274, 275, 276, 277, 278, 279, 280, 281, 282, 283, 284] (by decide +kernel) (by decide +kernel)) (goodIn_sub (fun _ h => List.mem_append_left _ (List.mem_append_left _ (List.mem_append_right _ h))) (by decide +kernel))
set_option maxRecDepth 20000 in
theorem gL_law_L_owes : GoodIn wsL_law (va_wsS RL 107 yL_owes wsL_owes) := goodIn_app (goodIn_of _ (by decide +kernel)) ggL_law_L_owes
set_option maxRecDepth 20000 in
theorem ggL_law_L_protection : GoodIn wsL_law wsL_protection := goodIn_ca (goodIn_r _ [100, 30, 4, 101, 102, 103, 2, 104, 36, 37, 38, 39, 40, 41, 18, 105, 93, 94, 52, 95, 96, 97, 76, 55, 56, 57, 58, 82, 83, 84, 85, 72, 86, 87, 88, 73, 89, 90, 91, 63, 64, 65, 66, 67, 68, 69, 70, 71, 74, 75, 77, 78, 79, 80, 81, 268, 269, 270, 271, 272, 273, 274, 275, 276, 277, 278, 279, 280, 281, 282, 283, 284] (by decide +kernel) (by decide +kernel)) (goodIn_sub (fun _ h => List.mem_append_left _ (List.mem_append_left _ (List.mem_append_right _ h))) (by decide +kernel))
set_option maxRecDepth 20000 in
theorem gL_law_L_protection : GoodIn wsL_law (va_wsS RL 96 yL_protection wsL_protection) := goodIn_app (goodIn_of _ (by decide +kernel)) ggL_law_L_protection
set_option maxRecDepth 20000 in
theorem ggL_law_L_cell : GoodIn wsL_law wsL_cell := goodIn_r _ [108, 109, 110] (by decide +kernel) (by decide +kernel)
set_option maxRecDepth 20000 in
theorem gL_law_L_cell : GoodIn wsL_law (va_wsS RL 109 yL_cell wsL_cell) := goodIn_app (goodIn_of _ (by decide +kernel)) ggL_law_L_cell
set_option maxRecDepth 20000 in
theorem ggL_law_L_add : GoodIn wsL_law wsL_add := goodIn_ca (goodIn_ca (goodIn_r _ [113, 114, 115, 116, 117, 118, 2, 119, 120, 121, 21, 122, 20, 18, 17, 123, 52, 19, 124, 125, 126, 127, 128, 129, 130, 131, 132, 15, 16, 67, 133, 73, 75, 74, 134, 96, 97, 3, 72, 81, 135, 136, 137, 54, 138, 139, 140, 141, 89, 90, 57, 91, 86, 87, 88, 268, 269, 270, 271, 272, 273, 274, 275, 276, 277, 278, 279, 280, 281, 282, 283, 284] (by decide +kernel) (by decide +kernel)) (goodIn_sub (fun _ h => List.mem_append_left _ (List.mem_append_right _ h)) (by decide +kernel))) (goodIn_sub (fun _ h => List.mem_append_right _ h) (by decide +kernel))
set_option maxRecDepth 20000 in
theorem gL_law_L_add : GoodIn wsL_law (va_wsS RL 114 yL_add wsL_add) := goodIn_app (goodIn_of _ (by decide +kernel)) ggL_law_L_add
set_option maxRecDepth 20000 in
theorem ggL_law_L_cap : GoodIn wsL_law wsL_cap := goodIn_ca (goodIn_ca (goodIn_ca (goodIn_r _ [144, 30, 114, 115, 145, 146, 147, 2, 148, 149, 19, 36, 37, 38, 39, 40, 41, 18, 124, 125, 126, 127, 128, 150, 151, 152, 153, 120, 121, 154, 21, 138, 139, 140, 52, 141, 133, 81, 135, 67, 134, 89, 90, 57, 91, 86, 87, 88, 272, 273, 274, 275, 276, 277, 278, 279, 280, 281, 282, 283, 284, 268, 269, 270, 271] (by decide +kernel) (by decide +kernel)) (goodIn_sub (fun _ h => List.mem_append_left _ (List.mem_append_left _ (List.mem_append_right _ h))) (by decide +kernel))) (goodIn_sub (fun _ h => List.mem_append_right _ h) (by decide +kernel))) (goodIn_sub (fun _ h => List.mem_append_left _ (List.mem_append_right _ h)) (by decide +kernel))
set_option maxRecDepth 20000 in
theorem gL_law_L_cap : GoodIn wsL_law (va_wsS RL 117 yL_cap wsL_cap) := goodIn_app (goodIn_of _ (by decide +kernel)) ggL_law_L_cap
set_option maxRecDepth 20000 in
theorem ggL_law_L_survivor : GoodIn wsL_law wsL_survivor := goodIn_ca (goodIn_ca (goodIn_ca (goodIn_r _ [157, 30, 114, 115, 158, 159, 160, 2, 161, 162, 163, 36, 37, 38, 39, 40, 41, 18, 124, 125, 126, 127, 128, 150, 151, 152, 153, 120, 121, 154, 21, 272, 273, 274, 275, 276, 277, 278, 279, 280, 281, 282, 283, 284, 268, 269, 270, 271] (by decide +kernel) (by decide +kernel)) (goodIn_sub (fun _ h => List.mem_append_left _ (List.mem_append_left _ (List.mem_append_right _ h))) (by decide +kernel))) (goodIn_sub (fun _ h => List.mem_append_right _ h) (by decide +kernel))) (goodIn_sub (fun _ h => List.mem_append_left _ (List.mem_append_right _ h)) (by decide +kernel))
set_option maxRecDepth 20000 in
theorem gL_law_L_survivor : GoodIn wsL_law (va_wsS RL 120 yL_survivor wsL_survivor) := goodIn_app (goodIn_of _ (by decide +kernel)) ggL_law_L_survivor
set_option maxRecDepth 20000 in
theorem ggL_law_L_protect : GoodIn wsL_law wsL_protect := goodIn_ca (goodIn_ca (goodIn_ca (goodIn_r _ [166, 30, 114, 115, 167, 168, 169, 2, 170, 171, 172, 173, 36, 37, 38, 39, 40, 41, 18, 124, 125, 126, 127, 128, 150, 151, 152, 153, 120, 121, 154, 21, 272, 273, 274, 275, 276, 277, 278, 279, 280, 281, 282, 283, 284, 268, 269, 270, 271] (by decide +kernel) (by decide +kernel)) (goodIn_sub (fun _ h => List.mem_append_left _ (List.mem_append_left _ (List.mem_append_right _ h))) (by decide +kernel))) (goodIn_sub (fun _ h => List.mem_append_right _ h) (by decide +kernel))) (goodIn_sub (fun _ h => List.mem_append_left _ (List.mem_append_right _ h)) (by decide +kernel))
set_option maxRecDepth 20000 in
theorem gL_law_L_protect : GoodIn wsL_law (va_wsS RL 125 yL_protect wsL_protect) := goodIn_app (goodIn_of _ (by decide +kernel)) ggL_law_L_protect
set_option maxRecDepth 20000 in
theorem ggL_law_L_run : GoodIn wsL_law wsL_run := goodIn_ca (goodIn_r _ [176, 115, 10, 177, 178, 179, 2, 180, 120, 121, 21, 18, 181, 182, 183, 52, 184, 54, 55, 56, 57, 58, 137, 59, 60, 61, 62, 63, 64, 65, 66, 67, 68, 69, 70, 71, 72, 73, 74, 75, 76, 77, 78, 79, 80, 81, 82, 83, 84, 85, 86, 87, 88, 89, 90, 91, 92, 93, 94, 95, 96, 97, 268, 269, 270, 271, 272, 273, 274, 275, 276, 277, 278, 279, 280, 281, 282, 283, 284] (by decide +kernel) (by decide +kernel)) (goodIn_sub (fun _ h => List.mem_append_left _ (List.mem_append_right _ h)) (by decide +kernel))
set_option maxRecDepth 20000 in
theorem gL_law_L_run : GoodIn wsL_law (va_wsS RL 127 yL_run wsL_run) := goodIn_app (goodIn_of _ (by decide +kernel)) ggL_law_L_run
set_option maxRecDepth 20000 in
theorem ggL_law_L_paid : GoodIn wsL_law wsL_paid := goodIn_ca (goodIn_ca (goodIn_r _ [187, 30, 114, 4, 7, 188, 189, 190, 2, 191, 21, 192, 36, 37, 38, 39, 40, 41, 18, 124, 125, 126, 127, 128, 268, 269, 270, 271, 272, 273, 274, 275, 276, 277, 278, 279, 280, 281, 282, 283, 284] (by decide +kernel) (by decide +kernel)) (goodIn_sub (fun _ h => List.mem_append_left _ (List.mem_append_left _ (List.mem_append_right _ h))) (by decide +kernel))) (goodIn_sub (fun _ h => List.mem_append_right _ h) (by decide +kernel))
set_option maxRecDepth 20000 in
theorem gL_law_L_paid : GoodIn wsL_law (va_wsS RL 130 yL_paid wsL_paid) := goodIn_app (goodIn_of _ (by decide +kernel)) ggL_law_L_paid
set_option maxRecDepth 20000 in
theorem ggL_law_L_upTo : GoodIn wsL_law wsL_upTo := goodIn_ca (goodIn_ca (goodIn_r _ [195, 30, 114, 4, 7, 196, 197, 198, 2, 199, 36, 37, 38, 39, 40, 41, 18, 200, 201, 202, 124, 125, 126, 127, 128, 203, 60, 61, 52, 62, 63, 64, 65, 66, 67, 68, 69, 70, 71, 72, 73, 74, 75, 76, 77, 78, 79, 80, 81, 82, 83, 84, 85, 86, 87, 57, 88, 89, 90, 91, 92, 93, 94, 95, 96, 97, 55, 56, 58, 268, 269, 270, 271, 272, 273, 274, 275, 276, 277, 278, 279, 280, 281, 282, 283, 284] (by decide +kernel) (by decide +kernel)) (goodIn_sub (fun _ h => List.mem_append_left _ (List.mem_append_left _ (List.mem_append_right _ h))) (by decide +kernel))) (goodIn_sub (fun _ h => List.mem_append_right _ h) (by decide +kernel))
set_option maxRecDepth 20000 in
theorem gL_law_L_upTo : GoodIn wsL_law (va_wsS RL 93 yL_upTo wsL_upTo) := goodIn_app (goodIn_of _ (by decide +kernel)) ggL_law_L_upTo
set_option maxRecDepth 20000 in
theorem ggL_law_L_inflation : GoodIn wsL_law wsL_inflation := goodIn_ca (goodIn_r _ [206, 114, 207, 208, 209, 2, 210, 19, 18, 124, 125, 126, 127, 128, 138, 139, 140, 52, 141, 133, 81, 135, 67, 134, 89, 90, 57, 91, 86, 87, 88, 268, 269, 270, 271, 272, 273, 274, 275, 276, 277, 278, 279, 280, 281, 282, 283, 284] (by decide +kernel) (by decide +kernel)) (goodIn_sub (fun _ h => List.mem_append_right _ h) (by decide +kernel))
set_option maxRecDepth 20000 in
theorem gL_law_L_inflation : GoodIn wsL_law (va_wsS RL 132 yL_inflation wsL_inflation) := goodIn_app (goodIn_of _ (by decide +kernel)) ggL_law_L_inflation
set_option maxRecDepth 20000 in
theorem ggL_law_L_die : GoodIn wsL_law wsL_die := goodIn_ca (goodIn_ca (goodIn_ca (goodIn_r _ [213, 30, 114, 115, 214, 215, 216, 2, 217, 120, 121, 21, 218, 90, 57, 91, 219, 36, 37, 38, 39, 40, 41, 18, 124, 125, 126, 127, 128, 268, 269, 270, 271, 272, 273, 274, 275, 276, 277, 278, 279, 280, 281, 282, 283, 284] (by decide +kernel) (by decide +kernel)) (goodIn_sub (fun _ h => List.mem_append_left _ (List.mem_append_right _ h)) (by decide +kernel))) (goodIn_sub (fun _ h => List.mem_append_left _ (List.mem_append_left _ (List.mem_append_right _ h))) (by decide +kernel))) (goodIn_sub (fun _ h => List.mem_append_right _ h) (by decide +kernel))
set_option maxRecDepth 20000 in
theorem gL_law_L_die : GoodIn wsL_law (va_wsS RL 135 yL_die wsL_die) := goodIn_app (goodIn_of _ (by decide +kernel)) ggL_law_L_die
set_option maxRecDepth 20000 in
theorem ggL_law_L_takeBack : GoodIn wsL_law wsL_takeBack := goodIn_ca (goodIn_ca (goodIn_ca (goodIn_r _ [222, 30, 114, 115, 223, 224, 225, 2, 226, 120, 121, 219, 36, 37, 38, 39, 40, 41, 18, 124, 125, 126, 127, 128, 272, 273, 274, 275, 276, 277, 278, 279, 280, 281, 282, 283, 284, 268, 269, 270, 271] (by decide +kernel) (by decide +kernel)) (goodIn_sub (fun _ h => List.mem_append_left _ (List.mem_append_right _ h)) (by decide +kernel))) (goodIn_sub (fun _ h => List.mem_append_left _ (List.mem_append_left _ (List.mem_append_right _ h))) (by decide +kernel))) (goodIn_sub (fun _ h => List.mem_append_right _ h) (by decide +kernel))
set_option maxRecDepth 20000 in
theorem gL_law_L_takeBack : GoodIn wsL_law (va_wsS RL 137 yL_takeBack wsL_takeBack) := goodIn_app (goodIn_of _ (by decide +kernel)) ggL_law_L_takeBack
set_option maxRecDepth 20000 in
theorem ggL_law_L_follows : GoodIn wsL_law wsL_follows := goodIn_ca (goodIn_ca (goodIn_r _ [229, 7, 230, 231, 28, 232, 30, 114, 233, 234, 235, 2, 236, 36, 37, 38, 39, 40, 41, 18, 200, 201, 202, 124, 125, 126, 127, 128, 237, 78, 79, 52, 80, 67, 81, 238, 239, 240, 241, 242, 243, 244, 245, 246, 247, 248, 135, 249, 250, 251, 4, 252, 253, 254, 255, 256, 257, 258, 259, 68, 69, 70, 71, 72, 73, 74, 75, 76, 77, 82, 83, 84, 85, 86, 87, 57, 88, 89, 90, 91, 92, 93, 94, 95, 96, 97, 55, 56, 58, 63, 64, 65, 66, 193, 194, 195, 196, 197, 198, 199, 203, 60, 61, 62, 98, 99, 100, 101, 102, 103, 104, 105, 268, 269, 270, 271, 272, 273, 274, 275, 276, 277, 278, 279, 280, 281, 282, 283, 284] (by decide +kernel) (by decide +kernel)) (goodIn_sub (fun _ h => List.mem_append_left _ (List.mem_append_left _ (List.mem_append_right _ h))) (by decide +kernel))) (goodIn_sub (fun _ h => List.mem_append_right _ h) (by decide +kernel))
set_option maxRecDepth 20000 in
theorem gL_law_L_follows : GoodIn wsL_law (va_wsS RL 139 yL_follows wsL_follows) := goodIn_app (goodIn_of _ (by decide +kernel)) ggL_law_L_follows
set_option maxRecDepth 20000 in
theorem ggL_law_L_back : GoodIn wsL_law wsL_back := goodIn_ca (goodIn_ca (goodIn_ca (goodIn_r _ [262, 30, 114, 115, 4, 7, 10, 263, 264, 265, 2, 266, 120, 121, 267, 21, 35, 36, 37, 38, 39, 40, 41, 18, 124, 125, 126, 127, 128, 49, 50, 51, 52, 53, 54, 55, 56, 57, 58, 59, 60, 61, 62, 63, 64, 65, 66, 67, 68, 69, 70, 71, 72, 73, 74, 75, 76, 77, 78, 79, 80, 81, 82, 83, 84, 85, 86, 87, 88, 89, 90, 91, 92, 93, 94, 95, 96, 97, 268, 269, 270, 271, 272, 273, 274, 275, 276, 277, 278, 279, 280, 281, 282, 283, 284] (by decide +kernel) (by decide +kernel)) (goodIn_sub (fun _ h => List.mem_append_left _ (List.mem_append_right _ h)) (by decide +kernel))) (goodIn_sub (fun _ h => List.mem_append_left _ (List.mem_append_left _ (List.mem_append_right _ h))) (by decide +kernel))) (goodIn_sub (fun _ h => List.mem_append_right _ h) (by decide +kernel))
set_option maxRecDepth 20000 in
theorem gL_law_L_back : GoodIn wsL_law (va_wsS RL 146 yL_back wsL_back) := goodIn_app (goodIn_of _ (by decide +kernel)) ggL_law_L_back
theorem dL_law_0 : decode cL_law 0 = .ok (.new 10, 3) := by decide +kernel
theorem dL_law_3 : decode cL_law 3 = .ok (.dup, 1) := by decide +kernel
theorem dL_law_4 : decode cL_law 4 = .ok (.invokespecial 99, 3) := by decide +kernel
theorem dL_law_7 : decode cL_law 7 = .ok (.astore_n 1, 1) := by decide +kernel
theorem dL_law_8 : decode cL_law 8 = .ok (.bipush 20, 2) := by decide +kernel
theorem dL_law_10 : decode cL_law 10 = .ok (.newarray .int, 2) := by decide +kernel
theorem dL_law_12 : decode cL_law 12 = .ok (.astore_n 2, 1) := by decide +kernel
theorem dL_law_13 : decode cL_law 13 = .ok (.bipush 20, 2) := by decide +kernel
theorem dL_law_15 : decode cL_law 15 = .ok (.newarray .int, 2) := by decide +kernel
theorem dL_law_17 : decode cL_law 17 = .ok (.astore_n 3, 1) := by decide +kernel
theorem dL_law_18 : decode cL_law 18 = .ok (.bipush 20, 2) := by decide +kernel
theorem dL_law_20 : decode cL_law 20 = .ok (.newarray .int, 2) := by decide +kernel
theorem dL_law_22 : decode cL_law 22 = .ok (.astore 4, 2) := by decide +kernel
theorem dL_law_24 : decode cL_law 24 = .ok (.bipush 20, 2) := by decide +kernel
theorem dL_law_26 : decode cL_law 26 = .ok (.newarray .int, 2) := by decide +kernel
theorem dL_law_28 : decode cL_law 28 = .ok (.astore 5, 2) := by decide +kernel
theorem dL_law_30 : decode cL_law 30 = .ok (.iconst 0, 1) := by decide +kernel
theorem dL_law_31 : decode cL_law 31 = .ok (.istore 6, 2) := by decide +kernel
theorem dL_law_33 : decode cL_law 33 = .ok (.aload_n 1, 1) := by decide +kernel
theorem dL_law_34 : decode cL_law 34 = .ok (.invokevirtual 100, 3) := by decide +kernel
theorem dL_law_37 : decode cL_law 37 = .ok (.ifCond .ne 43, 3) := by decide +kernel
theorem dL_law_40 : decode cL_law 40 = .ok (.aload_n 1, 1) := by decide +kernel
theorem dL_law_41 : decode cL_law 41 = .ok (.iconst 0, 1) := by decide +kernel
theorem dL_law_42 : decode cL_law 42 = .ok (.invokestatic 104, 3) := by decide +kernel
theorem dL_law_45 : decode cL_law 45 = .ok (.ldc2_w 53, 3) := by decide +kernel
theorem dL_law_48 : decode cL_law 48 = .ok (.lcmp, 1) := by decide +kernel
theorem dL_law_49 : decode cL_law 49 = .ok (.ifCond .ne 31, 3) := by decide +kernel
theorem dL_law_52 : decode cL_law 52 = .ok (.aload_n 1, 1) := by decide +kernel
theorem dL_law_53 : decode cL_law 53 = .ok (.iconst 0, 1) := by decide +kernel
theorem dL_law_54 : decode cL_law 54 = .ok (.invokestatic 107, 3) := by decide +kernel
theorem dL_law_57 : decode cL_law 57 = .ok (.ldc2_w 53, 3) := by decide +kernel
theorem dL_law_60 : decode cL_law 60 = .ok (.lcmp, 1) := by decide +kernel
theorem dL_law_61 : decode cL_law 61 = .ok (.ifCond .ne 19, 3) := by decide +kernel
theorem dL_law_64 : decode cL_law 64 = .ok (.aload_n 1, 1) := by decide +kernel
theorem dL_law_65 : decode cL_law 65 = .ok (.iconst 0, 1) := by decide +kernel
theorem dL_law_66 : decode cL_law 66 = .ok (.invokestatic 96, 3) := by decide +kernel
theorem dL_law_69 : decode cL_law 69 = .ok (.ldc2_w 53, 3) := by decide +kernel
theorem dL_law_72 : decode cL_law 72 = .ok (.lcmp, 1) := by decide +kernel
theorem dL_law_73 : decode cL_law 73 = .ok (.ifCond .ne 7, 3) := by decide +kernel
theorem dL_law_76 : decode cL_law 76 = .ok (.iconst 1, 1) := by decide +kernel
theorem dL_law_77 : decode cL_law 77 = .ok (.goto 4, 3) := by decide +kernel
theorem dL_law_80 : decode cL_law 80 = .ok (.iconst 0, 1) := by decide +kernel
theorem dL_law_81 : decode cL_law 81 = .ok (.istore 7, 2) := by decide +kernel
theorem dL_law_83 : decode cL_law 83 = .ok (.iconst 0, 1) := by decide +kernel
theorem dL_law_84 : decode cL_law 84 = .ok (.istore 8, 2) := by decide +kernel
theorem dL_law_86 : decode cL_law 86 = .ok (.iload 8, 2) := by decide +kernel
theorem dL_law_88 : decode cL_law 88 = .ok (.bipush 30, 2) := by decide +kernel
theorem dL_law_90 : decode cL_law 90 = .ok (.if_icmp .ge 862, 3) := by decide +kernel
theorem dL_law_93 : decode cL_law 93 = .ok (.iload 7, 2) := by decide +kernel
theorem dL_law_95 : decode cL_law 95 = .ok (.ifCond .eq 857, 3) := by decide +kernel
theorem dL_law_98 : decode cL_law 98 = .ok (.aload_n 0, 1) := by decide +kernel
theorem dL_law_99 : decode cL_law 99 = .ok (.iload 8, 2) := by decide +kernel
theorem dL_law_101 : decode cL_law 101 = .ok (.invokestatic 109, 3) := by decide +kernel
theorem dL_law_104 : decode cL_law 104 = .ok (.istore 9, 2) := by decide +kernel
theorem dL_law_106 : decode cL_law 106 = .ok (.iload 9, 2) := by decide +kernel
theorem dL_law_108 : decode cL_law 108 = .ok (.bipush 8, 2) := by decide +kernel
theorem dL_law_110 : decode cL_law 110 = .ok (.idiv, 1) := by decide +kernel
theorem dL_law_111 : decode cL_law 111 = .ok (.istore 10, 2) := by decide +kernel
theorem dL_law_113 : decode cL_law 113 = .ok (.iload 6, 2) := by decide +kernel
theorem dL_law_115 : decode cL_law 115 = .ok (.ifCond .ne 7, 3) := by decide +kernel
theorem dL_law_118 : decode cL_law 118 = .ok (.iconst 0, 1) := by decide +kernel
theorem dL_law_119 : decode cL_law 119 = .ok (.goto 8, 3) := by decide +kernel
theorem dL_law_122 : decode cL_law 122 = .ok (.iload 10, 2) := by decide +kernel
theorem dL_law_124 : decode cL_law 124 = .ok (.iload 6, 2) := by decide +kernel
theorem dL_law_126 : decode cL_law 126 = .ok (.irem, 1) := by decide +kernel
theorem dL_law_127 : decode cL_law 127 = .ok (.istore 11, 2) := by decide +kernel
theorem dL_law_129 : decode cL_law 129 = .ok (.iload 10, 2) := by decide +kernel
theorem dL_law_131 : decode cL_law 131 = .ok (.iconst 4, 1) := by decide +kernel
theorem dL_law_132 : decode cL_law 132 = .ok (.idiv, 1) := by decide +kernel
theorem dL_law_133 : decode cL_law 133 = .ok (.istore 12, 2) := by decide +kernel
theorem dL_law_135 : decode cL_law 135 = .ok (.aload_n 1, 1) := by decide +kernel
theorem dL_law_136 : decode cL_law 136 = .ok (.invokevirtual 100, 3) := by decide +kernel
theorem dL_law_139 : decode cL_law 139 = .ok (.istore 13, 2) := by decide +kernel
theorem dL_law_141 : decode cL_law 141 = .ok (.iload 9, 2) := by decide +kernel
theorem dL_law_143 : decode cL_law 143 = .ok (.bipush 8, 2) := by decide +kernel
theorem dL_law_145 : decode cL_law 145 = .ok (.irem, 1) := by decide +kernel
theorem dL_law_146 : decode cL_law 146 = .ok (.iconst 2, 1) := by decide +kernel
theorem dL_law_147 : decode cL_law 147 = .ok (.if_icmp .ge 18, 3) := by decide +kernel
theorem dL_law_150 : decode cL_law 150 = .ok (.iload 6, 2) := by decide +kernel
theorem dL_law_152 : decode cL_law 152 = .ok (.bipush 6, 2) := by decide +kernel
theorem dL_law_154 : decode cL_law 154 = .ok (.if_icmp .ge 11, 3) := by decide +kernel
theorem dL_law_157 : decode cL_law 157 = .ok (.iload 13, 2) := by decide +kernel
theorem dL_law_159 : decode cL_law 159 = .ok (.sipush 240, 3) := by decide +kernel
theorem dL_law_162 : decode cL_law 162 = .ok (.if_icmp .lt 8, 3) := by decide +kernel
theorem dL_law_165 : decode cL_law 165 = .ok (.iload 6, 2) := by decide +kernel
theorem dL_law_167 : decode cL_law 167 = .ok (.ifCond .ne 148, 3) := by decide +kernel
theorem dL_law_170 : decode cL_law 170 = .ok (.aload_n 3, 1) := by decide +kernel
theorem dL_law_171 : decode cL_law 171 = .ok (.iload 6, 2) := by decide +kernel
theorem dL_law_173 : decode cL_law 173 = .ok (.iload 13, 2) := by decide +kernel
theorem dL_law_175 : decode cL_law 175 = .ok (.iload 12, 2) := by decide +kernel
theorem dL_law_177 : decode cL_law 177 = .ok (.sipush 240, 3) := by decide +kernel
theorem dL_law_180 : decode cL_law 180 = .ok (.iload 13, 2) := by decide +kernel
theorem dL_law_182 : decode cL_law 182 = .ok (.isub, 1) := by decide +kernel
theorem dL_law_183 : decode cL_law 183 = .ok (.irem, 1) := by decide +kernel
theorem dL_law_184 : decode cL_law 184 = .ok (.iadd, 1) := by decide +kernel
theorem dL_law_185 : decode cL_law 185 = .ok (.iastore, 1) := by decide +kernel
theorem dL_law_186 : decode cL_law 186 = .ok (.aload 4, 2) := by decide +kernel
theorem dL_law_188 : decode cL_law 188 = .ok (.iload 6, 2) := by decide +kernel
theorem dL_law_190 : decode cL_law 190 = .ok (.iload 12, 2) := by decide +kernel
theorem dL_law_192 : decode cL_law 192 = .ok (.sipush 240, 3) := by decide +kernel
theorem dL_law_195 : decode cL_law 195 = .ok (.idiv, 1) := by decide +kernel
theorem dL_law_196 : decode cL_law 196 = .ok (.sipush 201, 3) := by decide +kernel
theorem dL_law_199 : decode cL_law 199 = .ok (.irem, 1) := by decide +kernel
theorem dL_law_200 : decode cL_law 200 = .ok (.iastore, 1) := by decide +kernel
theorem dL_law_201 : decode cL_law 201 = .ok (.aload 5, 2) := by decide +kernel
theorem dL_law_203 : decode cL_law 203 = .ok (.iload 6, 2) := by decide +kernel
theorem dL_law_205 : decode cL_law 205 = .ok (.iload 12, 2) := by decide +kernel
theorem dL_law_207 : decode cL_law 207 = .ok (.bipush 17, 2) := by decide +kernel
theorem dL_law_209 : decode cL_law 209 = .ok (.idiv, 1) := by decide +kernel
theorem dL_law_210 : decode cL_law 210 = .ok (.bipush 101, 2) := by decide +kernel
theorem dL_law_212 : decode cL_law 212 = .ok (.irem, 1) := by decide +kernel
theorem dL_law_213 : decode cL_law 213 = .ok (.iastore, 1) := by decide +kernel
theorem dL_law_214 : decode cL_law 214 = .ok (.aload_n 1, 1) := by decide +kernel
theorem dL_law_215 : decode cL_law 215 = .ok (.aload_n 3, 1) := by decide +kernel
theorem dL_law_216 : decode cL_law 216 = .ok (.iload 6, 2) := by decide +kernel
theorem dL_law_218 : decode cL_law 218 = .ok (.iaload, 1) := by decide +kernel
theorem dL_law_219 : decode cL_law 219 = .ok (.iconst 1, 1) := by decide +kernel
theorem dL_law_220 : decode cL_law 220 = .ok (.iload 12, 2) := by decide +kernel
theorem dL_law_222 : decode cL_law 222 = .ok (.ldc 113, 2) := by decide +kernel
theorem dL_law_224 : decode cL_law 224 = .ok (.irem, 1) := by decide +kernel
theorem dL_law_225 : decode cL_law 225 = .ok (.iadd, 1) := by decide +kernel
theorem dL_law_226 : decode cL_law 226 = .ok (.iload 12, 2) := by decide +kernel
theorem dL_law_228 : decode cL_law 228 = .ok (.iconst 5, 1) := by decide +kernel
theorem dL_law_229 : decode cL_law 229 = .ok (.idiv, 1) := by decide +kernel
theorem dL_law_230 : decode cL_law 230 = .ok (.bipush 40, 2) := by decide +kernel
theorem dL_law_232 : decode cL_law 232 = .ok (.irem, 1) := by decide +kernel
theorem dL_law_233 : decode cL_law 233 = .ok (.invokestatic 114, 3) := by decide +kernel
theorem dL_law_236 : decode cL_law 236 = .ok (.iload 6, 2) := by decide +kernel
theorem dL_law_238 : decode cL_law 238 = .ok (.if_icmp .ne 68, 3) := by decide +kernel
theorem dL_law_241 : decode cL_law 241 = .ok (.aload_n 1, 1) := by decide +kernel
theorem dL_law_242 : decode cL_law 242 = .ok (.iload 6, 2) := by decide +kernel
theorem dL_law_244 : decode cL_law 244 = .ok (.aload 4, 2) := by decide +kernel
theorem dL_law_246 : decode cL_law 246 = .ok (.iload 6, 2) := by decide +kernel
theorem dL_law_248 : decode cL_law 248 = .ok (.iaload, 1) := by decide +kernel
theorem dL_law_249 : decode cL_law 249 = .ok (.invokestatic 117, 3) := by decide +kernel
theorem dL_law_252 : decode cL_law 252 = .ok (.ifCond .ne 54, 3) := by decide +kernel
theorem dL_law_255 : decode cL_law 255 = .ok (.aload_n 1, 1) := by decide +kernel
theorem dL_law_256 : decode cL_law 256 = .ok (.iload 6, 2) := by decide +kernel
theorem dL_law_258 : decode cL_law 258 = .ok (.aload 5, 2) := by decide +kernel
theorem dL_law_260 : decode cL_law 260 = .ok (.iload 6, 2) := by decide +kernel
theorem dL_law_262 : decode cL_law 262 = .ok (.iaload, 1) := by decide +kernel
theorem dL_law_263 : decode cL_law 263 = .ok (.iload 12, 2) := by decide +kernel
theorem dL_law_265 : decode cL_law 265 = .ok (.iconst 2, 1) := by decide +kernel
theorem dL_law_266 : decode cL_law 266 = .ok (.irem, 1) := by decide +kernel
theorem dL_law_267 : decode cL_law 267 = .ok (.ifCond .ne 7, 3) := by decide +kernel
theorem dL_law_270 : decode cL_law 270 = .ok (.iconst 1, 1) := by decide +kernel
theorem dL_law_271 : decode cL_law 271 = .ok (.goto 4, 3) := by decide +kernel
theorem dL_law_274 : decode cL_law 274 = .ok (.iconst 0, 1) := by decide +kernel
theorem dL_law_275 : decode cL_law 275 = .ok (.invokestatic 120, 3) := by decide +kernel
theorem dL_law_278 : decode cL_law 278 = .ok (.ifCond .ne 28, 3) := by decide +kernel
theorem dL_law_281 : decode cL_law 281 = .ok (.aload_n 1, 1) := by decide +kernel
theorem dL_law_282 : decode cL_law 282 = .ok (.iload 6, 2) := by decide +kernel
theorem dL_law_284 : decode cL_law 284 = .ok (.iload 12, 2) := by decide +kernel
theorem dL_law_286 : decode cL_law 286 = .ok (.ldc 124, 2) := by decide +kernel
theorem dL_law_288 : decode cL_law 288 = .ok (.irem, 1) := by decide +kernel
theorem dL_law_289 : decode cL_law 289 = .ok (.iload 12, 2) := by decide +kernel
theorem dL_law_291 : decode cL_law 291 = .ok (.iconst 3, 1) := by decide +kernel
theorem dL_law_292 : decode cL_law 292 = .ok (.idiv, 1) := by decide +kernel
theorem dL_law_293 : decode cL_law 293 = .ok (.bipush 101, 2) := by decide +kernel
theorem dL_law_295 : decode cL_law 295 = .ok (.irem, 1) := by decide +kernel
theorem dL_law_296 : decode cL_law 296 = .ok (.invokestatic 125, 3) := by decide +kernel
theorem dL_law_299 : decode cL_law 299 = .ok (.ifCond .ne 7, 3) := by decide +kernel
theorem dL_law_302 : decode cL_law 302 = .ok (.iconst 1, 1) := by decide +kernel
theorem dL_law_303 : decode cL_law 303 = .ok (.goto 4, 3) := by decide +kernel
theorem dL_law_306 : decode cL_law 306 = .ok (.iconst 0, 1) := by decide +kernel
theorem dL_law_307 : decode cL_law 307 = .ok (.istore 7, 2) := by decide +kernel
theorem dL_law_309 : decode cL_law 309 = .ok (.iinc 6 1, 3) := by decide +kernel
theorem dL_law_312 : decode cL_law 312 = .ok (.goto 425, 3) := by decide +kernel
theorem dL_law_315 : decode cL_law 315 = .ok (.iload 9, 2) := by decide +kernel
theorem dL_law_317 : decode cL_law 317 = .ok (.bipush 8, 2) := by decide +kernel
theorem dL_law_319 : decode cL_law 319 = .ok (.irem, 1) := by decide +kernel
theorem dL_law_320 : decode cL_law 320 = .ok (.iconst 5, 1) := by decide +kernel
theorem dL_law_321 : decode cL_law 321 = .ok (.if_icmp .ge 196, 3) := by decide +kernel
theorem dL_law_324 : decode cL_law 324 = .ok (.iconst 0, 1) := by decide +kernel
theorem dL_law_325 : decode cL_law 325 = .ok (.istore 14, 2) := by decide +kernel
theorem dL_law_327 : decode cL_law 327 = .ok (.iload 14, 2) := by decide +kernel
theorem dL_law_329 : decode cL_law 329 = .ok (.iconst 1, 1) := by decide +kernel
theorem dL_law_330 : decode cL_law 330 = .ok (.iload 12, 2) := by decide +kernel
theorem dL_law_332 : decode cL_law 332 = .ok (.bipush 20, 2) := by decide +kernel
theorem dL_law_334 : decode cL_law 334 = .ok (.irem, 1) := by decide +kernel
theorem dL_law_335 : decode cL_law 335 = .ok (.iadd, 1) := by decide +kernel
theorem dL_law_336 : decode cL_law 336 = .ok (.if_icmp .ge 178, 3) := by decide +kernel
theorem dL_law_339 : decode cL_law 339 = .ok (.aload_n 1, 1) := by decide +kernel
theorem dL_law_340 : decode cL_law 340 = .ok (.invokevirtual 100, 3) := by decide +kernel
theorem dL_law_343 : decode cL_law 343 = .ok (.sipush 240, 3) := by decide +kernel
theorem dL_law_346 : decode cL_law 346 = .ok (.if_icmp .ge 168, 3) := by decide +kernel
theorem dL_law_349 : decode cL_law 349 = .ok (.iload 7, 2) := by decide +kernel
theorem dL_law_351 : decode cL_law 351 = .ok (.ifCond .eq 163, 3) := by decide +kernel
theorem dL_law_354 : decode cL_law 354 = .ok (.aload_n 1, 1) := by decide +kernel
theorem dL_law_355 : decode cL_law 355 = .ok (.invokevirtual 100, 3) := by decide +kernel
theorem dL_law_358 : decode cL_law 358 = .ok (.istore 15, 2) := by decide +kernel
theorem dL_law_360 : decode cL_law 360 = .ok (.aload_n 1, 1) := by decide +kernel
theorem dL_law_361 : decode cL_law 361 = .ok (.invokestatic 127, 3) := by decide +kernel
theorem dL_law_364 : decode cL_law 364 = .ok (.lstore 16, 2) := by decide +kernel
theorem dL_law_366 : decode cL_law 366 = .ok (.iconst 0, 1) := by decide +kernel
theorem dL_law_367 : decode cL_law 367 = .ok (.istore 18, 2) := by decide +kernel
theorem dL_law_369 : decode cL_law 369 = .ok (.iload 18, 2) := by decide +kernel
theorem dL_law_371 : decode cL_law 371 = .ok (.iload 6, 2) := by decide +kernel
theorem dL_law_373 : decode cL_law 373 = .ok (.if_icmp .ge 105, 3) := by decide +kernel
theorem dL_law_376 : decode cL_law 376 = .ok (.iload 7, 2) := by decide +kernel
theorem dL_law_378 : decode cL_law 378 = .ok (.ifCond .eq 100, 3) := by decide +kernel
theorem dL_law_381 : decode cL_law 381 = .ok (.aload_n 1, 1) := by decide +kernel
theorem dL_law_382 : decode cL_law 382 = .ok (.iload 18, 2) := by decide +kernel
theorem dL_law_384 : decode cL_law 384 = .ok (.iload 15, 2) := by decide +kernel
theorem dL_law_386 : decode cL_law 386 = .ok (.invokestatic 130, 3) := by decide +kernel
theorem dL_law_389 : decode cL_law 389 = .ok (.lstore 19, 2) := by decide +kernel
theorem dL_law_391 : decode cL_law 391 = .ok (.lload 16, 2) := by decide +kernel
theorem dL_law_393 : decode cL_law 393 = .ok (.lload 19, 2) := by decide +kernel
theorem dL_law_395 : decode cL_law 395 = .ok (.lsub, 1) := by decide +kernel
theorem dL_law_396 : decode cL_law 396 = .ok (.lstore 16, 2) := by decide +kernel
theorem dL_law_398 : decode cL_law 398 = .ok (.lload 19, 2) := by decide +kernel
theorem dL_law_400 : decode cL_law 400 = .ok (.lconst 0, 1) := by decide +kernel
theorem dL_law_401 : decode cL_law 401 = .ok (.lcmp, 1) := by decide +kernel
theorem dL_law_402 : decode cL_law 402 = .ok (.ifCond .lt 67, 3) := by decide +kernel
theorem dL_law_405 : decode cL_law 405 = .ok (.aload_n 1, 1) := by decide +kernel
theorem dL_law_406 : decode cL_law 406 = .ok (.iload 18, 2) := by decide +kernel
theorem dL_law_408 : decode cL_law 408 = .ok (.invokestatic 104, 3) := by decide +kernel
theorem dL_law_411 : decode cL_law 411 = .ok (.aload_n 1, 1) := by decide +kernel
theorem dL_law_412 : decode cL_law 412 = .ok (.iload 18, 2) := by decide +kernel
theorem dL_law_414 : decode cL_law 414 = .ok (.iload 15, 2) := by decide +kernel
theorem dL_law_416 : decode cL_law 416 = .ok (.invokestatic 93, 3) := by decide +kernel
theorem dL_law_419 : decode cL_law 419 = .ok (.lcmp, 1) := by decide +kernel
theorem dL_law_420 : decode cL_law 420 = .ok (.ifCond .lt 49, 3) := by decide +kernel
theorem dL_law_423 : decode cL_law 423 = .ok (.lload 19, 2) := by decide +kernel
theorem dL_law_425 : decode cL_law 425 = .ok (.lconst 0, 1) := by decide +kernel
theorem dL_law_426 : decode cL_law 426 = .ok (.lcmp, 1) := by decide +kernel
theorem dL_law_427 : decode cL_law 427 = .ok (.ifCond .eq 21, 3) := by decide +kernel
theorem dL_law_430 : decode cL_law 430 = .ok (.aload_n 1, 1) := by decide +kernel
theorem dL_law_431 : decode cL_law 431 = .ok (.iload 18, 2) := by decide +kernel
theorem dL_law_433 : decode cL_law 433 = .ok (.invokestatic 104, 3) := by decide +kernel
theorem dL_law_436 : decode cL_law 436 = .ok (.aload_n 1, 1) := by decide +kernel
theorem dL_law_437 : decode cL_law 437 = .ok (.iload 18, 2) := by decide +kernel
theorem dL_law_439 : decode cL_law 439 = .ok (.iload 15, 2) := by decide +kernel
theorem dL_law_441 : decode cL_law 441 = .ok (.invokestatic 93, 3) := by decide +kernel
theorem dL_law_444 : decode cL_law 444 = .ok (.lcmp, 1) := by decide +kernel
theorem dL_law_445 : decode cL_law 445 = .ok (.ifCond .ne 24, 3) := by decide +kernel
theorem dL_law_448 : decode cL_law 448 = .ok (.aload_n 1, 1) := by decide +kernel
theorem dL_law_449 : decode cL_law 449 = .ok (.iload 18, 2) := by decide +kernel
theorem dL_law_451 : decode cL_law 451 = .ok (.iload 15, 2) := by decide +kernel
theorem dL_law_453 : decode cL_law 453 = .ok (.iconst 1, 1) := by decide +kernel
theorem dL_law_454 : decode cL_law 454 = .ok (.iadd, 1) := by decide +kernel
theorem dL_law_455 : decode cL_law 455 = .ok (.invokestatic 130, 3) := by decide +kernel
theorem dL_law_458 : decode cL_law 458 = .ok (.ldc2_w 55, 3) := by decide +kernel
theorem dL_law_461 : decode cL_law 461 = .ok (.lcmp, 1) := by decide +kernel
theorem dL_law_462 : decode cL_law 462 = .ok (.ifCond .ne 7, 3) := by decide +kernel
theorem dL_law_465 : decode cL_law 465 = .ok (.iconst 1, 1) := by decide +kernel
theorem dL_law_466 : decode cL_law 466 = .ok (.goto 4, 3) := by decide +kernel
theorem dL_law_469 : decode cL_law 469 = .ok (.iconst 0, 1) := by decide +kernel
theorem dL_law_470 : decode cL_law 470 = .ok (.istore 7, 2) := by decide +kernel
theorem dL_law_472 : decode cL_law 472 = .ok (.iinc 18 1, 3) := by decide +kernel
theorem dL_law_475 : decode cL_law 475 = .ok (.goto (-106), 3) := by decide +kernel
theorem dL_law_478 : decode cL_law 478 = .ok (.iload 7, 2) := by decide +kernel
theorem dL_law_480 : decode cL_law 480 = .ok (.ifCond .eq 25, 3) := by decide +kernel
theorem dL_law_483 : decode cL_law 483 = .ok (.lload 16, 2) := by decide +kernel
theorem dL_law_485 : decode cL_law 485 = .ok (.lconst 0, 1) := by decide +kernel
theorem dL_law_486 : decode cL_law 486 = .ok (.lcmp, 1) := by decide +kernel
theorem dL_law_487 : decode cL_law 487 = .ok (.ifCond .ne 18, 3) := by decide +kernel
theorem dL_law_490 : decode cL_law 490 = .ok (.aload_n 1, 1) := by decide +kernel
theorem dL_law_491 : decode cL_law 491 = .ok (.invokevirtual 100, 3) := by decide +kernel
theorem dL_law_494 : decode cL_law 494 = .ok (.iload 15, 2) := by decide +kernel
theorem dL_law_496 : decode cL_law 496 = .ok (.iconst 1, 1) := by decide +kernel
theorem dL_law_497 : decode cL_law 497 = .ok (.iadd, 1) := by decide +kernel
theorem dL_law_498 : decode cL_law 498 = .ok (.if_icmp .ne 7, 3) := by decide +kernel
theorem dL_law_501 : decode cL_law 501 = .ok (.iconst 1, 1) := by decide +kernel
theorem dL_law_502 : decode cL_law 502 = .ok (.goto 4, 3) := by decide +kernel
theorem dL_law_505 : decode cL_law 505 = .ok (.iconst 0, 1) := by decide +kernel
theorem dL_law_506 : decode cL_law 506 = .ok (.istore 7, 2) := by decide +kernel
theorem dL_law_508 : decode cL_law 508 = .ok (.iinc 14 1, 3) := by decide +kernel
theorem dL_law_511 : decode cL_law 511 = .ok (.goto (-184), 3) := by decide +kernel
theorem dL_law_514 : decode cL_law 514 = .ok (.goto 223, 3) := by decide +kernel
theorem dL_law_517 : decode cL_law 517 = .ok (.iload 9, 2) := by decide +kernel
theorem dL_law_519 : decode cL_law 519 = .ok (.bipush 8, 2) := by decide +kernel
theorem dL_law_521 : decode cL_law 521 = .ok (.irem, 1) := by decide +kernel
theorem dL_law_522 : decode cL_law 522 = .ok (.iconst 5, 1) := by decide +kernel
theorem dL_law_523 : decode cL_law 523 = .ok (.if_icmp .ne 55, 3) := by decide +kernel
theorem dL_law_526 : decode cL_law 526 = .ok (.iload 12, 2) := by decide +kernel
theorem dL_law_528 : decode cL_law 528 = .ok (.bipush 20, 2) := by decide +kernel
theorem dL_law_530 : decode cL_law 530 = .ok (.irem, 1) := by decide +kernel
theorem dL_law_531 : decode cL_law 531 = .ok (.istore 14, 2) := by decide +kernel
theorem dL_law_533 : decode cL_law 533 = .ok (.iload 12, 2) := by decide +kernel
theorem dL_law_535 : decode cL_law 535 = .ok (.bipush 20, 2) := by decide +kernel
theorem dL_law_537 : decode cL_law 537 = .ok (.idiv, 1) := by decide +kernel
theorem dL_law_538 : decode cL_law 538 = .ok (.sipush 401, 3) := by decide +kernel
theorem dL_law_541 : decode cL_law 541 = .ok (.irem, 1) := by decide +kernel
theorem dL_law_542 : decode cL_law 542 = .ok (.bipush 100, 2) := by decide +kernel
theorem dL_law_544 : decode cL_law 544 = .ok (.isub, 1) := by decide +kernel
theorem dL_law_545 : decode cL_law 545 = .ok (.istore 15, 2) := by decide +kernel
theorem dL_law_547 : decode cL_law 547 = .ok (.aload_n 1, 1) := by decide +kernel
theorem dL_law_548 : decode cL_law 548 = .ok (.iload 14, 2) := by decide +kernel
theorem dL_law_550 : decode cL_law 550 = .ok (.iload 15, 2) := by decide +kernel
theorem dL_law_552 : decode cL_law 552 = .ok (.invokestatic 132, 3) := by decide +kernel
theorem dL_law_555 : decode cL_law 555 = .ok (.aload_n 2, 1) := by decide +kernel
theorem dL_law_556 : decode cL_law 556 = .ok (.iload 14, 2) := by decide +kernel
theorem dL_law_558 : decode cL_law 558 = .ok (.iaload, 1) := by decide +kernel
theorem dL_law_559 : decode cL_law 559 = .ok (.if_icmp .ne 7, 3) := by decide +kernel
theorem dL_law_562 : decode cL_law 562 = .ok (.iconst 1, 1) := by decide +kernel
theorem dL_law_563 : decode cL_law 563 = .ok (.goto 4, 3) := by decide +kernel
theorem dL_law_566 : decode cL_law 566 = .ok (.iconst 0, 1) := by decide +kernel
theorem dL_law_567 : decode cL_law 567 = .ok (.istore 7, 2) := by decide +kernel
theorem dL_law_569 : decode cL_law 569 = .ok (.aload_n 2, 1) := by decide +kernel
theorem dL_law_570 : decode cL_law 570 = .ok (.iload 14, 2) := by decide +kernel
theorem dL_law_572 : decode cL_law 572 = .ok (.iload 15, 2) := by decide +kernel
theorem dL_law_574 : decode cL_law 574 = .ok (.iastore, 1) := by decide +kernel
theorem dL_law_575 : decode cL_law 575 = .ok (.goto 162, 3) := by decide +kernel
theorem dL_law_578 : decode cL_law 578 = .ok (.iload 12, 2) := by decide +kernel
theorem dL_law_580 : decode cL_law 580 = .ok (.iconst 2, 1) := by decide +kernel
theorem dL_law_581 : decode cL_law 581 = .ok (.irem, 1) := by decide +kernel
theorem dL_law_582 : decode cL_law 582 = .ok (.istore 14, 2) := by decide +kernel
theorem dL_law_584 : decode cL_law 584 = .ok (.aload_n 1, 1) := by decide +kernel
theorem dL_law_585 : decode cL_law 585 = .ok (.iload 11, 2) := by decide +kernel
theorem dL_law_587 : decode cL_law 587 = .ok (.sipush 239, 3) := by decide +kernel
theorem dL_law_590 : decode cL_law 590 = .ok (.invokestatic 93, 3) := by decide +kernel
theorem dL_law_593 : decode cL_law 593 = .ok (.lstore 15, 2) := by decide +kernel
theorem dL_law_595 : decode cL_law 595 = .ok (.iload 12, 2) := by decide +kernel
theorem dL_law_597 : decode cL_law 597 = .ok (.iconst 2, 1) := by decide +kernel
theorem dL_law_598 : decode cL_law 598 = .ok (.idiv, 1) := by decide +kernel
theorem dL_law_599 : decode cL_law 599 = .ok (.iload 13, 2) := by decide +kernel
theorem dL_law_601 : decode cL_law 601 = .ok (.sipush 240, 3) := by decide +kernel
theorem dL_law_604 : decode cL_law 604 = .ok (.if_icmp .ge 10, 3) := by decide +kernel
theorem dL_law_607 : decode cL_law 607 = .ok (.iload 13, 2) := by decide +kernel
theorem dL_law_609 : decode cL_law 609 = .ok (.iconst 1, 1) := by decide +kernel
theorem dL_law_610 : decode cL_law 610 = .ok (.iadd, 1) := by decide +kernel
theorem dL_law_611 : decode cL_law 611 = .ok (.goto 6, 3) := by decide +kernel
theorem dL_law_614 : decode cL_law 614 = .ok (.sipush 240, 3) := by decide +kernel
theorem dL_law_617 : decode cL_law 617 = .ok (.irem, 1) := by decide +kernel
theorem dL_law_618 : decode cL_law 618 = .ok (.istore 17, 2) := by decide +kernel
theorem dL_law_620 : decode cL_law 620 = .ok (.aload_n 1, 1) := by decide +kernel
theorem dL_law_621 : decode cL_law 621 = .ok (.iload 11, 2) := by decide +kernel
theorem dL_law_623 : decode cL_law 623 = .ok (.iload 14, 2) := by decide +kernel
theorem dL_law_625 : decode cL_law 625 = .ok (.iload 17, 2) := by decide +kernel
theorem dL_law_627 : decode cL_law 627 = .ok (.invokestatic 135, 3) := by decide +kernel
theorem dL_law_630 : decode cL_law 630 = .ok (.istore 18, 2) := by decide +kernel
theorem dL_law_632 : decode cL_law 632 = .ok (.iload 18, 2) := by decide +kernel
theorem dL_law_634 : decode cL_law 634 = .ok (.ifCond .eq 10, 3) := by decide +kernel
theorem dL_law_637 : decode cL_law 637 = .ok (.iload 18, 2) := by decide +kernel
theorem dL_law_639 : decode cL_law 639 = .ok (.bipush (-103), 2) := by decide +kernel
theorem dL_law_641 : decode cL_law 641 = .ok (.if_icmp .ne 7, 3) := by decide +kernel
theorem dL_law_644 : decode cL_law 644 = .ok (.iconst 1, 1) := by decide +kernel
theorem dL_law_645 : decode cL_law 645 = .ok (.goto 4, 3) := by decide +kernel
theorem dL_law_648 : decode cL_law 648 = .ok (.iconst 0, 1) := by decide +kernel
theorem dL_law_649 : decode cL_law 649 = .ok (.istore 7, 2) := by decide +kernel
theorem dL_law_651 : decode cL_law 651 = .ok (.iload 18, 2) := by decide +kernel
theorem dL_law_653 : decode cL_law 653 = .ok (.bipush (-103), 2) := by decide +kernel
theorem dL_law_655 : decode cL_law 655 = .ok (.if_icmp .ne 37, 3) := by decide +kernel
theorem dL_law_658 : decode cL_law 658 = .ok (.aload_n 1, 1) := by decide +kernel
theorem dL_law_659 : decode cL_law 659 = .ok (.iload 11, 2) := by decide +kernel
theorem dL_law_661 : decode cL_law 661 = .ok (.iload 14, 2) := by decide +kernel
theorem dL_law_663 : decode cL_law 663 = .ok (.invokestatic 137, 3) := by decide +kernel
theorem dL_law_666 : decode cL_law 666 = .ok (.ifCond .lt 20, 3) := by decide +kernel
theorem dL_law_669 : decode cL_law 669 = .ok (.aload_n 1, 1) := by decide +kernel
theorem dL_law_670 : decode cL_law 670 = .ok (.iload 11, 2) := by decide +kernel
theorem dL_law_672 : decode cL_law 672 = .ok (.iload 14, 2) := by decide +kernel
theorem dL_law_674 : decode cL_law 674 = .ok (.invokestatic 137, 3) := by decide +kernel
theorem dL_law_677 : decode cL_law 677 = .ok (.bipush (-103), 2) := by decide +kernel
theorem dL_law_679 : decode cL_law 679 = .ok (.if_icmp .ne 7, 3) := by decide +kernel
theorem dL_law_682 : decode cL_law 682 = .ok (.iconst 1, 1) := by decide +kernel
theorem dL_law_683 : decode cL_law 683 = .ok (.goto 4, 3) := by decide +kernel
theorem dL_law_686 : decode cL_law 686 = .ok (.iconst 0, 1) := by decide +kernel
theorem dL_law_687 : decode cL_law 687 = .ok (.istore 7, 2) := by decide +kernel
theorem dL_law_689 : decode cL_law 689 = .ok (.goto 48, 3) := by decide +kernel
theorem dL_law_692 : decode cL_law 692 = .ok (.iload 9, 2) := by decide +kernel
theorem dL_law_694 : decode cL_law 694 = .ok (.bipush 8, 2) := by decide +kernel
theorem dL_law_696 : decode cL_law 696 = .ok (.irem, 1) := by decide +kernel
theorem dL_law_697 : decode cL_law 697 = .ok (.bipush 6, 2) := by decide +kernel
theorem dL_law_699 : decode cL_law 699 = .ok (.if_icmp .ne 38, 3) := by decide +kernel
theorem dL_law_702 : decode cL_law 702 = .ok (.aload_n 1, 1) := by decide +kernel
theorem dL_law_703 : decode cL_law 703 = .ok (.iload 11, 2) := by decide +kernel
theorem dL_law_705 : decode cL_law 705 = .ok (.iload 14, 2) := by decide +kernel
theorem dL_law_707 : decode cL_law 707 = .ok (.invokestatic 137, 3) := by decide +kernel
theorem dL_law_710 : decode cL_law 710 = .ok (.iload 17, 2) := by decide +kernel
theorem dL_law_712 : decode cL_law 712 = .ok (.if_icmp .ne 22, 3) := by decide +kernel
theorem dL_law_715 : decode cL_law 715 = .ok (.aload_n 1, 1) := by decide +kernel
theorem dL_law_716 : decode cL_law 716 = .ok (.iload 11, 2) := by decide +kernel
theorem dL_law_718 : decode cL_law 718 = .ok (.sipush 239, 3) := by decide +kernel
theorem dL_law_721 : decode cL_law 721 = .ok (.invokestatic 93, 3) := by decide +kernel
theorem dL_law_724 : decode cL_law 724 = .ok (.lload 15, 2) := by decide +kernel
theorem dL_law_726 : decode cL_law 726 = .ok (.lcmp, 1) := by decide +kernel
theorem dL_law_727 : decode cL_law 727 = .ok (.ifCond .ne 7, 3) := by decide +kernel
theorem dL_law_730 : decode cL_law 730 = .ok (.iconst 1, 1) := by decide +kernel
theorem dL_law_731 : decode cL_law 731 = .ok (.goto 4, 3) := by decide +kernel
theorem dL_law_734 : decode cL_law 734 = .ok (.iconst 0, 1) := by decide +kernel
theorem dL_law_735 : decode cL_law 735 = .ok (.istore 7, 2) := by decide +kernel
theorem dL_law_737 : decode cL_law 737 = .ok (.iconst 0, 1) := by decide +kernel
theorem dL_law_738 : decode cL_law 738 = .ok (.istore 14, 2) := by decide +kernel
theorem dL_law_740 : decode cL_law 740 = .ok (.iload 14, 2) := by decide +kernel
theorem dL_law_742 : decode cL_law 742 = .ok (.iload 6, 2) := by decide +kernel
theorem dL_law_744 : decode cL_law 744 = .ok (.if_icmp .ge 76, 3) := by decide +kernel
theorem dL_law_747 : decode cL_law 747 = .ok (.iload 7, 2) := by decide +kernel
theorem dL_law_749 : decode cL_law 749 = .ok (.ifCond .eq 71, 3) := by decide +kernel
theorem dL_law_752 : decode cL_law 752 = .ok (.aload_n 1, 1) := by decide +kernel
theorem dL_law_753 : decode cL_law 753 = .ok (.invokevirtual 100, 3) := by decide +kernel
theorem dL_law_756 : decode cL_law 756 = .ok (.ifCond .ne 7, 3) := by decide +kernel
theorem dL_law_759 : decode cL_law 759 = .ok (.lconst 0, 1) := by decide +kernel
theorem dL_law_760 : decode cL_law 760 = .ok (.goto 22, 3) := by decide +kernel
theorem dL_law_763 : decode cL_law 763 = .ok (.aload_n 1, 1) := by decide +kernel
theorem dL_law_764 : decode cL_law 764 = .ok (.iload 14, 2) := by decide +kernel
theorem dL_law_766 : decode cL_law 766 = .ok (.invokestatic 104, 3) := by decide +kernel
theorem dL_law_769 : decode cL_law 769 = .ok (.aload_n 1, 1) := by decide +kernel
theorem dL_law_770 : decode cL_law 770 = .ok (.iload 14, 2) := by decide +kernel
theorem dL_law_772 : decode cL_law 772 = .ok (.aload_n 1, 1) := by decide +kernel
theorem dL_law_773 : decode cL_law 773 = .ok (.invokevirtual 100, 3) := by decide +kernel
theorem dL_law_776 : decode cL_law 776 = .ok (.iconst 1, 1) := by decide +kernel
theorem dL_law_777 : decode cL_law 777 = .ok (.isub, 1) := by decide +kernel
theorem dL_law_778 : decode cL_law 778 = .ok (.invokestatic 93, 3) := by decide +kernel
theorem dL_law_781 : decode cL_law 781 = .ok (.lsub, 1) := by decide +kernel
theorem dL_law_782 : decode cL_law 782 = .ok (.lstore 15, 2) := by decide +kernel
theorem dL_law_784 : decode cL_law 784 = .ok (.aload_n 1, 1) := by decide +kernel
theorem dL_law_785 : decode cL_law 785 = .ok (.iload 14, 2) := by decide +kernel
theorem dL_law_787 : decode cL_law 787 = .ok (.invokestatic 107, 3) := by decide +kernel
theorem dL_law_790 : decode cL_law 790 = .ok (.lload 15, 2) := by decide +kernel
theorem dL_law_792 : decode cL_law 792 = .ok (.lconst 0, 1) := by decide +kernel
theorem dL_law_793 : decode cL_law 793 = .ok (.lcmp, 1) := by decide +kernel
theorem dL_law_794 : decode cL_law 794 = .ok (.ifCond .le 8, 3) := by decide +kernel
theorem dL_law_797 : decode cL_law 797 = .ok (.lload 15, 2) := by decide +kernel
theorem dL_law_799 : decode cL_law 799 = .ok (.goto 4, 3) := by decide +kernel
theorem dL_law_802 : decode cL_law 802 = .ok (.lconst 0, 1) := by decide +kernel
theorem dL_law_803 : decode cL_law 803 = .ok (.lcmp, 1) := by decide +kernel
theorem dL_law_804 : decode cL_law 804 = .ok (.ifCond .ne 7, 3) := by decide +kernel
theorem dL_law_807 : decode cL_law 807 = .ok (.iconst 1, 1) := by decide +kernel
theorem dL_law_808 : decode cL_law 808 = .ok (.goto 4, 3) := by decide +kernel
theorem dL_law_811 : decode cL_law 811 = .ok (.iconst 0, 1) := by decide +kernel
theorem dL_law_812 : decode cL_law 812 = .ok (.istore 7, 2) := by decide +kernel
theorem dL_law_814 : decode cL_law 814 = .ok (.iinc 14 1, 3) := by decide +kernel
theorem dL_law_817 : decode cL_law 817 = .ok (.goto (-77), 3) := by decide +kernel
theorem dL_law_820 : decode cL_law 820 = .ok (.iload 7, 2) := by decide +kernel
theorem dL_law_822 : decode cL_law 822 = .ok (.ifCond .eq 124, 3) := by decide +kernel
theorem dL_law_825 : decode cL_law 825 = .ok (.iload 6, 2) := by decide +kernel
theorem dL_law_827 : decode cL_law 827 = .ok (.ifCond .le 119, 3) := by decide +kernel
theorem dL_law_830 : decode cL_law 830 = .ok (.iload 8, 2) := by decide +kernel
theorem dL_law_832 : decode cL_law 832 = .ok (.iconst 3, 1) := by decide +kernel
theorem dL_law_833 : decode cL_law 833 = .ok (.irem, 1) := by decide +kernel
theorem dL_law_834 : decode cL_law 834 = .ok (.ifCond .ne 112, 3) := by decide +kernel
theorem dL_law_837 : decode cL_law 837 = .ok (.aload_n 1, 1) := by decide +kernel
theorem dL_law_838 : decode cL_law 838 = .ok (.iload 11, 2) := by decide +kernel
theorem dL_law_840 : decode cL_law 840 = .ok (.aload_n 3, 1) := by decide +kernel
theorem dL_law_841 : decode cL_law 841 = .ok (.iload 11, 2) := by decide +kernel
theorem dL_law_843 : decode cL_law 843 = .ok (.iaload, 1) := by decide +kernel
theorem dL_law_844 : decode cL_law 844 = .ok (.aload 4, 2) := by decide +kernel
theorem dL_law_846 : decode cL_law 846 = .ok (.iload 11, 2) := by decide +kernel
theorem dL_law_848 : decode cL_law 848 = .ok (.iaload, 1) := by decide +kernel
theorem dL_law_849 : decode cL_law 849 = .ok (.aload 5, 2) := by decide +kernel
theorem dL_law_851 : decode cL_law 851 = .ok (.iload 11, 2) := by decide +kernel
theorem dL_law_853 : decode cL_law 853 = .ok (.iaload, 1) := by decide +kernel
theorem dL_law_854 : decode cL_law 854 = .ok (.aload_n 2, 1) := by decide +kernel
theorem dL_law_855 : decode cL_law 855 = .ok (.invokestatic 139, 3) := by decide +kernel
theorem dL_law_858 : decode cL_law 858 = .ok (.istore 7, 2) := by decide +kernel
theorem dL_law_860 : decode cL_law 860 = .ok (.aload_n 1, 1) := by decide +kernel
theorem dL_law_861 : decode cL_law 861 = .ok (.iload 11, 2) := by decide +kernel
theorem dL_law_863 : decode cL_law 863 = .ok (.invokestatic 107, 3) := by decide +kernel
theorem dL_law_866 : decode cL_law 866 = .ok (.lstore 14, 2) := by decide +kernel
theorem dL_law_868 : decode cL_law 868 = .ok (.iload 7, 2) := by decide +kernel
theorem dL_law_870 : decode cL_law 870 = .ok (.ifCond .eq 73, 3) := by decide +kernel
theorem dL_law_873 : decode cL_law 873 = .ok (.lload 14, 2) := by decide +kernel
theorem dL_law_875 : decode cL_law 875 = .ok (.lconst 0, 1) := by decide +kernel
theorem dL_law_876 : decode cL_law 876 = .ok (.lcmp, 1) := by decide +kernel
theorem dL_law_877 : decode cL_law 877 = .ok (.ifCond .eq 12, 3) := by decide +kernel
theorem dL_law_880 : decode cL_law 880 = .ok (.lload 14, 2) := by decide +kernel
theorem dL_law_882 : decode cL_law 882 = .ok (.ldc2_w 143, 3) := by decide +kernel
theorem dL_law_885 : decode cL_law 885 = .ok (.lcmp, 1) := by decide +kernel
theorem dL_law_886 : decode cL_law 886 = .ok (.ifCond .le 28, 3) := by decide +kernel
theorem dL_law_889 : decode cL_law 889 = .ok (.aload_n 1, 1) := by decide +kernel
theorem dL_law_890 : decode cL_law 890 = .ok (.iload 11, 2) := by decide +kernel
theorem dL_law_892 : decode cL_law 892 = .ok (.ldc 145, 2) := by decide +kernel
theorem dL_law_894 : decode cL_law 894 = .ok (.invokestatic 146, 3) := by decide +kernel
theorem dL_law_897 : decode cL_law 897 = .ok (.ldc2_w 47, 3) := by decide +kernel
theorem dL_law_900 : decode cL_law 900 = .ok (.lcmp, 1) := by decide +kernel
theorem dL_law_901 : decode cL_law 901 = .ok (.ifCond .eq 38, 3) := by decide +kernel
theorem dL_law_904 : decode cL_law 904 = .ok (.lload 14, 2) := by decide +kernel
theorem dL_law_906 : decode cL_law 906 = .ok (.lconst 0, 1) := by decide +kernel
theorem dL_law_907 : decode cL_law 907 = .ok (.lcmp, 1) := by decide +kernel
theorem dL_law_908 : decode cL_law 908 = .ok (.ifCond .le 35, 3) := by decide +kernel
theorem dL_law_911 : decode cL_law 911 = .ok (.goto 28, 3) := by decide +kernel
theorem dL_law_914 : decode cL_law 914 = .ok (.aload_n 1, 1) := by decide +kernel
theorem dL_law_915 : decode cL_law 915 = .ok (.iload 11, 2) := by decide +kernel
theorem dL_law_917 : decode cL_law 917 = .ok (.lload 14, 2) := by decide +kernel
theorem dL_law_919 : decode cL_law 919 = .ok (.l2i, 1) := by decide +kernel
theorem dL_law_920 : decode cL_law 920 = .ok (.invokestatic 146, 3) := by decide +kernel
theorem dL_law_923 : decode cL_law 923 = .ok (.lconst 0, 1) := by decide +kernel
theorem dL_law_924 : decode cL_law 924 = .ok (.lcmp, 1) := by decide +kernel
theorem dL_law_925 : decode cL_law 925 = .ok (.ifCond .ne 18, 3) := by decide +kernel
theorem dL_law_928 : decode cL_law 928 = .ok (.aload_n 1, 1) := by decide +kernel
theorem dL_law_929 : decode cL_law 929 = .ok (.iload 11, 2) := by decide +kernel
theorem dL_law_931 : decode cL_law 931 = .ok (.invokestatic 107, 3) := by decide +kernel
theorem dL_law_934 : decode cL_law 934 = .ok (.lconst 0, 1) := by decide +kernel
theorem dL_law_935 : decode cL_law 935 = .ok (.lcmp, 1) := by decide +kernel
theorem dL_law_936 : decode cL_law 936 = .ok (.ifCond .ne 7, 3) := by decide +kernel
theorem dL_law_939 : decode cL_law 939 = .ok (.iconst 1, 1) := by decide +kernel
theorem dL_law_940 : decode cL_law 940 = .ok (.goto 4, 3) := by decide +kernel
theorem dL_law_943 : decode cL_law 943 = .ok (.iconst 0, 1) := by decide +kernel
theorem dL_law_944 : decode cL_law 944 = .ok (.istore 7, 2) := by decide +kernel
theorem dL_law_946 : decode cL_law 946 = .ok (.iinc 8 1, 3) := by decide +kernel
theorem dL_law_949 : decode cL_law 949 = .ok (.goto (-863), 3) := by decide +kernel
theorem dL_law_952 : decode cL_law 952 = .ok (.iload 7, 2) := by decide +kernel
theorem dL_law_954 : decode cL_law 954 = .ok (.ireturn, 1) := by decide +kernel
abbrev vwCl : List vw_C := [(RX0, TX0, 13), (RX1, TX1, 4)]
