set_option maxRecDepth 20000 in
theorem ggL_add_X1_add : GoodIn wsL_add wsX1_add := goodIn_ca (goodIn_ca (goodIn_r _ [7, 8, 9, 10, 11, 12, 13, 14, 15, 16, 17, 18, 19, 6, 20, 21, 22, 23, 24, 25, 26, 27, 28, 29, 30, 31, 32, 33, 34, 35, 36, 37, 38, 39, 40, 41, 42, 43, 44, 45, 46, 47, 48, 49, 50, 51, 52, 53, 54, 55, 56, 57, 58, 59, 60, 61, 62, 63, 64, 65, 66, 67, 68, 69, 70, 71] (by decide +kernel) (by decide +kernel)) (goodIn_sub (fun _ h => List.mem_cons_of_mem _ (List.mem_append_left _ (List.mem_append_right _ h))) (by decide +kernel))) (goodIn_sub (fun _ h => List.mem_cons_of_mem _ (List.mem_append_right _ h)) (by decide +kernel))
set_option maxRecDepth 20000 in
theorem gL_add_X1_add : GoodIn wsL_add (wsV RL 7 RX1 yX1_add wsX1_add) := goodIn_app (goodIn_of _ (by decide +kernel)) ggL_add_X1_add
theorem dL_add_0 : decode cL_add 0 = .ok (.aload 4, 2) := by decide +kernel
theorem dL_add_2 : decode cL_add 2 = .ok (.iconst 0, 1) := by decide +kernel
theorem dL_add_3 : decode cL_add 3 = .ok (.aload_n 0, 1) := by decide +kernel
theorem dL_add_4 : decode cL_add 4 = .ok (.iload_n 1, 1) := by decide +kernel
theorem dL_add_5 : decode cL_add 5 = .ok (.iload_n 2, 1) := by decide +kernel
theorem dL_add_6 : decode cL_add 6 = .ok (.iload_n 3, 1) := by decide +kernel
theorem dL_add_7 : decode cL_add 7 = .ok (.invokevirtual 7, 3) := by decide +kernel
theorem dL_add_10 : decode cL_add 10 = .ok (.i2l, 1) := by decide +kernel
theorem dL_add_11 : decode cL_add 11 = .ok (.lastore, 1) := by decide +kernel
theorem dL_add_12 : decode cL_add 12 = .ok (.goto 11, 3) := by decide +kernel
theorem dL_add_15 : decode cL_add 15 = .ok (.astore 5, 2) := by decide +kernel
theorem dL_add_17 : decode cL_add 17 = .ok (.iconst 1, 1) := by decide +kernel
theorem dL_add_18 : decode cL_add 18 = .ok (.ireturn, 1) := by decide +kernel
theorem dL_add_19 : decode cL_add 19 = .ok (.astore 5, 2) := by decide +kernel
theorem dL_add_21 : decode cL_add 21 = .ok (.iconst 2, 1) := by decide +kernel
theorem dL_add_22 : decode cL_add 22 = .ok (.ireturn, 1) := by decide +kernel
theorem dL_add_23 : decode cL_add 23 = .ok (.iconst 0, 1) := by decide +kernel
theorem dL_add_24 : decode cL_add 24 = .ok (.ireturn, 1) := by decide +kernel
set_option maxRecDepth 20000 in
theorem ggL_setSurvivor_X1_setSurvivor : GoodIn wsL_setSurvivor wsX1_setSurvivor := goodIn_ca (goodIn_ca (goodIn_ca (goodIn_r _ [8, 9, 10, 11, 12, 13, 7, 14, 15, 16, 17, 18, 19, 20, 21, 22, 23, 24, 25, 26, 27, 28, 29, 30, 31, 32, 33, 34, 35, 36, 37, 38, 39, 40, 41, 42, 43, 44, 45, 46, 47] (by decide +kernel) (by decide +kernel)) (goodIn_sub (fun _ h => List.mem_cons_of_mem _ (List.mem_append_left _ (List.mem_append_left _ (List.mem_append_right _ h)))) (by decide +kernel))) (goodIn_sub (fun _ h => List.mem_cons_of_mem _ (List.mem_append_left _ (List.mem_append_right _ h))) (by decide +kernel))) (goodIn_sub (fun _ h => List.mem_cons_of_mem _ (List.mem_append_right _ h)) (by decide +kernel))
set_option maxRecDepth 20000 in
theorem gL_setSurvivor_X1_setSurvivor : GoodIn wsL_setSurvivor (wsV RL 17 RX1 yX1_setSurvivor wsX1_setSurvivor) := goodIn_app (goodIn_of _ (by decide +kernel)) ggL_setSurvivor_X1_setSurvivor
theorem dL_setSurvivor_0 : decode cL_setSurvivor 0 = .ok (.aload_n 0, 1) := by decide +kernel
theorem dL_setSurvivor_1 : decode cL_setSurvivor 1 = .ok (.iload_n 1, 1) := by decide +kernel
theorem dL_setSurvivor_2 : decode cL_setSurvivor 2 = .ok (.iload_n 2, 1) := by decide +kernel
theorem dL_setSurvivor_3 : decode cL_setSurvivor 3 = .ok (.iload_n 3, 1) := by decide +kernel
theorem dL_setSurvivor_4 : decode cL_setSurvivor 4 = .ok (.invokevirtual 17, 3) := by decide +kernel
theorem dL_setSurvivor_7 : decode cL_setSurvivor 7 = .ok (.goto 15, 3) := by decide +kernel
theorem dL_setSurvivor_10 : decode cL_setSurvivor 10 = .ok (.astore 4, 2) := by decide +kernel
theorem dL_setSurvivor_12 : decode cL_setSurvivor 12 = .ok (.iconst 1, 1) := by decide +kernel
theorem dL_setSurvivor_13 : decode cL_setSurvivor 13 = .ok (.ireturn, 1) := by decide +kernel
theorem dL_setSurvivor_14 : decode cL_setSurvivor 14 = .ok (.astore 4, 2) := by decide +kernel
theorem dL_setSurvivor_16 : decode cL_setSurvivor 16 = .ok (.iconst 2, 1) := by decide +kernel
theorem dL_setSurvivor_17 : decode cL_setSurvivor 17 = .ok (.ireturn, 1) := by decide +kernel
theorem dL_setSurvivor_18 : decode cL_setSurvivor 18 = .ok (.astore 4, 2) := by decide +kernel
theorem dL_setSurvivor_20 : decode cL_setSurvivor 20 = .ok (.iconst 3, 1) := by decide +kernel
theorem dL_setSurvivor_21 : decode cL_setSurvivor 21 = .ok (.ireturn, 1) := by decide +kernel
theorem dL_setSurvivor_22 : decode cL_setSurvivor 22 = .ok (.iconst 0, 1) := by decide +kernel
theorem dL_setSurvivor_23 : decode cL_setSurvivor 23 = .ok (.ireturn, 1) := by decide +kernel
set_option maxRecDepth 20000 in
theorem ggL_setCap_X1_setCap : GoodIn wsL_setCap wsX1_setCap := goodIn_ca (goodIn_ca (goodIn_ca (goodIn_r _ [8, 9, 10, 11, 12, 13, 7, 14, 15, 16, 17, 18, 19, 20, 21, 22, 23, 24, 25, 26, 27, 28, 29, 30, 31, 32, 33, 34, 35, 36, 37, 38, 39, 40, 41, 42, 43, 44, 45, 46, 47, 48, 49, 50, 51, 52, 53, 54, 55, 56, 57, 58, 59, 60, 61, 62, 63, 64] (by decide +kernel) (by decide +kernel)) (goodIn_sub (fun _ h => List.mem_cons_of_mem _ (List.mem_append_left _ (List.mem_append_left _ (List.mem_append_right _ h)))) (by decide +kernel))) (goodIn_sub (fun _ h => List.mem_cons_of_mem _ (List.mem_append_left _ (List.mem_append_right _ h))) (by decide +kernel))) (goodIn_sub (fun _ h => List.mem_cons_of_mem _ (List.mem_append_right _ h)) (by decide +kernel))
set_option maxRecDepth 20000 in
theorem gL_setCap_X1_setCap : GoodIn wsL_setCap (wsV RL 23 RX1 yX1_setCap wsX1_setCap) := goodIn_app (goodIn_of _ (by decide +kernel)) ggL_setCap_X1_setCap
theorem dL_setCap_0 : decode cL_setCap 0 = .ok (.aload_n 0, 1) := by decide +kernel
theorem dL_setCap_1 : decode cL_setCap 1 = .ok (.iload_n 1, 1) := by decide +kernel
theorem dL_setCap_2 : decode cL_setCap 2 = .ok (.iload_n 2, 1) := by decide +kernel
theorem dL_setCap_3 : decode cL_setCap 3 = .ok (.invokevirtual 23, 3) := by decide +kernel
theorem dL_setCap_6 : decode cL_setCap 6 = .ok (.goto 12, 3) := by decide +kernel
theorem dL_setCap_9 : decode cL_setCap 9 = .ok (.astore_n 3, 1) := by decide +kernel
theorem dL_setCap_10 : decode cL_setCap 10 = .ok (.iconst 1, 1) := by decide +kernel
theorem dL_setCap_11 : decode cL_setCap 11 = .ok (.ireturn, 1) := by decide +kernel
theorem dL_setCap_12 : decode cL_setCap 12 = .ok (.astore_n 3, 1) := by decide +kernel
theorem dL_setCap_13 : decode cL_setCap 13 = .ok (.iconst 2, 1) := by decide +kernel
theorem dL_setCap_14 : decode cL_setCap 14 = .ok (.ireturn, 1) := by decide +kernel
theorem dL_setCap_15 : decode cL_setCap 15 = .ok (.astore_n 3, 1) := by decide +kernel
theorem dL_setCap_16 : decode cL_setCap 16 = .ok (.iconst 3, 1) := by decide +kernel
theorem dL_setCap_17 : decode cL_setCap 17 = .ok (.ireturn, 1) := by decide +kernel
theorem dL_setCap_18 : decode cL_setCap 18 = .ok (.iconst 0, 1) := by decide +kernel
theorem dL_setCap_19 : decode cL_setCap 19 = .ok (.ireturn, 1) := by decide +kernel
set_option maxRecDepth 20000 in
theorem ggL_protect_X1_protect : GoodIn wsL_protect wsX1_protect := goodIn_ca (goodIn_ca (goodIn_ca (goodIn_r _ [8, 9, 10, 11, 12, 13, 14, 7, 15, 16, 17, 18, 19, 20, 21, 22, 23, 24, 25, 26, 27, 28, 29, 30, 31, 32, 33, 34, 35, 36, 37, 38, 39, 40, 41, 42, 43, 44, 45, 46, 47, 48] (by decide +kernel) (by decide +kernel)) (goodIn_sub (fun _ h => List.mem_cons_of_mem _ (List.mem_append_left _ (List.mem_append_left _ (List.mem_append_right _ h)))) (by decide +kernel))) (goodIn_sub (fun _ h => List.mem_cons_of_mem _ (List.mem_append_left _ (List.mem_append_right _ h))) (by decide +kernel))) (goodIn_sub (fun _ h => List.mem_cons_of_mem _ (List.mem_append_right _ h)) (by decide +kernel))
set_option maxRecDepth 20000 in
theorem gL_protect_X1_protect : GoodIn wsL_protect (wsV RL 27 RX1 yX1_protect wsX1_protect) := goodIn_app (goodIn_of _ (by decide +kernel)) ggL_protect_X1_protect
theorem dL_protect_0 : decode cL_protect 0 = .ok (.aload_n 0, 1) := by decide +kernel
theorem dL_protect_1 : decode cL_protect 1 = .ok (.iload_n 1, 1) := by decide +kernel
theorem dL_protect_2 : decode cL_protect 2 = .ok (.iload_n 2, 1) := by decide +kernel
theorem dL_protect_3 : decode cL_protect 3 = .ok (.iload_n 3, 1) := by decide +kernel
theorem dL_protect_4 : decode cL_protect 4 = .ok (.invokevirtual 27, 3) := by decide +kernel
theorem dL_protect_7 : decode cL_protect 7 = .ok (.goto 15, 3) := by decide +kernel
theorem dL_protect_10 : decode cL_protect 10 = .ok (.astore 4, 2) := by decide +kernel
theorem dL_protect_12 : decode cL_protect 12 = .ok (.iconst 1, 1) := by decide +kernel
theorem dL_protect_13 : decode cL_protect 13 = .ok (.ireturn, 1) := by decide +kernel
theorem dL_protect_14 : decode cL_protect 14 = .ok (.astore 4, 2) := by decide +kernel
theorem dL_protect_16 : decode cL_protect 16 = .ok (.iconst 2, 1) := by decide +kernel
theorem dL_protect_17 : decode cL_protect 17 = .ok (.ireturn, 1) := by decide +kernel
theorem dL_protect_18 : decode cL_protect 18 = .ok (.astore 4, 2) := by decide +kernel
theorem dL_protect_20 : decode cL_protect 20 = .ok (.iconst 3, 1) := by decide +kernel
theorem dL_protect_21 : decode cL_protect 21 = .ok (.ireturn, 1) := by decide +kernel
theorem dL_protect_22 : decode cL_protect 22 = .ok (.iconst 0, 1) := by decide +kernel
theorem dL_protect_23 : decode cL_protect 23 = .ok (.ireturn, 1) := by decide +kernel
set_option maxRecDepth 20000 in
theorem ggL_setInflation_X1_setInflation : GoodIn wsL_setInflation wsX1_setInflation := goodIn_ca (goodIn_r _ [6, 7, 8, 9, 10, 5, 11, 12, 13, 14, 15, 16, 17, 18, 19, 20, 21, 22, 23, 24, 25, 26, 27, 28, 29, 30, 31, 32, 33, 34, 35, 36, 37, 38, 39, 40, 41, 42, 43, 44, 45, 46, 47] (by decide +kernel) (by decide +kernel)) (goodIn_sub (fun _ h => List.mem_cons_of_mem _ (List.mem_append_right _ h)) (by decide +kernel))
set_option maxRecDepth 20000 in
theorem gL_setInflation_X1_setInflation : GoodIn wsL_setInflation (wsV RL 31 RX1 yX1_setInflation wsX1_setInflation) := goodIn_app (goodIn_of _ (by decide +kernel)) ggL_setInflation_X1_setInflation
theorem dL_setInflation_0 : decode cL_setInflation 0 = .ok (.aload_n 3, 1) := by decide +kernel
theorem dL_setInflation_1 : decode cL_setInflation 1 = .ok (.iconst 0, 1) := by decide +kernel
theorem dL_setInflation_2 : decode cL_setInflation 2 = .ok (.aload_n 0, 1) := by decide +kernel
theorem dL_setInflation_3 : decode cL_setInflation 3 = .ok (.iload_n 1, 1) := by decide +kernel
theorem dL_setInflation_4 : decode cL_setInflation 4 = .ok (.iload_n 2, 1) := by decide +kernel
theorem dL_setInflation_5 : decode cL_setInflation 5 = .ok (.invokevirtual 31, 3) := by decide +kernel
theorem dL_setInflation_8 : decode cL_setInflation 8 = .ok (.i2l, 1) := by decide +kernel
theorem dL_setInflation_9 : decode cL_setInflation 9 = .ok (.lastore, 1) := by decide +kernel
theorem dL_setInflation_10 : decode cL_setInflation 10 = .ok (.goto 7, 3) := by decide +kernel
theorem dL_setInflation_13 : decode cL_setInflation 13 = .ok (.astore 4, 2) := by decide +kernel
theorem dL_setInflation_15 : decode cL_setInflation 15 = .ok (.iconst 1, 1) := by decide +kernel
theorem dL_setInflation_16 : decode cL_setInflation 16 = .ok (.ireturn, 1) := by decide +kernel
theorem dL_setInflation_17 : decode cL_setInflation 17 = .ok (.iconst 0, 1) := by decide +kernel
theorem dL_setInflation_18 : decode cL_setInflation 18 = .ok (.ireturn, 1) := by decide +kernel
set_option maxRecDepth 20000 in
theorem ggL_die_X1_die : GoodIn wsL_die wsX1_die := goodIn_ca (goodIn_ca (goodIn_ca (goodIn_r _ [8, 9, 10, 11, 12, 13, 14, 15, 16, 17, 18, 19, 7, 20, 21, 22, 23, 24, 25, 26, 27, 28, 29, 30, 31, 32, 33, 34, 35, 36, 37, 38, 39, 40, 41, 42, 43, 44, 45] (by decide +kernel) (by decide +kernel)) (goodIn_sub (fun _ h => List.mem_cons_of_mem _ (List.mem_append_left _ (List.mem_append_left _ (List.mem_append_right _ h)))) (by decide +kernel))) (goodIn_sub (fun _ h => List.mem_cons_of_mem _ (List.mem_append_left _ (List.mem_append_right _ h))) (by decide +kernel))) (goodIn_sub (fun _ h => List.mem_cons_of_mem _ (List.mem_append_right _ h)) (by decide +kernel))
set_option maxRecDepth 20000 in
theorem gL_die_X1_die : GoodIn wsL_die (wsV RL 35 RX1 yX1_die wsX1_die) := goodIn_app (goodIn_of _ (by decide +kernel)) ggL_die_X1_die
theorem dL_die_0 : decode cL_die 0 = .ok (.aload_n 0, 1) := by decide +kernel
theorem dL_die_1 : decode cL_die 1 = .ok (.iload_n 1, 1) := by decide +kernel
theorem dL_die_2 : decode cL_die 2 = .ok (.iload_n 2, 1) := by decide +kernel
theorem dL_die_3 : decode cL_die 3 = .ok (.iload_n 3, 1) := by decide +kernel
theorem dL_die_4 : decode cL_die 4 = .ok (.invokevirtual 35, 3) := by decide +kernel
theorem dL_die_7 : decode cL_die 7 = .ok (.goto 15, 3) := by decide +kernel
theorem dL_die_10 : decode cL_die 10 = .ok (.astore 4, 2) := by decide +kernel
theorem dL_die_12 : decode cL_die 12 = .ok (.iconst 1, 1) := by decide +kernel
theorem dL_die_13 : decode cL_die 13 = .ok (.ireturn, 1) := by decide +kernel
theorem dL_die_14 : decode cL_die 14 = .ok (.astore 4, 2) := by decide +kernel
theorem dL_die_16 : decode cL_die 16 = .ok (.iconst 2, 1) := by decide +kernel
theorem dL_die_17 : decode cL_die 17 = .ok (.ireturn, 1) := by decide +kernel
theorem dL_die_18 : decode cL_die 18 = .ok (.astore 4, 2) := by decide +kernel
theorem dL_die_20 : decode cL_die 20 = .ok (.iconst 3, 1) := by decide +kernel
theorem dL_die_21 : decode cL_die 21 = .ok (.ireturn, 1) := by decide +kernel
theorem dL_die_22 : decode cL_die 22 = .ok (.iconst 0, 1) := by decide +kernel
theorem dL_die_23 : decode cL_die 23 = .ok (.ireturn, 1) := by decide +kernel
set_option maxRecDepth 20000 in
theorem ggL_takeBack_X1_takeBack : GoodIn wsL_takeBack wsX1_takeBack := goodIn_ca (goodIn_ca (goodIn_ca (goodIn_r _ [8, 9, 10, 11, 12, 13, 14, 7, 15, 16, 17, 18, 19, 20, 21, 22, 23, 24, 25, 26, 27, 28, 29, 30, 31, 32, 33, 34, 35, 36, 37, 38, 39, 40] (by decide +kernel) (by decide +kernel)) (goodIn_sub (fun _ h => List.mem_cons_of_mem _ (List.mem_append_left _ (List.mem_append_left _ (List.mem_append_right _ h)))) (by decide +kernel))) (goodIn_sub (fun _ h => List.mem_cons_of_mem _ (List.mem_append_left _ (List.mem_append_right _ h))) (by decide +kernel))) (goodIn_sub (fun _ h => List.mem_cons_of_mem _ (List.mem_append_right _ h)) (by decide +kernel))
set_option maxRecDepth 20000 in
theorem gL_takeBack_X1_takeBack : GoodIn wsL_takeBack (wsV RL 38 RX1 yX1_takeBack wsX1_takeBack) := goodIn_app (goodIn_of _ (by decide +kernel)) ggL_takeBack_X1_takeBack
theorem dL_takeBack_0 : decode cL_takeBack 0 = .ok (.aload_n 3, 1) := by decide +kernel
theorem dL_takeBack_1 : decode cL_takeBack 1 = .ok (.iconst 0, 1) := by decide +kernel
theorem dL_takeBack_2 : decode cL_takeBack 2 = .ok (.aload_n 0, 1) := by decide +kernel
theorem dL_takeBack_3 : decode cL_takeBack 3 = .ok (.iload_n 1, 1) := by decide +kernel
theorem dL_takeBack_4 : decode cL_takeBack 4 = .ok (.iload_n 2, 1) := by decide +kernel
theorem dL_takeBack_5 : decode cL_takeBack 5 = .ok (.invokevirtual 38, 3) := by decide +kernel
theorem dL_takeBack_8 : decode cL_takeBack 8 = .ok (.i2l, 1) := by decide +kernel
theorem dL_takeBack_9 : decode cL_takeBack 9 = .ok (.lastore, 1) := by decide +kernel
theorem dL_takeBack_10 : decode cL_takeBack 10 = .ok (.goto 15, 3) := by decide +kernel
theorem dL_takeBack_13 : decode cL_takeBack 13 = .ok (.astore 4, 2) := by decide +kernel
theorem dL_takeBack_15 : decode cL_takeBack 15 = .ok (.iconst 1, 1) := by decide +kernel
theorem dL_takeBack_16 : decode cL_takeBack 16 = .ok (.ireturn, 1) := by decide +kernel
theorem dL_takeBack_17 : decode cL_takeBack 17 = .ok (.astore 4, 2) := by decide +kernel
theorem dL_takeBack_19 : decode cL_takeBack 19 = .ok (.iconst 2, 1) := by decide +kernel
theorem dL_takeBack_20 : decode cL_takeBack 20 = .ok (.ireturn, 1) := by decide +kernel
theorem dL_takeBack_21 : decode cL_takeBack 21 = .ok (.astore 4, 2) := by decide +kernel
theorem dL_takeBack_23 : decode cL_takeBack 23 = .ok (.iconst 3, 1) := by decide +kernel
theorem dL_takeBack_24 : decode cL_takeBack 24 = .ok (.ireturn, 1) := by decide +kernel
theorem dL_takeBack_25 : decode cL_takeBack 25 = .ok (.iconst 0, 1) := by decide +kernel
theorem dL_takeBack_26 : decode cL_takeBack 26 = .ok (.ireturn, 1) := by decide +kernel
set_option maxRecDepth 20000 in
theorem ggL_run_X1_run : GoodIn wsL_run wsX1_run := goodIn_ca (goodIn_r _ [6, 7, 8, 9, 10, 11, 12, 13, 14, 15, 16, 17, 18, 19, 20, 21, 22, 23, 24, 25, 26, 27, 28, 29, 30, 31, 32, 33, 34, 35, 36, 37, 38, 39, 40, 41, 42, 43, 44, 45, 46, 47, 48, 49, 50, 51, 52, 53, 54, 55, 56, 57, 58, 59, 60, 61, 62, 63, 64, 65, 66, 67, 68, 69, 70, 71, 72, 73, 74, 75, 76, 77] (by decide +kernel) (by decide +kernel)) (goodIn_sub (fun _ h => List.mem_cons_of_mem _ (List.mem_append_right _ h)) (by decide +kernel))
set_option maxRecDepth 20000 in
theorem gL_run_X1_run : GoodIn wsL_run (wsV RL 41 RX1 yX1_run wsX1_run) := goodIn_app (goodIn_of _ (by decide +kernel)) ggL_run_X1_run
theorem dL_run_0 : decode cL_run 0 = .ok (.aload_n 1, 1) := by decide +kernel
theorem dL_run_1 : decode cL_run 1 = .ok (.iconst 0, 1) := by decide +kernel
theorem dL_run_2 : decode cL_run 2 = .ok (.aload_n 0, 1) := by decide +kernel
theorem dL_run_3 : decode cL_run 3 = .ok (.invokevirtual 41, 3) := by decide +kernel
theorem dL_run_6 : decode cL_run 6 = .ok (.lastore, 1) := by decide +kernel
theorem dL_run_7 : decode cL_run 7 = .ok (.goto 6, 3) := by decide +kernel
theorem dL_run_10 : decode cL_run 10 = .ok (.astore_n 2, 1) := by decide +kernel
theorem dL_run_11 : decode cL_run 11 = .ok (.iconst 1, 1) := by decide +kernel
theorem dL_run_12 : decode cL_run 12 = .ok (.ireturn, 1) := by decide +kernel
theorem dL_run_13 : decode cL_run 13 = .ok (.iconst 0, 1) := by decide +kernel
theorem dL_run_14 : decode cL_run 14 = .ok (.ireturn, 1) := by decide +kernel
set_option maxRecDepth 20000 in
theorem ggL_giveBack_X1_giveBack : GoodIn wsL_giveBack wsX1_giveBack := goodIn_ca (goodIn_ca (goodIn_ca (goodIn_r _ [8, 9, 10, 11, 12, 13, 14, 15, 16, 7, 17, 18, 19, 20, 21, 22, 23, 24, 25, 26, 27, 28, 29, 30, 31, 32, 33, 34, 35, 36, 37, 38, 39, 40, 41, 42, 43, 44, 45, 46, 47, 48, 49, 50, 51, 52, 53, 54, 55, 56, 57, 58, 59, 60, 61, 62, 63, 64, 65, 66, 67, 68, 69, 70, 71, 72, 73, 74, 75, 76, 77, 78, 79, 80, 81, 82, 83, 84, 85, 86, 87, 88, 89, 90, 91] (by decide +kernel) (by decide +kernel)) (goodIn_sub (fun _ h => List.mem_cons_of_mem _ (List.mem_append_left _ (List.mem_append_left _ (List.mem_append_right _ h)))) (by decide +kernel))) (goodIn_sub (fun _ h => List.mem_cons_of_mem _ (List.mem_append_left _ (List.mem_append_right _ h))) (by decide +kernel))) (goodIn_sub (fun _ h => List.mem_cons_of_mem _ (List.mem_append_right _ h)) (by decide +kernel))
set_option maxRecDepth 20000 in
theorem gL_giveBack_X1_giveBack : GoodIn wsL_giveBack (wsV RL 45 RX1 yX1_giveBack wsX1_giveBack) := goodIn_app (goodIn_of _ (by decide +kernel)) ggL_giveBack_X1_giveBack
theorem dL_giveBack_0 : decode cL_giveBack 0 = .ok (.aload_n 3, 1) := by decide +kernel
theorem dL_giveBack_1 : decode cL_giveBack 1 = .ok (.iconst 0, 1) := by decide +kernel
theorem dL_giveBack_2 : decode cL_giveBack 2 = .ok (.aload_n 0, 1) := by decide +kernel
theorem dL_giveBack_3 : decode cL_giveBack 3 = .ok (.iload_n 1, 1) := by decide +kernel
theorem dL_giveBack_4 : decode cL_giveBack 4 = .ok (.iload_n 2, 1) := by decide +kernel
theorem dL_giveBack_5 : decode cL_giveBack 5 = .ok (.invokevirtual 45, 3) := by decide +kernel
theorem dL_giveBack_8 : decode cL_giveBack 8 = .ok (.lastore, 1) := by decide +kernel
theorem dL_giveBack_9 : decode cL_giveBack 9 = .ok (.goto 15, 3) := by decide +kernel
theorem dL_giveBack_12 : decode cL_giveBack 12 = .ok (.astore 4, 2) := by decide +kernel
theorem dL_giveBack_14 : decode cL_giveBack 14 = .ok (.iconst 1, 1) := by decide +kernel
theorem dL_giveBack_15 : decode cL_giveBack 15 = .ok (.ireturn, 1) := by decide +kernel
theorem dL_giveBack_16 : decode cL_giveBack 16 = .ok (.astore 4, 2) := by decide +kernel
theorem dL_giveBack_18 : decode cL_giveBack 18 = .ok (.iconst 2, 1) := by decide +kernel
theorem dL_giveBack_19 : decode cL_giveBack 19 = .ok (.ireturn, 1) := by decide +kernel
theorem dL_giveBack_20 : decode cL_giveBack 20 = .ok (.astore 4, 2) := by decide +kernel
theorem dL_giveBack_22 : decode cL_giveBack 22 = .ok (.iconst 3, 1) := by decide +kernel
theorem dL_giveBack_23 : decode cL_giveBack 23 = .ok (.ireturn, 1) := by decide +kernel
theorem dL_giveBack_24 : decode cL_giveBack 24 = .ok (.iconst 0, 1) := by decide +kernel
theorem dL_giveBack_25 : decode cL_giveBack 25 = .ok (.ireturn, 1) := by decide +kernel
set_option maxRecDepth 20000 in
theorem ggL_paid_X1_paid : GoodIn wsL_paid wsX1_paid := goodIn_ca (goodIn_ca (goodIn_r _ [7, 8, 9, 10, 11, 12, 6, 13, 14, 15, 16, 17, 18, 19, 20, 21, 22, 23, 24, 25, 26, 27, 28, 29, 30, 31, 32, 33, 34, 35, 36, 37, 38] (by decide +kernel) (by decide +kernel)) (goodIn_sub (fun _ h => List.mem_cons_of_mem _ (List.mem_append_left _ (List.mem_append_right _ h))) (by decide +kernel))) (goodIn_sub (fun _ h => List.mem_cons_of_mem _ (List.mem_append_right _ h)) (by decide +kernel))
set_option maxRecDepth 20000 in
theorem gL_paid_X1_paid : GoodIn wsL_paid (wsV RL 49 RX1 yX1_paid wsX1_paid) := goodIn_app (goodIn_of _ (by decide +kernel)) ggL_paid_X1_paid
theorem dL_paid_0 : decode cL_paid 0 = .ok (.aload_n 3, 1) := by decide +kernel
theorem dL_paid_1 : decode cL_paid 1 = .ok (.iconst 0, 1) := by decide +kernel
theorem dL_paid_2 : decode cL_paid 2 = .ok (.aload_n 0, 1) := by decide +kernel
theorem dL_paid_3 : decode cL_paid 3 = .ok (.iload_n 1, 1) := by decide +kernel
theorem dL_paid_4 : decode cL_paid 4 = .ok (.iload_n 2, 1) := by decide +kernel
theorem dL_paid_5 : decode cL_paid 5 = .ok (.invokevirtual 49, 3) := by decide +kernel
theorem dL_paid_8 : decode cL_paid 8 = .ok (.lastore, 1) := by decide +kernel
theorem dL_paid_9 : decode cL_paid 9 = .ok (.goto 11, 3) := by decide +kernel
theorem dL_paid_12 : decode cL_paid 12 = .ok (.astore 4, 2) := by decide +kernel
theorem dL_paid_14 : decode cL_paid 14 = .ok (.iconst 1, 1) := by decide +kernel
theorem dL_paid_15 : decode cL_paid 15 = .ok (.ireturn, 1) := by decide +kernel
theorem dL_paid_16 : decode cL_paid 16 = .ok (.astore 4, 2) := by decide +kernel
theorem dL_paid_18 : decode cL_paid 18 = .ok (.iconst 2, 1) := by decide +kernel
theorem dL_paid_19 : decode cL_paid 19 = .ok (.ireturn, 1) := by decide +kernel
theorem dL_paid_20 : decode cL_paid 20 = .ok (.iconst 0, 1) := by decide +kernel
theorem dL_paid_21 : decode cL_paid 21 = .ok (.ireturn, 1) := by decide +kernel
set_option maxRecDepth 20000 in
theorem ggL_paidInAll_X1_paidInAll : GoodIn wsL_paidInAll wsX1_paidInAll := goodIn_ca (goodIn_r _ [6, 7, 8, 9, 10, 5, 11, 12, 13, 14, 15, 16, 17, 18, 19, 20, 21, 22, 23, 24, 25, 26, 27, 28, 29, 30, 31] (by decide +kernel) (by decide +kernel)) (goodIn_sub (fun _ h => List.mem_cons_of_mem _ (List.mem_append_right _ h)) (by decide +kernel))
set_option maxRecDepth 20000 in
theorem gL_paidInAll_X1_paidInAll : GoodIn wsL_paidInAll (wsV RL 52 RX1 yX1_paidInAll wsX1_paidInAll) := goodIn_app (goodIn_of _ (by decide +kernel)) ggL_paidInAll_X1_paidInAll
theorem dL_paidInAll_0 : decode cL_paidInAll 0 = .ok (.aload_n 2, 1) := by decide +kernel
theorem dL_paidInAll_1 : decode cL_paidInAll 1 = .ok (.iconst 0, 1) := by decide +kernel
theorem dL_paidInAll_2 : decode cL_paidInAll 2 = .ok (.aload_n 0, 1) := by decide +kernel
theorem dL_paidInAll_3 : decode cL_paidInAll 3 = .ok (.iload_n 1, 1) := by decide +kernel
theorem dL_paidInAll_4 : decode cL_paidInAll 4 = .ok (.invokevirtual 52, 3) := by decide +kernel
theorem dL_paidInAll_7 : decode cL_paidInAll 7 = .ok (.lastore, 1) := by decide +kernel
theorem dL_paidInAll_8 : decode cL_paidInAll 8 = .ok (.goto 6, 3) := by decide +kernel
theorem dL_paidInAll_11 : decode cL_paidInAll 11 = .ok (.astore_n 3, 1) := by decide +kernel
theorem dL_paidInAll_12 : decode cL_paidInAll 12 = .ok (.iconst 1, 1) := by decide +kernel
theorem dL_paidInAll_13 : decode cL_paidInAll 13 = .ok (.ireturn, 1) := by decide +kernel
theorem dL_paidInAll_14 : decode cL_paidInAll 14 = .ok (.iconst 0, 1) := by decide +kernel
theorem dL_paidInAll_15 : decode cL_paidInAll 15 = .ok (.ireturn, 1) := by decide +kernel
set_option maxRecDepth 20000 in
theorem ggL_owes_X1_owes : GoodIn wsL_owes wsX1_owes := goodIn_ca (goodIn_r _ [6, 7, 8, 9, 10, 5, 11, 12, 13, 14, 15, 16, 17, 18, 19, 20, 21, 22, 23, 24, 25, 26, 27, 28, 29, 30, 31, 32, 33, 34, 35, 36, 37, 38, 39, 40, 41, 42, 43, 44, 45, 46, 47, 48, 49, 50, 51, 52, 53, 54, 55, 56, 57, 58, 59, 60, 61, 62, 63, 64, 65, 66, 67, 68, 69, 70, 71, 72, 73, 74, 75, 76, 77, 78, 79, 80] (by decide +kernel) (by decide +kernel)) (goodIn_sub (fun _ h => List.mem_cons_of_mem _ (List.mem_append_right _ h)) (by decide +kernel))
set_option maxRecDepth 20000 in
theorem gL_owes_X1_owes : GoodIn wsL_owes (wsV RL 56 RX1 yX1_owes wsX1_owes) := goodIn_app (goodIn_of _ (by decide +kernel)) ggL_owes_X1_owes
theorem dL_owes_0 : decode cL_owes 0 = .ok (.aload_n 2, 1) := by decide +kernel
theorem dL_owes_1 : decode cL_owes 1 = .ok (.iconst 0, 1) := by decide +kernel
theorem dL_owes_2 : decode cL_owes 2 = .ok (.aload_n 0, 1) := by decide +kernel
theorem dL_owes_3 : decode cL_owes 3 = .ok (.iload_n 1, 1) := by decide +kernel
theorem dL_owes_4 : decode cL_owes 4 = .ok (.invokevirtual 56, 3) := by decide +kernel
theorem dL_owes_7 : decode cL_owes 7 = .ok (.lastore, 1) := by decide +kernel
theorem dL_owes_8 : decode cL_owes 8 = .ok (.goto 6, 3) := by decide +kernel
theorem dL_owes_11 : decode cL_owes 11 = .ok (.astore_n 3, 1) := by decide +kernel
theorem dL_owes_12 : decode cL_owes 12 = .ok (.iconst 1, 1) := by decide +kernel
theorem dL_owes_13 : decode cL_owes 13 = .ok (.ireturn, 1) := by decide +kernel
theorem dL_owes_14 : decode cL_owes 14 = .ok (.iconst 0, 1) := by decide +kernel
theorem dL_owes_15 : decode cL_owes 15 = .ok (.ireturn, 1) := by decide +kernel
set_option maxRecDepth 20000 in
theorem ggL_fullAmount_X1_fullAmount : GoodIn wsL_fullAmount wsX1_fullAmount := goodIn_ca (goodIn_ca (goodIn_r _ [7, 8, 9, 10, 6, 11, 12, 13, 14, 15, 16, 17, 18, 19, 20, 21, 22, 23, 24, 25, 26, 27, 28, 29, 30, 31, 32, 33, 34, 35, 36, 37, 38, 39, 40, 41, 42, 43, 44, 45, 46] (by decide +kernel) (by decide +kernel)) (goodIn_sub (fun _ h => List.mem_cons_of_mem _ (List.mem_append_left _ (List.mem_append_right _ h))) (by decide +kernel))) (goodIn_sub (fun _ h => List.mem_cons_of_mem _ (List.mem_append_right _ h)) (by decide +kernel))
set_option maxRecDepth 20000 in
theorem gL_fullAmount_X1_fullAmount : GoodIn wsL_fullAmount (wsV RL 59 RX1 yX1_fullAmount wsX1_fullAmount) := goodIn_app (goodIn_of _ (by decide +kernel)) ggL_fullAmount_X1_fullAmount
theorem dL_fullAmount_0 : decode cL_fullAmount 0 = .ok (.aload_n 3, 1) := by decide +kernel
theorem dL_fullAmount_1 : decode cL_fullAmount 1 = .ok (.iconst 0, 1) := by decide +kernel
theorem dL_fullAmount_2 : decode cL_fullAmount 2 = .ok (.aload_n 0, 1) := by decide +kernel
theorem dL_fullAmount_3 : decode cL_fullAmount 3 = .ok (.iload_n 1, 1) := by decide +kernel
theorem dL_fullAmount_4 : decode cL_fullAmount 4 = .ok (.iload_n 2, 1) := by decide +kernel
theorem dL_fullAmount_5 : decode cL_fullAmount 5 = .ok (.invokevirtual 59, 3) := by decide +kernel
theorem dL_fullAmount_8 : decode cL_fullAmount 8 = .ok (.i2l, 1) := by decide +kernel
theorem dL_fullAmount_9 : decode cL_fullAmount 9 = .ok (.lastore, 1) := by decide +kernel
theorem dL_fullAmount_10 : decode cL_fullAmount 10 = .ok (.goto 11, 3) := by decide +kernel
theorem dL_fullAmount_13 : decode cL_fullAmount 13 = .ok (.astore 4, 2) := by decide +kernel
theorem dL_fullAmount_15 : decode cL_fullAmount 15 = .ok (.iconst 1, 1) := by decide +kernel
theorem dL_fullAmount_16 : decode cL_fullAmount 16 = .ok (.ireturn, 1) := by decide +kernel
theorem dL_fullAmount_17 : decode cL_fullAmount 17 = .ok (.astore 4, 2) := by decide +kernel
theorem dL_fullAmount_19 : decode cL_fullAmount 19 = .ok (.iconst 2, 1) := by decide +kernel
theorem dL_fullAmount_20 : decode cL_fullAmount 20 = .ok (.ireturn, 1) := by decide +kernel
theorem dL_fullAmount_21 : decode cL_fullAmount 21 = .ok (.iconst 0, 1) := by decide +kernel
theorem dL_fullAmount_22 : decode cL_fullAmount 22 = .ok (.ireturn, 1) := by decide +kernel
set_option maxRecDepth 20000 in
theorem ggL_carry_X1_carry : GoodIn wsL_carry wsX1_carry := goodIn_ca (goodIn_ca (goodIn_r _ [7, 8, 9, 10, 6, 11, 12, 13, 14, 15, 16, 17, 18, 19, 20, 21, 22, 23, 24, 25, 26, 27, 28, 29, 30, 31, 32, 33, 34, 35, 36, 37, 38, 39, 40, 41, 42, 43, 44, 45, 46] (by decide +kernel) (by decide +kernel)) (goodIn_sub (fun _ h => List.mem_cons_of_mem _ (List.mem_append_left _ (List.mem_append_right _ h))) (by decide +kernel))) (goodIn_sub (fun _ h => List.mem_cons_of_mem _ (List.mem_append_right _ h)) (by decide +kernel))
set_option maxRecDepth 20000 in
theorem gL_carry_X1_carry : GoodIn wsL_carry (wsV RL 62 RX1 yX1_carry wsX1_carry) := goodIn_app (goodIn_of _ (by decide +kernel)) ggL_carry_X1_carry
theorem dL_carry_0 : decode cL_carry 0 = .ok (.aload_n 3, 1) := by decide +kernel
theorem dL_carry_1 : decode cL_carry 1 = .ok (.iconst 0, 1) := by decide +kernel
theorem dL_carry_2 : decode cL_carry 2 = .ok (.aload_n 0, 1) := by decide +kernel
theorem dL_carry_3 : decode cL_carry 3 = .ok (.iload_n 1, 1) := by decide +kernel
theorem dL_carry_4 : decode cL_carry 4 = .ok (.iload_n 2, 1) := by decide +kernel
theorem dL_carry_5 : decode cL_carry 5 = .ok (.invokevirtual 62, 3) := by decide +kernel
theorem dL_carry_8 : decode cL_carry 8 = .ok (.i2l, 1) := by decide +kernel
theorem dL_carry_9 : decode cL_carry 9 = .ok (.lastore, 1) := by decide +kernel
theorem dL_carry_10 : decode cL_carry 10 = .ok (.goto 11, 3) := by decide +kernel
theorem dL_carry_13 : decode cL_carry 13 = .ok (.astore 4, 2) := by decide +kernel
theorem dL_carry_15 : decode cL_carry 15 = .ok (.iconst 1, 1) := by decide +kernel
theorem dL_carry_16 : decode cL_carry 16 = .ok (.ireturn, 1) := by decide +kernel
theorem dL_carry_17 : decode cL_carry 17 = .ok (.astore 4, 2) := by decide +kernel
theorem dL_carry_19 : decode cL_carry 19 = .ok (.iconst 2, 1) := by decide +kernel
theorem dL_carry_20 : decode cL_carry 20 = .ok (.ireturn, 1) := by decide +kernel
theorem dL_carry_21 : decode cL_carry 21 = .ok (.iconst 0, 1) := by decide +kernel
theorem dL_carry_22 : decode cL_carry 22 = .ok (.ireturn, 1) := by decide +kernel
set_option maxRecDepth 20000 in
theorem ggL_entitled_X1_entitled : GoodIn wsL_entitled wsX1_entitled := goodIn_ca (goodIn_ca (goodIn_r _ [7, 8, 9, 10, 6, 11, 12, 13, 14, 15, 16, 17, 18, 19, 20, 21, 22, 23, 24, 25, 26, 27, 28, 29, 30, 31, 32, 33, 34, 35, 36, 37, 38, 39, 40, 41, 42, 43, 44, 45, 46, 47, 48, 49, 50, 51, 52, 53, 54, 55, 56, 57, 58, 59, 60, 61, 62, 63, 64, 65, 66, 67, 68, 69, 70, 71, 72, 73, 74, 75, 76, 77, 78, 79, 80, 81, 82, 83] (by decide +kernel) (by decide +kernel)) (goodIn_sub (fun _ h => List.mem_cons_of_mem _ (List.mem_append_left _ (List.mem_append_right _ h))) (by decide +kernel))) (goodIn_sub (fun _ h => List.mem_cons_of_mem _ (List.mem_append_right _ h)) (by decide +kernel))
set_option maxRecDepth 20000 in
theorem gL_entitled_X1_entitled : GoodIn wsL_entitled (wsV RL 65 RX1 yX1_entitled wsX1_entitled) := goodIn_app (goodIn_of _ (by decide +kernel)) ggL_entitled_X1_entitled
theorem dL_entitled_0 : decode cL_entitled 0 = .ok (.aload_n 3, 1) := by decide +kernel
theorem dL_entitled_1 : decode cL_entitled 1 = .ok (.iconst 0, 1) := by decide +kernel
theorem dL_entitled_2 : decode cL_entitled 2 = .ok (.aload_n 0, 1) := by decide +kernel
theorem dL_entitled_3 : decode cL_entitled 3 = .ok (.iload_n 1, 1) := by decide +kernel
theorem dL_entitled_4 : decode cL_entitled 4 = .ok (.iload_n 2, 1) := by decide +kernel
theorem dL_entitled_5 : decode cL_entitled 5 = .ok (.invokevirtual 65, 3) := by decide +kernel
theorem dL_entitled_8 : decode cL_entitled 8 = .ok (.lastore, 1) := by decide +kernel
theorem dL_entitled_9 : decode cL_entitled 9 = .ok (.goto 11, 3) := by decide +kernel
theorem dL_entitled_12 : decode cL_entitled 12 = .ok (.astore 4, 2) := by decide +kernel
theorem dL_entitled_14 : decode cL_entitled 14 = .ok (.iconst 1, 1) := by decide +kernel
theorem dL_entitled_15 : decode cL_entitled 15 = .ok (.ireturn, 1) := by decide +kernel
theorem dL_entitled_16 : decode cL_entitled 16 = .ok (.astore 4, 2) := by decide +kernel
theorem dL_entitled_18 : decode cL_entitled 18 = .ok (.iconst 2, 1) := by decide +kernel
theorem dL_entitled_19 : decode cL_entitled 19 = .ok (.ireturn, 1) := by decide +kernel
theorem dL_entitled_20 : decode cL_entitled 20 = .ok (.iconst 0, 1) := by decide +kernel
theorem dL_entitled_21 : decode cL_entitled 21 = .ok (.ireturn, 1) := by decide +kernel
set_option maxRecDepth 20000 in
theorem ggL_entitledUpTo_X1_entitledUpTo : GoodIn wsL_entitledUpTo wsX1_entitledUpTo := goodIn_ca (goodIn_ca (goodIn_r _ [7, 8, 9, 10, 6, 11, 12, 13, 14, 15, 16, 17, 18, 19, 20, 21, 22, 23, 24, 25, 26, 27, 28, 29, 30, 31, 32, 33, 34, 35, 36, 37, 38, 39, 40, 41, 42, 43, 44, 45, 46, 47, 48, 49, 50, 51, 52, 53, 54, 55, 56, 57, 58, 59, 60, 61, 62, 63, 64, 65, 66, 67, 68, 69, 70, 71, 72, 73, 74, 75, 76, 77, 78, 79, 80, 81, 82, 83] (by decide +kernel) (by decide +kernel)) (goodIn_sub (fun _ h => List.mem_cons_of_mem _ (List.mem_append_left _ (List.mem_append_right _ h))) (by decide +kernel))) (goodIn_sub (fun _ h => List.mem_cons_of_mem _ (List.mem_append_right _ h)) (by decide +kernel))
set_option maxRecDepth 20000 in
theorem gL_entitledUpTo_X1_entitledUpTo : GoodIn wsL_entitledUpTo (wsV RL 68 RX1 yX1_entitledUpTo wsX1_entitledUpTo) := goodIn_app (goodIn_of _ (by decide +kernel)) ggL_entitledUpTo_X1_entitledUpTo
theorem dL_entitledUpTo_0 : decode cL_entitledUpTo 0 = .ok (.aload_n 3, 1) := by decide +kernel
theorem dL_entitledUpTo_1 : decode cL_entitledUpTo 1 = .ok (.iconst 0, 1) := by decide +kernel
theorem dL_entitledUpTo_2 : decode cL_entitledUpTo 2 = .ok (.aload_n 0, 1) := by decide +kernel
theorem dL_entitledUpTo_3 : decode cL_entitledUpTo 3 = .ok (.iload_n 1, 1) := by decide +kernel
theorem dL_entitledUpTo_4 : decode cL_entitledUpTo 4 = .ok (.iload_n 2, 1) := by decide +kernel
theorem dL_entitledUpTo_5 : decode cL_entitledUpTo 5 = .ok (.invokevirtual 68, 3) := by decide +kernel
theorem dL_entitledUpTo_8 : decode cL_entitledUpTo 8 = .ok (.lastore, 1) := by decide +kernel
theorem dL_entitledUpTo_9 : decode cL_entitledUpTo 9 = .ok (.goto 11, 3) := by decide +kernel
theorem dL_entitledUpTo_12 : decode cL_entitledUpTo 12 = .ok (.astore 4, 2) := by decide +kernel
theorem dL_entitledUpTo_14 : decode cL_entitledUpTo 14 = .ok (.iconst 1, 1) := by decide +kernel
theorem dL_entitledUpTo_15 : decode cL_entitledUpTo 15 = .ok (.ireturn, 1) := by decide +kernel
theorem dL_entitledUpTo_16 : decode cL_entitledUpTo 16 = .ok (.astore 4, 2) := by decide +kernel
theorem dL_entitledUpTo_18 : decode cL_entitledUpTo 18 = .ok (.iconst 2, 1) := by decide +kernel
theorem dL_entitledUpTo_19 : decode cL_entitledUpTo 19 = .ok (.ireturn, 1) := by decide +kernel
theorem dL_entitledUpTo_20 : decode cL_entitledUpTo 20 = .ok (.iconst 0, 1) := by decide +kernel
theorem dL_entitledUpTo_21 : decode cL_entitledUpTo 21 = .ok (.ireturn, 1) := by decide +kernel
set_option maxRecDepth 20000 in
theorem ggL_protection_X1_protection : GoodIn wsL_protection wsX1_protection := goodIn_ca (goodIn_r _ [6, 7, 8, 9, 5, 10, 11, 12, 13, 14, 15, 16, 17, 18, 19, 20, 21, 22, 23, 24, 25, 26, 27, 28, 29, 30, 31, 32, 33, 34, 35, 36, 37, 38, 39, 40, 41, 42, 43, 44, 45, 46, 47, 48, 49, 50, 51, 52, 53, 54, 55, 56, 57, 58, 59, 60, 61, 62, 63, 64, 65, 66, 67, 68, 69, 70] (by decide +kernel) (by decide +kernel)) (goodIn_sub (fun _ h => List.mem_cons_of_mem _ (List.mem_append_right _ h)) (by decide +kernel))
set_option maxRecDepth 20000 in
theorem gL_protection_X1_protection : GoodIn wsL_protection (wsV RL 71 RX1 yX1_protection wsX1_protection) := goodIn_app (goodIn_of _ (by decide +kernel)) ggL_protection_X1_protection
theorem dL_protection_0 : decode cL_protection 0 = .ok (.aload_n 2, 1) := by decide +kernel
theorem dL_protection_1 : decode cL_protection 1 = .ok (.iconst 0, 1) := by decide +kernel
theorem dL_protection_2 : decode cL_protection 2 = .ok (.aload_n 0, 1) := by decide +kernel
theorem dL_protection_3 : decode cL_protection 3 = .ok (.iload_n 1, 1) := by decide +kernel
theorem dL_protection_4 : decode cL_protection 4 = .ok (.invokevirtual 71, 3) := by decide +kernel
theorem dL_protection_7 : decode cL_protection 7 = .ok (.lastore, 1) := by decide +kernel
theorem dL_protection_8 : decode cL_protection 8 = .ok (.goto 6, 3) := by decide +kernel
theorem dL_protection_11 : decode cL_protection 11 = .ok (.astore_n 3, 1) := by decide +kernel
theorem dL_protection_12 : decode cL_protection 12 = .ok (.iconst 1, 1) := by decide +kernel
theorem dL_protection_13 : decode cL_protection 13 = .ok (.ireturn, 1) := by decide +kernel
theorem dL_protection_14 : decode cL_protection 14 = .ok (.iconst 0, 1) := by decide +kernel
theorem dL_protection_15 : decode cL_protection 15 = .ok (.ireturn, 1) := by decide +kernel
set_option maxRecDepth 20000 in
theorem ggL_law_X1_init : GoodIn wsL_law wsX1_init := goodIn_r _ [9, 10, 11, 12, 13, 14, 15, 16, 17, 18, 408, 409, 410, 411] (by decide +kernel) (by decide +kernel)
set_option maxRecDepth 20000 in
theorem gL_law_X1_init : GoodIn wsL_law (wsX1_init) := ggL_law_X1_init
set_option maxRecDepth 20000 in
theorem ggL_law_X2_init : GoodIn wsL_law wsX2_init := goodIn_r _ [21, 22, 11, 12, 15, 23, 24, 25, 26, 27, 28, 29, 30, 31, 32, 6, 33, 34, 35, 36, 412, 413, 414, 415, 416, 417, 418, 419, 420, 421, 422, 423, 424, 425, 426, 427, 428, 429] (by decide +kernel) (by decide +kernel)
set_option maxRecDepth 20000 in
theorem gL_law_X2_init : GoodIn wsL_law (wsX2_init) := ggL_law_X2_init
set_option maxRecDepth 20000 in
theorem ggL_law_L_add : GoodIn wsL_law wsL_add := goodIn_ca (goodIn_ca (goodIn_r _ [40, 41, 42, 43, 44, 45, 2, 46, 47, 48, 18, 49, 17, 14, 13, 50, 51, 16, 52, 53, 54, 55, 56, 57, 58, 59, 60, 11, 12, 61, 62, 63, 64, 65, 66, 67, 68, 15, 69, 70, 71, 6, 72, 73, 74, 75, 76, 77, 78, 79, 80, 81, 82, 83, 84, 408, 409, 410, 411, 430, 431, 432, 433, 434, 435, 436, 437, 438, 439, 440, 441, 442] (by decide +kernel) (by decide +kernel)) (goodIn_sub (fun _ h => List.mem_append_left _ (List.mem_append_left _ (List.mem_append_right _ h))) (by decide +kernel))) (goodIn_sub (fun _ h => List.mem_append_left _ (List.mem_append_right _ h)) (by decide +kernel))
set_option maxRecDepth 20000 in
theorem gL_law_L_add : GoodIn wsL_law (va_wsS RL 78 yL_add wsL_add) := goodIn_app (goodIn_of _ (by decide +kernel)) ggL_law_L_add
set_option maxRecDepth 20000 in
theorem ggL_law_X2_add : GoodIn wsL_law wsX2_add := goodIn_r _ [88, 89, 90, 91, 23, 24, 25, 26, 32, 92, 93, 5, 94, 95, 96, 97, 98, 99, 412, 413, 414, 415, 416, 417, 418, 419, 420, 421, 422, 423, 424, 425, 426, 427, 428, 429] (by decide +kernel) (by decide +kernel)
set_option maxRecDepth 20000 in
theorem gL_law_X2_add : GoodIn wsL_law (wsV RL 83 RX2 yX2_add wsX2_add) := goodIn_app (goodIn_of _ (by decide +kernel)) ggL_law_X2_add
set_option maxRecDepth 20000 in
theorem ggL_law_X2_thrown : GoodIn wsL_law wsX2_thrown := goodIn_r _ [103, 99, 412, 413, 414, 415, 416, 417, 418, 419, 420, 421, 422, 423, 424, 425, 426, 427, 428, 429] (by decide +kernel) (by decide +kernel)
set_option maxRecDepth 20000 in
theorem gL_law_X2_thrown : GoodIn wsL_law (wsV RL 84 RX2 yX2_thrown wsX2_thrown) := goodIn_app (goodIn_of _ (by decide +kernel)) ggL_law_X2_thrown
set_option maxRecDepth 20000 in
theorem ggL_law_L_setSurvivor : GoodIn wsL_law wsL_setSurvivor := goodIn_ca (goodIn_ca (goodIn_ca (goodIn_r _ [106, 107, 41, 42, 108, 109, 110, 2, 111, 112, 113, 114, 115, 116, 117, 118, 119, 14, 52, 53, 54, 55, 56, 120, 121, 122, 123, 47, 48, 124, 18, 430, 431, 432, 433, 434, 435, 436, 437, 438, 439, 440, 441, 442, 408, 409, 410, 411] (by decide +kernel) (by decide +kernel)) (goodIn_sub (fun _ h => List.mem_append_right _ h) (by decide +kernel))) (goodIn_sub (fun _ h => List.mem_append_left _ (List.mem_append_right _ h)) (by decide +kernel))) (goodIn_sub (fun _ h => List.mem_append_left _ (List.mem_append_left _ (List.mem_append_right _ h))) (by decide +kernel))
set_option maxRecDepth 20000 in
theorem gL_law_L_setSurvivor : GoodIn wsL_law (va_wsS RL 88 yL_setSurvivor wsL_setSurvivor) := goodIn_app (goodIn_of _ (by decide +kernel)) ggL_law_L_setSurvivor
set_option maxRecDepth 20000 in
theorem ggL_law_X2_setSurvivor : GoodIn wsL_law wsX2_setSurvivor := goodIn_r _ [128, 26, 28, 129, 130, 131, 5, 132, 91, 92, 93, 94, 133, 134, 135, 136, 89, 23, 95, 96, 97, 98, 99, 412, 413, 414, 415, 416, 417, 418, 419, 420, 421, 422, 423, 424, 425, 426, 427, 428, 429] (by decide +kernel) (by decide +kernel)
set_option maxRecDepth 20000 in
theorem gL_law_X2_setSurvivor : GoodIn wsL_law (wsV RL 91 RX2 yX2_setSurvivor wsX2_setSurvivor) := goodIn_app (goodIn_of _ (by decide +kernel)) ggL_law_X2_setSurvivor
set_option maxRecDepth 20000 in
theorem ggL_law_L_setCap : GoodIn wsL_law wsL_setCap := goodIn_ca (goodIn_ca (goodIn_ca (goodIn_r _ [139, 107, 41, 42, 140, 141, 142, 2, 143, 144, 16, 114, 115, 116, 117, 118, 119, 14, 52, 53, 54, 55, 56, 120, 121, 122, 123, 47, 48, 124, 18, 74, 75, 76, 51, 77, 62, 70, 71, 61, 66, 78, 79, 80, 81, 82, 83, 84, 430, 431, 432, 433, 434, 435, 436, 437, 438, 439, 440, 441, 442, 408, 409, 410, 411] (by decide +kernel) (by decide +kernel)) (goodIn_sub (fun _ h => List.mem_append_right _ h) (by decide +kernel))) (goodIn_sub (fun _ h => List.mem_append_left _ (List.mem_append_right _ h)) (by decide +kernel))) (goodIn_sub (fun _ h => List.mem_append_left _ (List.mem_append_left _ (List.mem_append_right _ h))) (by decide +kernel))
set_option maxRecDepth 20000 in
theorem gL_law_L_setCap : GoodIn wsL_law (va_wsS RL 92 yL_setCap wsL_setCap) := goodIn_app (goodIn_of _ (by decide +kernel)) ggL_law_L_setCap
set_option maxRecDepth 20000 in
theorem ggL_law_X2_setCap : GoodIn wsL_law wsX2_setCap := goodIn_r _ [148, 29, 129, 130, 131, 5, 132, 91, 92, 93, 94, 133, 134, 135, 136, 89, 23, 95, 96, 97, 98, 99, 412, 413, 414, 415, 416, 417, 418, 419, 420, 421, 422, 423, 424, 425, 426, 427, 428, 429] (by decide +kernel) (by decide +kernel)
set_option maxRecDepth 20000 in
theorem gL_law_X2_setCap : GoodIn wsL_law (wsV RL 95 RX2 yX2_setCap wsX2_setCap) := goodIn_app (goodIn_of _ (by decide +kernel)) ggL_law_X2_setCap
set_option maxRecDepth 20000 in
theorem ggL_law_L_protect : GoodIn wsL_law wsL_protect := goodIn_ca (goodIn_ca (goodIn_ca (goodIn_r _ [151, 107, 41, 42, 152, 153, 154, 2, 155, 156, 157, 158, 114, 115, 116, 117, 118, 119, 14, 52, 53, 54, 55, 56, 120, 121, 122, 123, 47, 48, 124, 18, 430, 431, 432, 433, 434, 435, 436, 437, 438, 439, 440, 441, 442, 408, 409, 410, 411] (by decide +kernel) (by decide +kernel)) (goodIn_sub (fun _ h => List.mem_append_right _ h) (by decide +kernel))) (goodIn_sub (fun _ h => List.mem_append_left _ (List.mem_append_right _ h)) (by decide +kernel))) (goodIn_sub (fun _ h => List.mem_append_left _ (List.mem_append_left _ (List.mem_append_right _ h))) (by decide +kernel))
set_option maxRecDepth 20000 in
theorem gL_law_L_protect : GoodIn wsL_law (va_wsS RL 96 yL_protect wsL_protect) := goodIn_app (goodIn_of _ (by decide +kernel)) ggL_law_L_protect
set_option maxRecDepth 20000 in
theorem ggL_law_X2_protect : GoodIn wsL_law wsX2_protect := goodIn_r _ [162, 163, 30, 31, 129, 130, 131, 5, 132, 91, 92, 93, 94, 133, 134, 135, 136, 89, 23, 95, 96, 97, 98, 99, 412, 413, 414, 415, 416, 417, 418, 419, 420, 421, 422, 423, 424, 425, 426, 427, 428, 429] (by decide +kernel) (by decide +kernel)
set_option maxRecDepth 20000 in
theorem gL_law_X2_protect : GoodIn wsL_law (wsV RL 99 RX2 yX2_protect wsX2_protect) := goodIn_app (goodIn_of _ (by decide +kernel)) ggL_law_X2_protect
set_option maxRecDepth 20000 in
theorem ggL_law_L_setInflation : GoodIn wsL_law wsL_setInflation := goodIn_ca (goodIn_r _ [166, 41, 167, 168, 169, 2, 170, 16, 14, 52, 53, 54, 55, 56, 74, 75, 76, 51, 77, 62, 70, 71, 61, 66, 78, 79, 80, 81, 82, 83, 84, 408, 409, 410, 411, 430, 431, 432, 433, 434, 435, 436, 437, 438, 439, 440, 441, 442] (by decide +kernel) (by decide +kernel)) (goodIn_sub (fun _ h => List.mem_append_left _ (List.mem_append_right _ h)) (by decide +kernel))
set_option maxRecDepth 20000 in
theorem gL_law_L_setInflation : GoodIn wsL_law (va_wsS RL 100 yL_setInflation wsL_setInflation) := goodIn_app (goodIn_of _ (by decide +kernel)) ggL_law_L_setInflation
set_option maxRecDepth 20000 in
theorem ggL_law_X2_setInflation : GoodIn wsL_law wsX2_setInflation := goodIn_r _ [174, 36, 92, 93, 5, 94, 95, 96, 97, 98, 99, 412, 413, 414, 415, 416, 417, 418, 419, 420, 421, 422, 423, 424, 425, 426, 427, 428, 429] (by decide +kernel) (by decide +kernel)
set_option maxRecDepth 20000 in
theorem gL_law_X2_setInflation : GoodIn wsL_law (wsV RL 103 RX2 yX2_setInflation wsX2_setInflation) := goodIn_app (goodIn_of _ (by decide +kernel)) ggL_law_X2_setInflation
set_option maxRecDepth 20000 in
theorem ggL_law_L_die : GoodIn wsL_law wsL_die := goodIn_ca (goodIn_ca (goodIn_ca (goodIn_r _ [177, 107, 41, 42, 178, 179, 180, 2, 181, 47, 48, 18, 182, 79, 80, 81, 183, 114, 115, 116, 117, 118, 119, 14, 52, 53, 54, 55, 56, 408, 409, 410, 411, 430, 431, 432, 433, 434, 435, 436, 437, 438, 439, 440, 441, 442] (by decide +kernel) (by decide +kernel)) (goodIn_sub (fun _ h => List.mem_append_left _ (List.mem_append_left _ (List.mem_append_right _ h))) (by decide +kernel))) (goodIn_sub (fun _ h => List.mem_append_right _ h) (by decide +kernel))) (goodIn_sub (fun _ h => List.mem_append_left _ (List.mem_append_right _ h)) (by decide +kernel))
set_option maxRecDepth 20000 in
theorem gL_law_L_die : GoodIn wsL_law (va_wsS RL 104 yL_die wsL_die) := goodIn_app (goodIn_of _ (by decide +kernel)) ggL_law_L_die
set_option maxRecDepth 20000 in
theorem ggL_law_X2_die : GoodIn wsL_law wsX2_die := goodIn_r _ [187, 89, 32, 129, 130, 131, 5, 132, 91, 188, 189, 190, 92, 93, 94, 95, 96, 97, 98, 99, 412, 413, 414, 415, 416, 417, 418, 419, 420, 421, 422, 423, 424, 425, 426, 427, 428, 429] (by decide +kernel) (by decide +kernel)
set_option maxRecDepth 20000 in
theorem gL_law_X2_die : GoodIn wsL_law (wsV RL 106 RX2 yX2_die wsX2_die) := goodIn_app (goodIn_of _ (by decide +kernel)) ggL_law_X2_die
set_option maxRecDepth 20000 in
theorem ggL_law_L_takeBack : GoodIn wsL_law wsL_takeBack := goodIn_ca (goodIn_ca (goodIn_ca (goodIn_r _ [193, 107, 41, 42, 194, 195, 196, 2, 197, 47, 48, 183, 114, 115, 116, 117, 118, 119, 14, 52, 53, 54, 55, 56, 430, 431, 432, 433, 434, 435, 436, 437, 438, 439, 440, 441, 442, 408, 409, 410, 411] (by decide +kernel) (by decide +kernel)) (goodIn_sub (fun _ h => List.mem_append_left _ (List.mem_append_left _ (List.mem_append_right _ h))) (by decide +kernel))) (goodIn_sub (fun _ h => List.mem_append_right _ h) (by decide +kernel))) (goodIn_sub (fun _ h => List.mem_append_left _ (List.mem_append_right _ h)) (by decide +kernel))
set_option maxRecDepth 20000 in
theorem gL_law_L_takeBack : GoodIn wsL_law (va_wsS RL 107 yL_takeBack wsL_takeBack) := goodIn_app (goodIn_of _ (by decide +kernel)) ggL_law_L_takeBack
set_option maxRecDepth 20000 in
theorem ggL_law_X2_takeBack : GoodIn wsL_law wsX2_takeBack := goodIn_r _ [201, 32, 129, 130, 131, 5, 132, 91, 188, 189, 190, 95, 96, 97, 98, 99, 412, 413, 414, 415, 416, 417, 418, 419, 420, 421, 422, 423, 424, 425, 426, 427, 428, 429] (by decide +kernel) (by decide +kernel)
set_option maxRecDepth 20000 in
theorem gL_law_X2_takeBack : GoodIn wsL_law (wsV RL 109 RX2 yX2_takeBack wsX2_takeBack) := goodIn_app (goodIn_of _ (by decide +kernel)) ggL_law_X2_takeBack
set_option maxRecDepth 20000 in
theorem ggL_law_L_run : GoodIn wsL_law wsL_run := goodIn_ca (goodIn_r _ [204, 42, 205, 206, 207, 2, 208, 47, 48, 18, 14, 209, 210, 211, 51, 212, 73, 213, 214, 80, 215, 72, 216, 217, 218, 219, 220, 221, 222, 223, 61, 224, 225, 226, 227, 69, 63, 65, 64, 228, 229, 230, 231, 232, 70, 233, 234, 235, 236, 82, 83, 84, 78, 79, 81, 237, 238, 239, 240, 67, 68, 408, 409, 410, 411, 430, 431, 432, 433, 434, 435, 436, 437, 438, 439, 440, 441, 442] (by decide +kernel) (by decide +kernel)) (goodIn_sub (fun _ h => List.mem_append_left _ (List.mem_append_left _ (List.mem_append_right _ h))) (by decide +kernel))
set_option maxRecDepth 20000 in
theorem gL_law_L_run : GoodIn wsL_law (va_wsS RL 110 yL_run wsL_run) := goodIn_app (goodIn_of _ (by decide +kernel)) ggL_law_L_run
set_option maxRecDepth 20000 in
theorem ggL_law_X2_run : GoodIn wsL_law wsX2_run := goodIn_r _ [244, 89, 91, 33, 34, 35, 95, 96, 97, 5, 98, 99, 245, 246, 247, 248, 23, 30, 31, 249, 250, 251, 252, 32, 25, 253, 254, 255, 256, 24, 257, 258, 259, 260, 261, 262, 36, 29, 263, 264, 265, 266, 28, 26, 267, 268, 269, 270, 412, 413, 414, 415, 416, 417, 418, 419, 420, 421, 422, 423, 424, 425, 426, 427, 428, 429] (by decide +kernel) (by decide +kernel)
set_option maxRecDepth 20000 in
theorem gL_law_X2_run : GoodIn wsL_law (wsV RL 113 RX2 yX2_run wsX2_run) := goodIn_app (goodIn_of _ (by decide +kernel)) ggL_law_X2_run
set_option maxRecDepth 20000 in
theorem ggL_law_X1_month : GoodIn wsL_law wsX1_month := goodIn_r _ [274, 18, 408, 409, 410, 411] (by decide +kernel) (by decide +kernel)
set_option maxRecDepth 20000 in
theorem gL_law_X1_month : GoodIn wsL_law (wsV RL 114 RX1 yX1_month wsX1_month) := goodIn_app (goodIn_of _ (by decide +kernel)) ggL_law_X1_month
set_option maxRecDepth 20000 in
theorem ggL_law_X2_month : GoodIn wsL_law wsX2_month := goodIn_r _ [278, 99, 89, 412, 413, 414, 415, 416, 417, 418, 419, 420, 421, 422, 423, 424, 425, 426, 427, 428, 429] (by decide +kernel) (by decide +kernel)
set_option maxRecDepth 20000 in
theorem gL_law_X2_month : GoodIn wsL_law (wsV RL 117 RX2 yX2_month wsX2_month) := goodIn_app (goodIn_of _ (by decide +kernel)) ggL_law_X2_month
set_option maxRecDepth 20000 in
theorem ggL_law_L_giveBack : GoodIn wsL_law wsL_giveBack := goodIn_ca (goodIn_ca (goodIn_ca (goodIn_r _ [281, 107, 41, 42, 282, 283, 284, 2, 285, 47, 48, 286, 18, 287, 114, 115, 116, 117, 118, 119, 14, 52, 53, 54, 55, 56, 288, 289, 290, 51, 291, 73, 213, 214, 80, 215, 216, 217, 218, 219, 220, 221, 222, 223, 61, 224, 225, 226, 227, 69, 63, 65, 64, 228, 229, 230, 231, 232, 70, 233, 234, 235, 236, 82, 83, 84, 78, 79, 81, 237, 238, 239, 240, 67, 68, 408, 409, 410, 411, 430, 431, 432, 433, 434, 435, 436, 437, 438, 439, 440, 441, 442] (by decide +kernel) (by decide +kernel)) (goodIn_sub (fun _ h => List.mem_append_left _ (List.mem_append_left _ (List.mem_append_right _ h))) (by decide +kernel))) (goodIn_sub (fun _ h => List.mem_append_right _ h) (by decide +kernel))) (goodIn_sub (fun _ h => List.mem_append_left _ (List.mem_append_right _ h)) (by decide +kernel))
set_option maxRecDepth 20000 in
theorem gL_law_L_giveBack : GoodIn wsL_law (va_wsS RL 118 yL_giveBack wsL_giveBack) := goodIn_app (goodIn_of _ (by decide +kernel)) ggL_law_L_giveBack
set_option maxRecDepth 20000 in
theorem ggL_law_X2_giveBack : GoodIn wsL_law wsX2_giveBack := goodIn_r _ [295, 296, 34, 129, 130, 131, 5, 132, 91, 92, 93, 94, 297, 298, 299, 300, 33, 89, 245, 246, 247, 248, 23, 30, 31, 249, 250, 251, 252, 32, 25, 253, 254, 255, 256, 24, 257, 258, 259, 260, 261, 262, 36, 29, 263, 264, 265, 266, 28, 26, 267, 268, 269, 270, 95, 96, 97, 98, 99, 412, 413, 414, 415, 416, 417, 418, 419, 420, 421, 422, 423, 424, 425, 426, 427, 428, 429] (by decide +kernel) (by decide +kernel)
set_option maxRecDepth 20000 in
theorem gL_law_X2_giveBack : GoodIn wsL_law (wsV RL 120 RX2 yX2_giveBack wsX2_giveBack) := goodIn_app (goodIn_of _ (by decide +kernel)) ggL_law_X2_giveBack
set_option maxRecDepth 20000 in
theorem ggL_law_L_paid : GoodIn wsL_law wsL_paid := goodIn_ca (goodIn_ca (goodIn_r _ [303, 107, 41, 304, 305, 306, 2, 307, 18, 308, 114, 115, 116, 117, 118, 119, 14, 52, 53, 54, 55, 56, 408, 409, 410, 411, 430, 431, 432, 433, 434, 435, 436, 437, 438, 439, 440, 441, 442] (by decide +kernel) (by decide +kernel)) (goodIn_sub (fun _ h => List.mem_append_right _ h) (by decide +kernel))) (goodIn_sub (fun _ h => List.mem_append_left _ (List.mem_append_right _ h)) (by decide +kernel))
set_option maxRecDepth 20000 in
theorem gL_law_L_paid : GoodIn wsL_law (va_wsS RL 121 yL_paid wsL_paid) := goodIn_app (goodIn_of _ (by decide +kernel)) ggL_law_L_paid
set_option maxRecDepth 20000 in
theorem ggL_law_X2_paid : GoodIn wsL_law wsX2_paid := goodIn_r _ [312, 89, 35, 129, 130, 131, 5, 132, 91, 92, 93, 94, 95, 96, 97, 98, 99, 412, 413, 414, 415, 416, 417, 418, 419, 420, 421, 422, 423, 424, 425, 426, 427, 428, 429] (by decide +kernel) (by decide +kernel)
set_option maxRecDepth 20000 in
theorem gL_law_X2_paid : GoodIn wsL_law (wsV RL 123 RX2 yX2_paid wsX2_paid) := goodIn_app (goodIn_of _ (by decide +kernel)) ggL_law_X2_paid
set_option maxRecDepth 20000 in
theorem ggL_law_L_paidInAll : GoodIn wsL_law wsL_paidInAll := goodIn_ca (goodIn_r _ [315, 107, 316, 317, 318, 2, 319, 287, 114, 115, 116, 117, 118, 119, 14, 430, 431, 432, 433, 434, 435, 436, 437, 438, 439, 440, 441, 442, 408, 409, 410, 411] (by decide +kernel) (by decide +kernel)) (goodIn_sub (fun _ h => List.mem_append_right _ h) (by decide +kernel))
set_option maxRecDepth 20000 in
theorem gL_law_L_paidInAll : GoodIn wsL_law (va_wsS RL 124 yL_paidInAll wsL_paidInAll) := goodIn_app (goodIn_of _ (by decide +kernel)) ggL_law_L_paidInAll
set_option maxRecDepth 20000 in
theorem ggL_law_X2_paidInAll : GoodIn wsL_law wsX2_paidInAll := goodIn_r _ [323, 33, 34, 129, 130, 131, 5, 132, 91, 95, 96, 97, 98, 99, 412, 413, 414, 415, 416, 417, 418, 419, 420, 421, 422, 423, 424, 425, 426, 427, 428, 429] (by decide +kernel) (by decide +kernel)
set_option maxRecDepth 20000 in
theorem gL_law_X2_paidInAll : GoodIn wsL_law (wsV RL 127 RX2 yX2_paidInAll wsX2_paidInAll) := goodIn_app (goodIn_of _ (by decide +kernel)) ggL_law_X2_paidInAll
set_option maxRecDepth 20000 in
theorem ggL_law_L_owes : GoodIn wsL_law wsL_owes := goodIn_ca (goodIn_r _ [326, 107, 327, 328, 329, 2, 330, 18, 114, 115, 116, 117, 118, 119, 14, 288, 289, 290, 51, 291, 73, 213, 214, 80, 215, 216, 217, 218, 219, 220, 221, 222, 223, 61, 224, 225, 226, 227, 69, 63, 65, 64, 228, 229, 230, 231, 232, 70, 233, 234, 235, 236, 82, 83, 84, 78, 79, 81, 237, 238, 239, 240, 67, 68, 408, 409, 410, 411, 430, 431, 432, 433, 434, 435, 436, 437, 438, 439, 440, 441, 442] (by decide +kernel) (by decide +kernel)) (goodIn_sub (fun _ h => List.mem_append_right _ h) (by decide +kernel))
set_option maxRecDepth 20000 in
theorem gL_law_L_owes : GoodIn wsL_law (va_wsS RL 128 yL_owes wsL_owes) := goodIn_app (goodIn_of _ (by decide +kernel)) ggL_law_L_owes
set_option maxRecDepth 20000 in
theorem ggL_law_X2_owes : GoodIn wsL_law wsX2_owes := goodIn_r _ [334, 129, 130, 131, 5, 132, 91, 95, 96, 97, 98, 99, 297, 298, 299, 300, 33, 34, 89, 245, 246, 247, 248, 23, 30, 31, 249, 250, 251, 252, 32, 25, 253, 254, 255, 256, 24, 257, 258, 259, 260, 261, 262, 36, 29, 263, 264, 265, 266, 28, 26, 267, 268, 269, 270, 412, 413, 414, 415, 416, 417, 418, 419, 420, 421, 422, 423, 424, 425, 426, 427, 428, 429] (by decide +kernel) (by decide +kernel)
set_option maxRecDepth 20000 in
theorem gL_law_X2_owes : GoodIn wsL_law (wsV RL 130 RX2 yX2_owes wsX2_owes) := goodIn_app (goodIn_of _ (by decide +kernel)) ggL_law_X2_owes
set_option maxRecDepth 20000 in
theorem ggL_law_L_fullAmount : GoodIn wsL_law wsL_fullAmount := goodIn_ca (goodIn_ca (goodIn_r _ [337, 107, 41, 338, 339, 340, 2, 341, 114, 115, 116, 117, 118, 119, 14, 342, 343, 344, 52, 53, 54, 55, 56, 345, 230, 231, 51, 232, 61, 70, 408, 409, 410, 411, 430, 431, 432, 433, 434, 435, 436, 437, 438, 439, 440, 441, 442] (by decide +kernel) (by decide +kernel)) (goodIn_sub (fun _ h => List.mem_append_right _ h) (by decide +kernel))) (goodIn_sub (fun _ h => List.mem_append_left _ (List.mem_append_right _ h)) (by decide +kernel))
set_option maxRecDepth 20000 in
theorem gL_law_L_fullAmount : GoodIn wsL_law (va_wsS RL 131 yL_fullAmount wsL_fullAmount) := goodIn_app (goodIn_of _ (by decide +kernel)) ggL_law_L_fullAmount
set_option maxRecDepth 20000 in
theorem ggL_law_X2_fullAmount : GoodIn wsL_law wsX2_fullAmount := goodIn_r _ [349, 257, 129, 130, 131, 5, 132, 91, 92, 93, 94, 95, 96, 97, 98, 99, 350, 351, 352, 353, 23, 253, 254, 255, 256, 24, 258, 259, 260, 261, 262, 36, 29, 412, 413, 414, 415, 416, 417, 418, 419, 420, 421, 422, 423, 424, 425, 426, 427, 428, 429] (by decide +kernel) (by decide +kernel)
set_option maxRecDepth 20000 in
theorem gL_law_X2_fullAmount : GoodIn wsL_law (wsV RL 133 RX2 yX2_fullAmount wsX2_fullAmount) := goodIn_app (goodIn_of _ (by decide +kernel)) ggL_law_X2_fullAmount
set_option maxRecDepth 20000 in
theorem ggL_law_L_carry : GoodIn wsL_law wsL_carry := goodIn_ca (goodIn_ca (goodIn_r _ [356, 107, 41, 357, 358, 359, 2, 360, 114, 115, 116, 117, 118, 119, 14, 342, 343, 344, 52, 53, 54, 55, 56, 361, 362, 363, 51, 364, 61, 71, 408, 409, 410, 411, 430, 431, 432, 433, 434, 435, 436, 437, 438, 439, 440, 441, 442] (by decide +kernel) (by decide +kernel)) (goodIn_sub (fun _ h => List.mem_append_right _ h) (by decide +kernel))) (goodIn_sub (fun _ h => List.mem_append_left _ (List.mem_append_right _ h)) (by decide +kernel))
set_option maxRecDepth 20000 in
theorem gL_law_L_carry : GoodIn wsL_law (va_wsS RL 134 yL_carry wsL_carry) := goodIn_app (goodIn_of _ (by decide +kernel)) ggL_law_L_carry
set_option maxRecDepth 20000 in
theorem ggL_law_X2_carry : GoodIn wsL_law wsX2_carry := goodIn_r _ [368, 258, 129, 130, 131, 5, 132, 91, 92, 93, 94, 95, 96, 97, 98, 99, 350, 351, 352, 353, 23, 253, 254, 255, 256, 24, 257, 259, 260, 261, 262, 36, 29, 412, 413, 414, 415, 416, 417, 418, 419, 420, 421, 422, 423, 424, 425, 426, 427, 428, 429] (by decide +kernel) (by decide +kernel)
set_option maxRecDepth 20000 in
theorem gL_law_X2_carry : GoodIn wsL_law (wsV RL 136 RX2 yX2_carry wsX2_carry) := goodIn_app (goodIn_of _ (by decide +kernel)) ggL_law_X2_carry
set_option maxRecDepth 20000 in
theorem ggL_law_L_entitled : GoodIn wsL_law wsL_entitled := goodIn_ca (goodIn_ca (goodIn_r _ [371, 107, 41, 372, 373, 374, 2, 375, 114, 115, 116, 117, 118, 119, 14, 342, 343, 344, 52, 53, 54, 55, 56, 376, 377, 378, 51, 379, 224, 225, 226, 227, 61, 69, 63, 65, 64, 228, 229, 230, 231, 232, 70, 233, 234, 235, 236, 82, 83, 80, 84, 78, 79, 81, 237, 238, 239, 240, 67, 68, 213, 214, 215, 220, 221, 222, 223, 408, 409, 410, 411, 430, 431, 432, 433, 434, 435, 436, 437, 438, 439, 440, 441, 442] (by decide +kernel) (by decide +kernel)) (goodIn_sub (fun _ h => List.mem_append_right _ h) (by decide +kernel))) (goodIn_sub (fun _ h => List.mem_append_left _ (List.mem_append_right _ h)) (by decide +kernel))
set_option maxRecDepth 20000 in
theorem gL_law_L_entitled : GoodIn wsL_law (va_wsS RL 137 yL_entitled wsL_entitled) := goodIn_app (goodIn_of _ (by decide +kernel)) ggL_law_L_entitled
set_option maxRecDepth 20000 in
theorem ggL_law_X2_entitled : GoodIn wsL_law wsX2_entitled := goodIn_r _ [383, 129, 130, 131, 5, 132, 91, 92, 93, 94, 95, 96, 97, 98, 99, 245, 246, 247, 248, 23, 30, 31, 249, 250, 251, 252, 32, 25, 253, 254, 255, 256, 24, 257, 258, 259, 260, 261, 262, 36, 29, 263, 264, 265, 266, 28, 26, 267, 268, 269, 270, 412, 413, 414, 415, 416, 417, 418, 419, 420, 421, 422, 423, 424, 425, 426, 427, 428, 429] (by decide +kernel) (by decide +kernel)
set_option maxRecDepth 20000 in
theorem gL_law_X2_entitled : GoodIn wsL_law (wsV RL 139 RX2 yX2_entitled wsX2_entitled) := goodIn_app (goodIn_of _ (by decide +kernel)) ggL_law_X2_entitled
set_option maxRecDepth 20000 in
theorem ggL_law_L_entitledUpTo : GoodIn wsL_law wsL_entitledUpTo := goodIn_ca (goodIn_ca (goodIn_r _ [386, 107, 41, 387, 388, 389, 2, 390, 114, 115, 116, 117, 118, 119, 14, 342, 343, 344, 52, 53, 54, 55, 56, 391, 217, 218, 51, 219, 220, 221, 222, 223, 61, 224, 225, 226, 227, 69, 63, 65, 64, 228, 229, 230, 231, 232, 70, 233, 234, 235, 236, 82, 83, 80, 84, 78, 79, 81, 237, 238, 239, 240, 67, 68, 213, 214, 215, 408, 409, 410, 411, 430, 431, 432, 433, 434, 435, 436, 437, 438, 439, 440, 441, 442] (by decide +kernel) (by decide +kernel)) (goodIn_sub (fun _ h => List.mem_append_right _ h) (by decide +kernel))) (goodIn_sub (fun _ h => List.mem_append_left _ (List.mem_append_right _ h)) (by decide +kernel))
set_option maxRecDepth 20000 in
theorem gL_law_L_entitledUpTo : GoodIn wsL_law (va_wsS RL 140 yL_entitledUpTo wsL_entitledUpTo) := goodIn_app (goodIn_of _ (by decide +kernel)) ggL_law_L_entitledUpTo
set_option maxRecDepth 20000 in
theorem ggL_law_X2_entitledUpTo : GoodIn wsL_law wsX2_entitledUpTo := goodIn_r _ [395, 129, 130, 131, 5, 132, 91, 92, 93, 94, 95, 96, 97, 98, 99, 245, 246, 247, 248, 23, 30, 31, 249, 250, 251, 252, 32, 25, 253, 254, 255, 256, 24, 257, 258, 259, 260, 261, 262, 36, 29, 263, 264, 265, 266, 28, 26, 267, 268, 269, 270, 412, 413, 414, 415, 416, 417, 418, 419, 420, 421, 422, 423, 424, 425, 426, 427, 428, 429] (by decide +kernel) (by decide +kernel)
set_option maxRecDepth 20000 in
theorem gL_law_X2_entitledUpTo : GoodIn wsL_law (wsV RL 142 RX2 yX2_entitledUpTo wsX2_entitledUpTo) := goodIn_app (goodIn_of _ (by decide +kernel)) ggL_law_X2_entitledUpTo
set_option maxRecDepth 20000 in
theorem ggL_law_L_protection : GoodIn wsL_law wsL_protection := goodIn_ca (goodIn_r _ [398, 107, 399, 400, 401, 2, 402, 114, 115, 116, 117, 118, 119, 14, 403, 238, 239, 51, 240, 67, 68, 228, 213, 214, 80, 215, 233, 234, 235, 236, 69, 82, 83, 84, 63, 78, 79, 81, 220, 221, 222, 223, 61, 224, 225, 226, 227, 65, 64, 229, 230, 231, 232, 70, 408, 409, 410, 411, 430, 431, 432, 433, 434, 435, 436, 437, 438, 439, 440, 441, 442] (by decide +kernel) (by decide +kernel)) (goodIn_sub (fun _ h => List.mem_append_right _ h) (by decide +kernel))
set_option maxRecDepth 20000 in
theorem gL_law_L_protection : GoodIn wsL_law (va_wsS RL 143 yL_protection wsL_protection) := goodIn_app (goodIn_of _ (by decide +kernel)) ggL_law_L_protection
set_option maxRecDepth 20000 in
theorem ggL_law_X2_protection : GoodIn wsL_law wsX2_protection := goodIn_r _ [407, 30, 31, 129, 130, 131, 5, 132, 91, 95, 96, 97, 98, 99, 249, 250, 251, 252, 32, 23, 25, 245, 246, 247, 248, 253, 254, 255, 256, 24, 257, 258, 259, 260, 261, 262, 36, 29, 263, 264, 265, 266, 28, 26, 267, 268, 269, 270, 412, 413, 414, 415, 416, 417, 418, 419, 420, 421, 422, 423, 424, 425, 426, 427, 428, 429] (by decide +kernel) (by decide +kernel)
set_option maxRecDepth 20000 in
theorem gL_law_X2_protection : GoodIn wsL_law (wsV RL 145 RX2 yX2_protection wsX2_protection) := goodIn_app (goodIn_of _ (by decide +kernel)) ggL_law_X2_protection
theorem dL_law_0 : decode cL_law 0 = .ok (.new 8, 3) := by decide +kernel
theorem dL_law_3 : decode cL_law 3 = .ok (.dup, 1) := by decide +kernel
theorem dL_law_4 : decode cL_law 4 = .ok (.invokespecial 74, 3) := by decide +kernel
theorem dL_law_7 : decode cL_law 7 = .ok (.astore_n 1, 1) := by decide +kernel
theorem dL_law_8 : decode cL_law 8 = .ok (.new 75, 3) := by decide +kernel
theorem dL_law_11 : decode cL_law 11 = .ok (.dup, 1) := by decide +kernel
theorem dL_law_12 : decode cL_law 12 = .ok (.invokespecial 77, 3) := by decide +kernel
theorem dL_law_15 : decode cL_law 15 = .ok (.astore_n 2, 1) := by decide +kernel
theorem dL_law_16 : decode cL_law 16 = .ok (.iconst 1, 1) := by decide +kernel
theorem dL_law_17 : decode cL_law 17 = .ok (.newarray .long, 2) := by decide +kernel
theorem dL_law_19 : decode cL_law 19 = .ok (.astore_n 3, 1) := by decide +kernel
theorem dL_law_20 : decode cL_law 20 = .ok (.iconst 0, 1) := by decide +kernel
theorem dL_law_21 : decode cL_law 21 = .ok (.istore 4, 2) := by decide +kernel
theorem dL_law_23 : decode cL_law 23 = .ok (.iload 4, 2) := by decide +kernel
theorem dL_law_25 : decode cL_law 25 = .ok (.aload_n 0, 1) := by decide +kernel
theorem dL_law_26 : decode cL_law 26 = .ok (.arraylength, 1) := by decide +kernel
theorem dL_law_27 : decode cL_law 27 = .ok (.iconst 4, 1) := by decide +kernel
theorem dL_law_28 : decode cL_law 28 = .ok (.isub, 1) := by decide +kernel
theorem dL_law_29 : decode cL_law 29 = .ok (.if_icmp .gt 1186, 3) := by decide +kernel
theorem dL_law_32 : decode cL_law 32 = .ok (.aload_n 0, 1) := by decide +kernel
theorem dL_law_33 : decode cL_law 33 = .ok (.iload 4, 2) := by decide +kernel
theorem dL_law_35 : decode cL_law 35 = .ok (.iaload, 1) := by decide +kernel
theorem dL_law_36 : decode cL_law 36 = .ok (.bipush 31, 2) := by decide +kernel
theorem dL_law_38 : decode cL_law 38 = .ok (.iand, 1) := by decide +kernel
theorem dL_law_39 : decode cL_law 39 = .ok (.tableswitch 1170 0 17 #[85, 165, 241, 289, 349, 417, 477, 545, 588, 601, 668, 735, 790, 845, 913, 981, 1048, 1115], 85) := by decide +kernel
theorem dL_law_124 : decode cL_law 124 = .ok (.aload_n 1, 1) := by decide +kernel
theorem dL_law_125 : decode cL_law 125 = .ok (.aload_n 0, 1) := by decide +kernel
theorem dL_law_126 : decode cL_law 126 = .ok (.iload 4, 2) := by decide +kernel
theorem dL_law_128 : decode cL_law 128 = .ok (.iconst 1, 1) := by decide +kernel
theorem dL_law_129 : decode cL_law 129 = .ok (.iadd, 1) := by decide +kernel
theorem dL_law_130 : decode cL_law 130 = .ok (.iaload, 1) := by decide +kernel
theorem dL_law_131 : decode cL_law 131 = .ok (.aload_n 0, 1) := by decide +kernel
theorem dL_law_132 : decode cL_law 132 = .ok (.iload 4, 2) := by decide +kernel
theorem dL_law_134 : decode cL_law 134 = .ok (.iconst 2, 1) := by decide +kernel
theorem dL_law_135 : decode cL_law 135 = .ok (.iadd, 1) := by decide +kernel
theorem dL_law_136 : decode cL_law 136 = .ok (.iaload, 1) := by decide +kernel
theorem dL_law_137 : decode cL_law 137 = .ok (.aload_n 0, 1) := by decide +kernel
theorem dL_law_138 : decode cL_law 138 = .ok (.iload 4, 2) := by decide +kernel
theorem dL_law_140 : decode cL_law 140 = .ok (.iconst 3, 1) := by decide +kernel
theorem dL_law_141 : decode cL_law 141 = .ok (.iadd, 1) := by decide +kernel
theorem dL_law_142 : decode cL_law 142 = .ok (.iaload, 1) := by decide +kernel
theorem dL_law_143 : decode cL_law 143 = .ok (.aload_n 3, 1) := by decide +kernel
theorem dL_law_144 : decode cL_law 144 = .ok (.invokestatic 78, 3) := by decide +kernel
theorem dL_law_147 : decode cL_law 147 = .ok (.istore 5, 2) := by decide +kernel
theorem dL_law_149 : decode cL_law 149 = .ok (.aload_n 2, 1) := by decide +kernel
theorem dL_law_150 : decode cL_law 150 = .ok (.aload_n 0, 1) := by decide +kernel
theorem dL_law_151 : decode cL_law 151 = .ok (.iload 4, 2) := by decide +kernel
theorem dL_law_153 : decode cL_law 153 = .ok (.iconst 1, 1) := by decide +kernel
theorem dL_law_154 : decode cL_law 154 = .ok (.iadd, 1) := by decide +kernel
theorem dL_law_155 : decode cL_law 155 = .ok (.iaload, 1) := by decide +kernel
theorem dL_law_156 : decode cL_law 156 = .ok (.aload_n 0, 1) := by decide +kernel
theorem dL_law_157 : decode cL_law 157 = .ok (.iload 4, 2) := by decide +kernel
theorem dL_law_159 : decode cL_law 159 = .ok (.iconst 2, 1) := by decide +kernel
theorem dL_law_160 : decode cL_law 160 = .ok (.iadd, 1) := by decide +kernel
theorem dL_law_161 : decode cL_law 161 = .ok (.iaload, 1) := by decide +kernel
theorem dL_law_162 : decode cL_law 162 = .ok (.aload_n 0, 1) := by decide +kernel
theorem dL_law_163 : decode cL_law 163 = .ok (.iload 4, 2) := by decide +kernel
theorem dL_law_165 : decode cL_law 165 = .ok (.iconst 3, 1) := by decide +kernel
theorem dL_law_166 : decode cL_law 166 = .ok (.iadd, 1) := by decide +kernel
theorem dL_law_167 : decode cL_law 167 = .ok (.iaload, 1) := by decide +kernel
theorem dL_law_168 : decode cL_law 168 = .ok (.invokevirtual 83, 3) := by decide +kernel
theorem dL_law_171 : decode cL_law 171 = .ok (.istore 6, 2) := by decide +kernel
theorem dL_law_173 : decode cL_law 173 = .ok (.aload_n 2, 1) := by decide +kernel
theorem dL_law_174 : decode cL_law 174 = .ok (.invokevirtual 84, 3) := by decide +kernel
theorem dL_law_177 : decode cL_law 177 = .ok (.iload 5, 2) := by decide +kernel
theorem dL_law_179 : decode cL_law 179 = .ok (.if_icmp .eq 5, 3) := by decide +kernel
theorem dL_law_182 : decode cL_law 182 = .ok (.iconst 0, 1) := by decide +kernel
theorem dL_law_183 : decode cL_law 183 = .ok (.ireturn, 1) := by decide +kernel
theorem dL_law_184 : decode cL_law 184 = .ok (.iload 5, 2) := by decide +kernel
theorem dL_law_186 : decode cL_law 186 = .ok (.ifCond .ne 15, 3) := by decide +kernel
theorem dL_law_189 : decode cL_law 189 = .ok (.aload_n 3, 1) := by decide +kernel
theorem dL_law_190 : decode cL_law 190 = .ok (.iconst 0, 1) := by decide +kernel
theorem dL_law_191 : decode cL_law 191 = .ok (.laload, 1) := by decide +kernel
theorem dL_law_192 : decode cL_law 192 = .ok (.iload 6, 2) := by decide +kernel
theorem dL_law_194 : decode cL_law 194 = .ok (.i2l, 1) := by decide +kernel
theorem dL_law_195 : decode cL_law 195 = .ok (.lcmp, 1) := by decide +kernel
theorem dL_law_196 : decode cL_law 196 = .ok (.ifCond .eq 5, 3) := by decide +kernel
theorem dL_law_199 : decode cL_law 199 = .ok (.iconst 0, 1) := by decide +kernel
theorem dL_law_200 : decode cL_law 200 = .ok (.ireturn, 1) := by decide +kernel
theorem dL_law_201 : decode cL_law 201 = .ok (.goto 1008, 3) := by decide +kernel
theorem dL_law_204 : decode cL_law 204 = .ok (.aload_n 1, 1) := by decide +kernel
theorem dL_law_205 : decode cL_law 205 = .ok (.aload_n 0, 1) := by decide +kernel
theorem dL_law_206 : decode cL_law 206 = .ok (.iload 4, 2) := by decide +kernel
theorem dL_law_208 : decode cL_law 208 = .ok (.iconst 1, 1) := by decide +kernel
theorem dL_law_209 : decode cL_law 209 = .ok (.iadd, 1) := by decide +kernel
theorem dL_law_210 : decode cL_law 210 = .ok (.iaload, 1) := by decide +kernel
theorem dL_law_211 : decode cL_law 211 = .ok (.aload_n 0, 1) := by decide +kernel
theorem dL_law_212 : decode cL_law 212 = .ok (.iload 4, 2) := by decide +kernel
theorem dL_law_214 : decode cL_law 214 = .ok (.iconst 2, 1) := by decide +kernel
theorem dL_law_215 : decode cL_law 215 = .ok (.iadd, 1) := by decide +kernel
theorem dL_law_216 : decode cL_law 216 = .ok (.iaload, 1) := by decide +kernel
theorem dL_law_217 : decode cL_law 217 = .ok (.aload_n 0, 1) := by decide +kernel
theorem dL_law_218 : decode cL_law 218 = .ok (.iload 4, 2) := by decide +kernel
theorem dL_law_220 : decode cL_law 220 = .ok (.iconst 3, 1) := by decide +kernel
theorem dL_law_221 : decode cL_law 221 = .ok (.iadd, 1) := by decide +kernel
theorem dL_law_222 : decode cL_law 222 = .ok (.iaload, 1) := by decide +kernel
theorem dL_law_223 : decode cL_law 223 = .ok (.ifCond .eq 7, 3) := by decide +kernel
theorem dL_law_226 : decode cL_law 226 = .ok (.iconst 1, 1) := by decide +kernel
theorem dL_law_227 : decode cL_law 227 = .ok (.goto 4, 3) := by decide +kernel
theorem dL_law_230 : decode cL_law 230 = .ok (.iconst 0, 1) := by decide +kernel
theorem dL_law_231 : decode cL_law 231 = .ok (.invokestatic 88, 3) := by decide +kernel
theorem dL_law_234 : decode cL_law 234 = .ok (.istore 5, 2) := by decide +kernel
theorem dL_law_236 : decode cL_law 236 = .ok (.aload_n 2, 1) := by decide +kernel
theorem dL_law_237 : decode cL_law 237 = .ok (.aload_n 0, 1) := by decide +kernel
theorem dL_law_238 : decode cL_law 238 = .ok (.iload 4, 2) := by decide +kernel
theorem dL_law_240 : decode cL_law 240 = .ok (.iconst 1, 1) := by decide +kernel
theorem dL_law_241 : decode cL_law 241 = .ok (.iadd, 1) := by decide +kernel
theorem dL_law_242 : decode cL_law 242 = .ok (.iaload, 1) := by decide +kernel
theorem dL_law_243 : decode cL_law 243 = .ok (.aload_n 0, 1) := by decide +kernel
theorem dL_law_244 : decode cL_law 244 = .ok (.iload 4, 2) := by decide +kernel
theorem dL_law_246 : decode cL_law 246 = .ok (.iconst 2, 1) := by decide +kernel
theorem dL_law_247 : decode cL_law 247 = .ok (.iadd, 1) := by decide +kernel
theorem dL_law_248 : decode cL_law 248 = .ok (.iaload, 1) := by decide +kernel
theorem dL_law_249 : decode cL_law 249 = .ok (.aload_n 0, 1) := by decide +kernel
theorem dL_law_250 : decode cL_law 250 = .ok (.iload 4, 2) := by decide +kernel
theorem dL_law_252 : decode cL_law 252 = .ok (.iconst 3, 1) := by decide +kernel
theorem dL_law_253 : decode cL_law 253 = .ok (.iadd, 1) := by decide +kernel
theorem dL_law_254 : decode cL_law 254 = .ok (.iaload, 1) := by decide +kernel
theorem dL_law_255 : decode cL_law 255 = .ok (.ifCond .eq 7, 3) := by decide +kernel
theorem dL_law_258 : decode cL_law 258 = .ok (.iconst 1, 1) := by decide +kernel
theorem dL_law_259 : decode cL_law 259 = .ok (.goto 4, 3) := by decide +kernel
theorem dL_law_262 : decode cL_law 262 = .ok (.iconst 0, 1) := by decide +kernel
theorem dL_law_263 : decode cL_law 263 = .ok (.invokevirtual 91, 3) := by decide +kernel
theorem dL_law_266 : decode cL_law 266 = .ok (.aload_n 2, 1) := by decide +kernel
theorem dL_law_267 : decode cL_law 267 = .ok (.invokevirtual 84, 3) := by decide +kernel
theorem dL_law_270 : decode cL_law 270 = .ok (.iload 5, 2) := by decide +kernel
theorem dL_law_272 : decode cL_law 272 = .ok (.if_icmp .eq 5, 3) := by decide +kernel
theorem dL_law_275 : decode cL_law 275 = .ok (.iconst 0, 1) := by decide +kernel
theorem dL_law_276 : decode cL_law 276 = .ok (.ireturn, 1) := by decide +kernel
theorem dL_law_277 : decode cL_law 277 = .ok (.goto 932, 3) := by decide +kernel
theorem dL_law_280 : decode cL_law 280 = .ok (.aload_n 1, 1) := by decide +kernel
theorem dL_law_281 : decode cL_law 281 = .ok (.aload_n 0, 1) := by decide +kernel
theorem dL_law_282 : decode cL_law 282 = .ok (.iload 4, 2) := by decide +kernel
theorem dL_law_284 : decode cL_law 284 = .ok (.iconst 1, 1) := by decide +kernel
theorem dL_law_285 : decode cL_law 285 = .ok (.iadd, 1) := by decide +kernel
theorem dL_law_286 : decode cL_law 286 = .ok (.iaload, 1) := by decide +kernel
theorem dL_law_287 : decode cL_law 287 = .ok (.aload_n 0, 1) := by decide +kernel
theorem dL_law_288 : decode cL_law 288 = .ok (.iload 4, 2) := by decide +kernel
theorem dL_law_290 : decode cL_law 290 = .ok (.iconst 2, 1) := by decide +kernel
theorem dL_law_291 : decode cL_law 291 = .ok (.iadd, 1) := by decide +kernel
theorem dL_law_292 : decode cL_law 292 = .ok (.iaload, 1) := by decide +kernel
theorem dL_law_293 : decode cL_law 293 = .ok (.invokestatic 92, 3) := by decide +kernel
theorem dL_law_296 : decode cL_law 296 = .ok (.istore 5, 2) := by decide +kernel
theorem dL_law_298 : decode cL_law 298 = .ok (.aload_n 2, 1) := by decide +kernel
theorem dL_law_299 : decode cL_law 299 = .ok (.aload_n 0, 1) := by decide +kernel
theorem dL_law_300 : decode cL_law 300 = .ok (.iload 4, 2) := by decide +kernel
theorem dL_law_302 : decode cL_law 302 = .ok (.iconst 1, 1) := by decide +kernel
theorem dL_law_303 : decode cL_law 303 = .ok (.iadd, 1) := by decide +kernel
theorem dL_law_304 : decode cL_law 304 = .ok (.iaload, 1) := by decide +kernel
theorem dL_law_305 : decode cL_law 305 = .ok (.aload_n 0, 1) := by decide +kernel
theorem dL_law_306 : decode cL_law 306 = .ok (.iload 4, 2) := by decide +kernel
theorem dL_law_308 : decode cL_law 308 = .ok (.iconst 2, 1) := by decide +kernel
theorem dL_law_309 : decode cL_law 309 = .ok (.iadd, 1) := by decide +kernel
theorem dL_law_310 : decode cL_law 310 = .ok (.iaload, 1) := by decide +kernel
theorem dL_law_311 : decode cL_law 311 = .ok (.invokevirtual 95, 3) := by decide +kernel
theorem dL_law_314 : decode cL_law 314 = .ok (.aload_n 2, 1) := by decide +kernel
theorem dL_law_315 : decode cL_law 315 = .ok (.invokevirtual 84, 3) := by decide +kernel
theorem dL_law_318 : decode cL_law 318 = .ok (.iload 5, 2) := by decide +kernel
theorem dL_law_320 : decode cL_law 320 = .ok (.if_icmp .eq 5, 3) := by decide +kernel
theorem dL_law_323 : decode cL_law 323 = .ok (.iconst 0, 1) := by decide +kernel
theorem dL_law_324 : decode cL_law 324 = .ok (.ireturn, 1) := by decide +kernel
theorem dL_law_325 : decode cL_law 325 = .ok (.goto 884, 3) := by decide +kernel
theorem dL_law_328 : decode cL_law 328 = .ok (.aload_n 1, 1) := by decide +kernel
theorem dL_law_329 : decode cL_law 329 = .ok (.aload_n 0, 1) := by decide +kernel
theorem dL_law_330 : decode cL_law 330 = .ok (.iload 4, 2) := by decide +kernel
theorem dL_law_332 : decode cL_law 332 = .ok (.iconst 1, 1) := by decide +kernel
theorem dL_law_333 : decode cL_law 333 = .ok (.iadd, 1) := by decide +kernel
theorem dL_law_334 : decode cL_law 334 = .ok (.iaload, 1) := by decide +kernel
theorem dL_law_335 : decode cL_law 335 = .ok (.aload_n 0, 1) := by decide +kernel
theorem dL_law_336 : decode cL_law 336 = .ok (.iload 4, 2) := by decide +kernel
theorem dL_law_338 : decode cL_law 338 = .ok (.iconst 2, 1) := by decide +kernel
theorem dL_law_339 : decode cL_law 339 = .ok (.iadd, 1) := by decide +kernel
theorem dL_law_340 : decode cL_law 340 = .ok (.iaload, 1) := by decide +kernel
theorem dL_law_341 : decode cL_law 341 = .ok (.aload_n 0, 1) := by decide +kernel
theorem dL_law_342 : decode cL_law 342 = .ok (.iload 4, 2) := by decide +kernel
theorem dL_law_344 : decode cL_law 344 = .ok (.iconst 3, 1) := by decide +kernel
theorem dL_law_345 : decode cL_law 345 = .ok (.iadd, 1) := by decide +kernel
theorem dL_law_346 : decode cL_law 346 = .ok (.iaload, 1) := by decide +kernel
theorem dL_law_347 : decode cL_law 347 = .ok (.invokestatic 96, 3) := by decide +kernel
theorem dL_law_350 : decode cL_law 350 = .ok (.istore 5, 2) := by decide +kernel
theorem dL_law_352 : decode cL_law 352 = .ok (.aload_n 2, 1) := by decide +kernel
theorem dL_law_353 : decode cL_law 353 = .ok (.aload_n 0, 1) := by decide +kernel
theorem dL_law_354 : decode cL_law 354 = .ok (.iload 4, 2) := by decide +kernel
theorem dL_law_356 : decode cL_law 356 = .ok (.iconst 1, 1) := by decide +kernel
theorem dL_law_357 : decode cL_law 357 = .ok (.iadd, 1) := by decide +kernel
theorem dL_law_358 : decode cL_law 358 = .ok (.iaload, 1) := by decide +kernel
theorem dL_law_359 : decode cL_law 359 = .ok (.aload_n 0, 1) := by decide +kernel
theorem dL_law_360 : decode cL_law 360 = .ok (.iload 4, 2) := by decide +kernel
theorem dL_law_362 : decode cL_law 362 = .ok (.iconst 2, 1) := by decide +kernel
theorem dL_law_363 : decode cL_law 363 = .ok (.iadd, 1) := by decide +kernel
theorem dL_law_364 : decode cL_law 364 = .ok (.iaload, 1) := by decide +kernel
theorem dL_law_365 : decode cL_law 365 = .ok (.aload_n 0, 1) := by decide +kernel
theorem dL_law_366 : decode cL_law 366 = .ok (.iload 4, 2) := by decide +kernel
theorem dL_law_368 : decode cL_law 368 = .ok (.iconst 3, 1) := by decide +kernel
theorem dL_law_369 : decode cL_law 369 = .ok (.iadd, 1) := by decide +kernel
theorem dL_law_370 : decode cL_law 370 = .ok (.iaload, 1) := by decide +kernel
theorem dL_law_371 : decode cL_law 371 = .ok (.invokevirtual 99, 3) := by decide +kernel
theorem dL_law_374 : decode cL_law 374 = .ok (.aload_n 2, 1) := by decide +kernel
theorem dL_law_375 : decode cL_law 375 = .ok (.invokevirtual 84, 3) := by decide +kernel
theorem dL_law_378 : decode cL_law 378 = .ok (.iload 5, 2) := by decide +kernel
theorem dL_law_380 : decode cL_law 380 = .ok (.if_icmp .eq 5, 3) := by decide +kernel
theorem dL_law_383 : decode cL_law 383 = .ok (.iconst 0, 1) := by decide +kernel
theorem dL_law_384 : decode cL_law 384 = .ok (.ireturn, 1) := by decide +kernel
theorem dL_law_385 : decode cL_law 385 = .ok (.goto 824, 3) := by decide +kernel
theorem dL_law_388 : decode cL_law 388 = .ok (.aload_n 1, 1) := by decide +kernel
theorem dL_law_389 : decode cL_law 389 = .ok (.aload_n 0, 1) := by decide +kernel
theorem dL_law_390 : decode cL_law 390 = .ok (.iload 4, 2) := by decide +kernel
theorem dL_law_392 : decode cL_law 392 = .ok (.iconst 1, 1) := by decide +kernel
theorem dL_law_393 : decode cL_law 393 = .ok (.iadd, 1) := by decide +kernel
theorem dL_law_394 : decode cL_law 394 = .ok (.iaload, 1) := by decide +kernel
theorem dL_law_395 : decode cL_law 395 = .ok (.aload_n 0, 1) := by decide +kernel
theorem dL_law_396 : decode cL_law 396 = .ok (.iload 4, 2) := by decide +kernel
theorem dL_law_398 : decode cL_law 398 = .ok (.iconst 2, 1) := by decide +kernel
theorem dL_law_399 : decode cL_law 399 = .ok (.iadd, 1) := by decide +kernel
theorem dL_law_400 : decode cL_law 400 = .ok (.iaload, 1) := by decide +kernel
theorem dL_law_401 : decode cL_law 401 = .ok (.aload_n 3, 1) := by decide +kernel
theorem dL_law_402 : decode cL_law 402 = .ok (.invokestatic 100, 3) := by decide +kernel
theorem dL_law_405 : decode cL_law 405 = .ok (.istore 5, 2) := by decide +kernel
theorem dL_law_407 : decode cL_law 407 = .ok (.aload_n 2, 1) := by decide +kernel
theorem dL_law_408 : decode cL_law 408 = .ok (.aload_n 0, 1) := by decide +kernel
theorem dL_law_409 : decode cL_law 409 = .ok (.iload 4, 2) := by decide +kernel
theorem dL_law_411 : decode cL_law 411 = .ok (.iconst 1, 1) := by decide +kernel
theorem dL_law_412 : decode cL_law 412 = .ok (.iadd, 1) := by decide +kernel
theorem dL_law_413 : decode cL_law 413 = .ok (.iaload, 1) := by decide +kernel
theorem dL_law_414 : decode cL_law 414 = .ok (.aload_n 0, 1) := by decide +kernel
theorem dL_law_415 : decode cL_law 415 = .ok (.iload 4, 2) := by decide +kernel
theorem dL_law_417 : decode cL_law 417 = .ok (.iconst 2, 1) := by decide +kernel
theorem dL_law_418 : decode cL_law 418 = .ok (.iadd, 1) := by decide +kernel
theorem dL_law_419 : decode cL_law 419 = .ok (.iaload, 1) := by decide +kernel
theorem dL_law_420 : decode cL_law 420 = .ok (.invokevirtual 103, 3) := by decide +kernel
theorem dL_law_423 : decode cL_law 423 = .ok (.istore 6, 2) := by decide +kernel
theorem dL_law_425 : decode cL_law 425 = .ok (.aload_n 2, 1) := by decide +kernel
theorem dL_law_426 : decode cL_law 426 = .ok (.invokevirtual 84, 3) := by decide +kernel
theorem dL_law_429 : decode cL_law 429 = .ok (.iload 5, 2) := by decide +kernel
theorem dL_law_431 : decode cL_law 431 = .ok (.if_icmp .eq 5, 3) := by decide +kernel
theorem dL_law_434 : decode cL_law 434 = .ok (.iconst 0, 1) := by decide +kernel
theorem dL_law_435 : decode cL_law 435 = .ok (.ireturn, 1) := by decide +kernel
theorem dL_law_436 : decode cL_law 436 = .ok (.iload 5, 2) := by decide +kernel
theorem dL_law_438 : decode cL_law 438 = .ok (.ifCond .ne 15, 3) := by decide +kernel
theorem dL_law_441 : decode cL_law 441 = .ok (.aload_n 3, 1) := by decide +kernel
theorem dL_law_442 : decode cL_law 442 = .ok (.iconst 0, 1) := by decide +kernel
theorem dL_law_443 : decode cL_law 443 = .ok (.laload, 1) := by decide +kernel
theorem dL_law_444 : decode cL_law 444 = .ok (.iload 6, 2) := by decide +kernel
theorem dL_law_446 : decode cL_law 446 = .ok (.i2l, 1) := by decide +kernel
theorem dL_law_447 : decode cL_law 447 = .ok (.lcmp, 1) := by decide +kernel
theorem dL_law_448 : decode cL_law 448 = .ok (.ifCond .eq 5, 3) := by decide +kernel
theorem dL_law_451 : decode cL_law 451 = .ok (.iconst 0, 1) := by decide +kernel
theorem dL_law_452 : decode cL_law 452 = .ok (.ireturn, 1) := by decide +kernel
theorem dL_law_453 : decode cL_law 453 = .ok (.goto 756, 3) := by decide +kernel
theorem dL_law_456 : decode cL_law 456 = .ok (.aload_n 1, 1) := by decide +kernel
theorem dL_law_457 : decode cL_law 457 = .ok (.aload_n 0, 1) := by decide +kernel
theorem dL_law_458 : decode cL_law 458 = .ok (.iload 4, 2) := by decide +kernel
theorem dL_law_460 : decode cL_law 460 = .ok (.iconst 1, 1) := by decide +kernel
theorem dL_law_461 : decode cL_law 461 = .ok (.iadd, 1) := by decide +kernel
theorem dL_law_462 : decode cL_law 462 = .ok (.iaload, 1) := by decide +kernel
theorem dL_law_463 : decode cL_law 463 = .ok (.aload_n 0, 1) := by decide +kernel
theorem dL_law_464 : decode cL_law 464 = .ok (.iload 4, 2) := by decide +kernel
theorem dL_law_466 : decode cL_law 466 = .ok (.iconst 2, 1) := by decide +kernel
theorem dL_law_467 : decode cL_law 467 = .ok (.iadd, 1) := by decide +kernel
theorem dL_law_468 : decode cL_law 468 = .ok (.iaload, 1) := by decide +kernel
theorem dL_law_469 : decode cL_law 469 = .ok (.aload_n 0, 1) := by decide +kernel
theorem dL_law_470 : decode cL_law 470 = .ok (.iload 4, 2) := by decide +kernel
theorem dL_law_472 : decode cL_law 472 = .ok (.iconst 3, 1) := by decide +kernel
theorem dL_law_473 : decode cL_law 473 = .ok (.iadd, 1) := by decide +kernel
theorem dL_law_474 : decode cL_law 474 = .ok (.iaload, 1) := by decide +kernel
theorem dL_law_475 : decode cL_law 475 = .ok (.invokestatic 104, 3) := by decide +kernel
theorem dL_law_478 : decode cL_law 478 = .ok (.istore 5, 2) := by decide +kernel
theorem dL_law_480 : decode cL_law 480 = .ok (.aload_n 2, 1) := by decide +kernel
theorem dL_law_481 : decode cL_law 481 = .ok (.aload_n 0, 1) := by decide +kernel
theorem dL_law_482 : decode cL_law 482 = .ok (.iload 4, 2) := by decide +kernel
theorem dL_law_484 : decode cL_law 484 = .ok (.iconst 1, 1) := by decide +kernel
theorem dL_law_485 : decode cL_law 485 = .ok (.iadd, 1) := by decide +kernel
theorem dL_law_486 : decode cL_law 486 = .ok (.iaload, 1) := by decide +kernel
theorem dL_law_487 : decode cL_law 487 = .ok (.aload_n 0, 1) := by decide +kernel
theorem dL_law_488 : decode cL_law 488 = .ok (.iload 4, 2) := by decide +kernel
theorem dL_law_490 : decode cL_law 490 = .ok (.iconst 2, 1) := by decide +kernel
theorem dL_law_491 : decode cL_law 491 = .ok (.iadd, 1) := by decide +kernel
theorem dL_law_492 : decode cL_law 492 = .ok (.iaload, 1) := by decide +kernel
theorem dL_law_493 : decode cL_law 493 = .ok (.aload_n 0, 1) := by decide +kernel
theorem dL_law_494 : decode cL_law 494 = .ok (.iload 4, 2) := by decide +kernel
theorem dL_law_496 : decode cL_law 496 = .ok (.iconst 3, 1) := by decide +kernel
theorem dL_law_497 : decode cL_law 497 = .ok (.iadd, 1) := by decide +kernel
theorem dL_law_498 : decode cL_law 498 = .ok (.iaload, 1) := by decide +kernel
theorem dL_law_499 : decode cL_law 499 = .ok (.invokevirtual 106, 3) := by decide +kernel
theorem dL_law_502 : decode cL_law 502 = .ok (.aload_n 2, 1) := by decide +kernel
theorem dL_law_503 : decode cL_law 503 = .ok (.invokevirtual 84, 3) := by decide +kernel
theorem dL_law_506 : decode cL_law 506 = .ok (.iload 5, 2) := by decide +kernel
theorem dL_law_508 : decode cL_law 508 = .ok (.if_icmp .eq 5, 3) := by decide +kernel
theorem dL_law_511 : decode cL_law 511 = .ok (.iconst 0, 1) := by decide +kernel
theorem dL_law_512 : decode cL_law 512 = .ok (.ireturn, 1) := by decide +kernel
theorem dL_law_513 : decode cL_law 513 = .ok (.goto 696, 3) := by decide +kernel
theorem dL_law_516 : decode cL_law 516 = .ok (.aload_n 1, 1) := by decide +kernel
theorem dL_law_517 : decode cL_law 517 = .ok (.aload_n 0, 1) := by decide +kernel
theorem dL_law_518 : decode cL_law 518 = .ok (.iload 4, 2) := by decide +kernel
theorem dL_law_520 : decode cL_law 520 = .ok (.iconst 1, 1) := by decide +kernel
theorem dL_law_521 : decode cL_law 521 = .ok (.iadd, 1) := by decide +kernel
theorem dL_law_522 : decode cL_law 522 = .ok (.iaload, 1) := by decide +kernel
theorem dL_law_523 : decode cL_law 523 = .ok (.aload_n 0, 1) := by decide +kernel
theorem dL_law_524 : decode cL_law 524 = .ok (.iload 4, 2) := by decide +kernel
theorem dL_law_526 : decode cL_law 526 = .ok (.iconst 2, 1) := by decide +kernel
theorem dL_law_527 : decode cL_law 527 = .ok (.iadd, 1) := by decide +kernel
theorem dL_law_528 : decode cL_law 528 = .ok (.iaload, 1) := by decide +kernel
theorem dL_law_529 : decode cL_law 529 = .ok (.aload_n 3, 1) := by decide +kernel
theorem dL_law_530 : decode cL_law 530 = .ok (.invokestatic 107, 3) := by decide +kernel
theorem dL_law_533 : decode cL_law 533 = .ok (.istore 5, 2) := by decide +kernel
theorem dL_law_535 : decode cL_law 535 = .ok (.aload_n 2, 1) := by decide +kernel
theorem dL_law_536 : decode cL_law 536 = .ok (.aload_n 0, 1) := by decide +kernel
theorem dL_law_537 : decode cL_law 537 = .ok (.iload 4, 2) := by decide +kernel
theorem dL_law_539 : decode cL_law 539 = .ok (.iconst 1, 1) := by decide +kernel
theorem dL_law_540 : decode cL_law 540 = .ok (.iadd, 1) := by decide +kernel
theorem dL_law_541 : decode cL_law 541 = .ok (.iaload, 1) := by decide +kernel
theorem dL_law_542 : decode cL_law 542 = .ok (.aload_n 0, 1) := by decide +kernel
theorem dL_law_543 : decode cL_law 543 = .ok (.iload 4, 2) := by decide +kernel
theorem dL_law_545 : decode cL_law 545 = .ok (.iconst 2, 1) := by decide +kernel
theorem dL_law_546 : decode cL_law 546 = .ok (.iadd, 1) := by decide +kernel
theorem dL_law_547 : decode cL_law 547 = .ok (.iaload, 1) := by decide +kernel
theorem dL_law_548 : decode cL_law 548 = .ok (.invokevirtual 109, 3) := by decide +kernel
theorem dL_law_551 : decode cL_law 551 = .ok (.istore 6, 2) := by decide +kernel
theorem dL_law_553 : decode cL_law 553 = .ok (.aload_n 2, 1) := by decide +kernel
theorem dL_law_554 : decode cL_law 554 = .ok (.invokevirtual 84, 3) := by decide +kernel
theorem dL_law_557 : decode cL_law 557 = .ok (.iload 5, 2) := by decide +kernel
theorem dL_law_559 : decode cL_law 559 = .ok (.if_icmp .eq 5, 3) := by decide +kernel
theorem dL_law_562 : decode cL_law 562 = .ok (.iconst 0, 1) := by decide +kernel
theorem dL_law_563 : decode cL_law 563 = .ok (.ireturn, 1) := by decide +kernel
theorem dL_law_564 : decode cL_law 564 = .ok (.iload 5, 2) := by decide +kernel
theorem dL_law_566 : decode cL_law 566 = .ok (.ifCond .ne 15, 3) := by decide +kernel
theorem dL_law_569 : decode cL_law 569 = .ok (.aload_n 3, 1) := by decide +kernel
theorem dL_law_570 : decode cL_law 570 = .ok (.iconst 0, 1) := by decide +kernel
theorem dL_law_571 : decode cL_law 571 = .ok (.laload, 1) := by decide +kernel
theorem dL_law_572 : decode cL_law 572 = .ok (.iload 6, 2) := by decide +kernel
theorem dL_law_574 : decode cL_law 574 = .ok (.i2l, 1) := by decide +kernel
theorem dL_law_575 : decode cL_law 575 = .ok (.lcmp, 1) := by decide +kernel
theorem dL_law_576 : decode cL_law 576 = .ok (.ifCond .eq 5, 3) := by decide +kernel
theorem dL_law_579 : decode cL_law 579 = .ok (.iconst 0, 1) := by decide +kernel
theorem dL_law_580 : decode cL_law 580 = .ok (.ireturn, 1) := by decide +kernel
theorem dL_law_581 : decode cL_law 581 = .ok (.goto 628, 3) := by decide +kernel
theorem dL_law_584 : decode cL_law 584 = .ok (.aload_n 1, 1) := by decide +kernel
theorem dL_law_585 : decode cL_law 585 = .ok (.aload_n 3, 1) := by decide +kernel
theorem dL_law_586 : decode cL_law 586 = .ok (.invokestatic 110, 3) := by decide +kernel
theorem dL_law_589 : decode cL_law 589 = .ok (.istore 5, 2) := by decide +kernel
theorem dL_law_591 : decode cL_law 591 = .ok (.aload_n 2, 1) := by decide +kernel
theorem dL_law_592 : decode cL_law 592 = .ok (.invokevirtual 113, 3) := by decide +kernel
theorem dL_law_595 : decode cL_law 595 = .ok (.lstore 6, 2) := by decide +kernel
theorem dL_law_597 : decode cL_law 597 = .ok (.aload_n 2, 1) := by decide +kernel
theorem dL_law_598 : decode cL_law 598 = .ok (.invokevirtual 84, 3) := by decide +kernel
theorem dL_law_601 : decode cL_law 601 = .ok (.iload 5, 2) := by decide +kernel
theorem dL_law_603 : decode cL_law 603 = .ok (.if_icmp .eq 5, 3) := by decide +kernel
theorem dL_law_606 : decode cL_law 606 = .ok (.iconst 0, 1) := by decide +kernel
theorem dL_law_607 : decode cL_law 607 = .ok (.ireturn, 1) := by decide +kernel
theorem dL_law_608 : decode cL_law 608 = .ok (.iload 5, 2) := by decide +kernel
theorem dL_law_610 : decode cL_law 610 = .ok (.ifCond .ne 14, 3) := by decide +kernel
theorem dL_law_613 : decode cL_law 613 = .ok (.aload_n 3, 1) := by decide +kernel
theorem dL_law_614 : decode cL_law 614 = .ok (.iconst 0, 1) := by decide +kernel
theorem dL_law_615 : decode cL_law 615 = .ok (.laload, 1) := by decide +kernel
theorem dL_law_616 : decode cL_law 616 = .ok (.lload 6, 2) := by decide +kernel
theorem dL_law_618 : decode cL_law 618 = .ok (.lcmp, 1) := by decide +kernel
theorem dL_law_619 : decode cL_law 619 = .ok (.ifCond .eq 5, 3) := by decide +kernel
theorem dL_law_622 : decode cL_law 622 = .ok (.iconst 0, 1) := by decide +kernel
theorem dL_law_623 : decode cL_law 623 = .ok (.ireturn, 1) := by decide +kernel
theorem dL_law_624 : decode cL_law 624 = .ok (.goto 585, 3) := by decide +kernel
theorem dL_law_627 : decode cL_law 627 = .ok (.aload_n 1, 1) := by decide +kernel
theorem dL_law_628 : decode cL_law 628 = .ok (.invokevirtual 114, 3) := by decide +kernel
theorem dL_law_631 : decode cL_law 631 = .ok (.aload_n 2, 1) := by decide +kernel
theorem dL_law_632 : decode cL_law 632 = .ok (.invokevirtual 117, 3) := by decide +kernel
theorem dL_law_635 : decode cL_law 635 = .ok (.if_icmp .eq 574, 3) := by decide +kernel
theorem dL_law_638 : decode cL_law 638 = .ok (.iconst 0, 1) := by decide +kernel
theorem dL_law_639 : decode cL_law 639 = .ok (.ireturn, 1) := by decide +kernel
theorem dL_law_640 : decode cL_law 640 = .ok (.aload_n 1, 1) := by decide +kernel
theorem dL_law_641 : decode cL_law 641 = .ok (.aload_n 0, 1) := by decide +kernel
theorem dL_law_642 : decode cL_law 642 = .ok (.iload 4, 2) := by decide +kernel
theorem dL_law_644 : decode cL_law 644 = .ok (.iconst 1, 1) := by decide +kernel
theorem dL_law_645 : decode cL_law 645 = .ok (.iadd, 1) := by decide +kernel
theorem dL_law_646 : decode cL_law 646 = .ok (.iaload, 1) := by decide +kernel
theorem dL_law_647 : decode cL_law 647 = .ok (.aload_n 0, 1) := by decide +kernel
theorem dL_law_648 : decode cL_law 648 = .ok (.iload 4, 2) := by decide +kernel
theorem dL_law_650 : decode cL_law 650 = .ok (.iconst 2, 1) := by decide +kernel
theorem dL_law_651 : decode cL_law 651 = .ok (.iadd, 1) := by decide +kernel
theorem dL_law_652 : decode cL_law 652 = .ok (.iaload, 1) := by decide +kernel
theorem dL_law_653 : decode cL_law 653 = .ok (.aload_n 3, 1) := by decide +kernel
theorem dL_law_654 : decode cL_law 654 = .ok (.invokestatic 118, 3) := by decide +kernel
theorem dL_law_657 : decode cL_law 657 = .ok (.istore 5, 2) := by decide +kernel
theorem dL_law_659 : decode cL_law 659 = .ok (.aload_n 2, 1) := by decide +kernel
theorem dL_law_660 : decode cL_law 660 = .ok (.aload_n 0, 1) := by decide +kernel
theorem dL_law_661 : decode cL_law 661 = .ok (.iload 4, 2) := by decide +kernel
theorem dL_law_663 : decode cL_law 663 = .ok (.iconst 1, 1) := by decide +kernel
theorem dL_law_664 : decode cL_law 664 = .ok (.iadd, 1) := by decide +kernel
theorem dL_law_665 : decode cL_law 665 = .ok (.iaload, 1) := by decide +kernel
theorem dL_law_666 : decode cL_law 666 = .ok (.aload_n 0, 1) := by decide +kernel
theorem dL_law_667 : decode cL_law 667 = .ok (.iload 4, 2) := by decide +kernel
theorem dL_law_669 : decode cL_law 669 = .ok (.iconst 2, 1) := by decide +kernel
theorem dL_law_670 : decode cL_law 670 = .ok (.iadd, 1) := by decide +kernel
theorem dL_law_671 : decode cL_law 671 = .ok (.iaload, 1) := by decide +kernel
theorem dL_law_672 : decode cL_law 672 = .ok (.invokevirtual 120, 3) := by decide +kernel
theorem dL_law_675 : decode cL_law 675 = .ok (.lstore 6, 2) := by decide +kernel
theorem dL_law_677 : decode cL_law 677 = .ok (.aload_n 2, 1) := by decide +kernel
theorem dL_law_678 : decode cL_law 678 = .ok (.invokevirtual 84, 3) := by decide +kernel
theorem dL_law_681 : decode cL_law 681 = .ok (.iload 5, 2) := by decide +kernel
theorem dL_law_683 : decode cL_law 683 = .ok (.if_icmp .eq 5, 3) := by decide +kernel
theorem dL_law_686 : decode cL_law 686 = .ok (.iconst 0, 1) := by decide +kernel
theorem dL_law_687 : decode cL_law 687 = .ok (.ireturn, 1) := by decide +kernel
theorem dL_law_688 : decode cL_law 688 = .ok (.iload 5, 2) := by decide +kernel
theorem dL_law_690 : decode cL_law 690 = .ok (.ifCond .ne 14, 3) := by decide +kernel
theorem dL_law_693 : decode cL_law 693 = .ok (.aload_n 3, 1) := by decide +kernel
theorem dL_law_694 : decode cL_law 694 = .ok (.iconst 0, 1) := by decide +kernel
theorem dL_law_695 : decode cL_law 695 = .ok (.laload, 1) := by decide +kernel
theorem dL_law_696 : decode cL_law 696 = .ok (.lload 6, 2) := by decide +kernel
theorem dL_law_698 : decode cL_law 698 = .ok (.lcmp, 1) := by decide +kernel
theorem dL_law_699 : decode cL_law 699 = .ok (.ifCond .eq 5, 3) := by decide +kernel
theorem dL_law_702 : decode cL_law 702 = .ok (.iconst 0, 1) := by decide +kernel
theorem dL_law_703 : decode cL_law 703 = .ok (.ireturn, 1) := by decide +kernel
theorem dL_law_704 : decode cL_law 704 = .ok (.goto 505, 3) := by decide +kernel
theorem dL_law_707 : decode cL_law 707 = .ok (.aload_n 1, 1) := by decide +kernel
theorem dL_law_708 : decode cL_law 708 = .ok (.aload_n 0, 1) := by decide +kernel
theorem dL_law_709 : decode cL_law 709 = .ok (.iload 4, 2) := by decide +kernel
theorem dL_law_711 : decode cL_law 711 = .ok (.iconst 1, 1) := by decide +kernel
theorem dL_law_712 : decode cL_law 712 = .ok (.iadd, 1) := by decide +kernel
theorem dL_law_713 : decode cL_law 713 = .ok (.iaload, 1) := by decide +kernel
theorem dL_law_714 : decode cL_law 714 = .ok (.aload_n 0, 1) := by decide +kernel
theorem dL_law_715 : decode cL_law 715 = .ok (.iload 4, 2) := by decide +kernel
theorem dL_law_717 : decode cL_law 717 = .ok (.iconst 2, 1) := by decide +kernel
theorem dL_law_718 : decode cL_law 718 = .ok (.iadd, 1) := by decide +kernel
theorem dL_law_719 : decode cL_law 719 = .ok (.iaload, 1) := by decide +kernel
theorem dL_law_720 : decode cL_law 720 = .ok (.aload_n 3, 1) := by decide +kernel
theorem dL_law_721 : decode cL_law 721 = .ok (.invokestatic 121, 3) := by decide +kernel
theorem dL_law_724 : decode cL_law 724 = .ok (.istore 5, 2) := by decide +kernel
theorem dL_law_726 : decode cL_law 726 = .ok (.aload_n 2, 1) := by decide +kernel
theorem dL_law_727 : decode cL_law 727 = .ok (.aload_n 0, 1) := by decide +kernel
theorem dL_law_728 : decode cL_law 728 = .ok (.iload 4, 2) := by decide +kernel
theorem dL_law_730 : decode cL_law 730 = .ok (.iconst 1, 1) := by decide +kernel
theorem dL_law_731 : decode cL_law 731 = .ok (.iadd, 1) := by decide +kernel
theorem dL_law_732 : decode cL_law 732 = .ok (.iaload, 1) := by decide +kernel
theorem dL_law_733 : decode cL_law 733 = .ok (.aload_n 0, 1) := by decide +kernel
theorem dL_law_734 : decode cL_law 734 = .ok (.iload 4, 2) := by decide +kernel
theorem dL_law_736 : decode cL_law 736 = .ok (.iconst 2, 1) := by decide +kernel
theorem dL_law_737 : decode cL_law 737 = .ok (.iadd, 1) := by decide +kernel
theorem dL_law_738 : decode cL_law 738 = .ok (.iaload, 1) := by decide +kernel
theorem dL_law_739 : decode cL_law 739 = .ok (.invokevirtual 123, 3) := by decide +kernel
theorem dL_law_742 : decode cL_law 742 = .ok (.lstore 6, 2) := by decide +kernel
theorem dL_law_744 : decode cL_law 744 = .ok (.aload_n 2, 1) := by decide +kernel
theorem dL_law_745 : decode cL_law 745 = .ok (.invokevirtual 84, 3) := by decide +kernel
theorem dL_law_748 : decode cL_law 748 = .ok (.iload 5, 2) := by decide +kernel
theorem dL_law_750 : decode cL_law 750 = .ok (.if_icmp .eq 5, 3) := by decide +kernel
theorem dL_law_753 : decode cL_law 753 = .ok (.iconst 0, 1) := by decide +kernel
theorem dL_law_754 : decode cL_law 754 = .ok (.ireturn, 1) := by decide +kernel
theorem dL_law_755 : decode cL_law 755 = .ok (.iload 5, 2) := by decide +kernel
theorem dL_law_757 : decode cL_law 757 = .ok (.ifCond .ne 14, 3) := by decide +kernel
theorem dL_law_760 : decode cL_law 760 = .ok (.aload_n 3, 1) := by decide +kernel
theorem dL_law_761 : decode cL_law 761 = .ok (.iconst 0, 1) := by decide +kernel
theorem dL_law_762 : decode cL_law 762 = .ok (.laload, 1) := by decide +kernel
theorem dL_law_763 : decode cL_law 763 = .ok (.lload 6, 2) := by decide +kernel
theorem dL_law_765 : decode cL_law 765 = .ok (.lcmp, 1) := by decide +kernel
theorem dL_law_766 : decode cL_law 766 = .ok (.ifCond .eq 5, 3) := by decide +kernel
theorem dL_law_769 : decode cL_law 769 = .ok (.iconst 0, 1) := by decide +kernel
theorem dL_law_770 : decode cL_law 770 = .ok (.ireturn, 1) := by decide +kernel
theorem dL_law_771 : decode cL_law 771 = .ok (.goto 438, 3) := by decide +kernel
theorem dL_law_774 : decode cL_law 774 = .ok (.aload_n 1, 1) := by decide +kernel
theorem dL_law_775 : decode cL_law 775 = .ok (.aload_n 0, 1) := by decide +kernel
theorem dL_law_776 : decode cL_law 776 = .ok (.iload 4, 2) := by decide +kernel
theorem dL_law_778 : decode cL_law 778 = .ok (.iconst 1, 1) := by decide +kernel
theorem dL_law_779 : decode cL_law 779 = .ok (.iadd, 1) := by decide +kernel
theorem dL_law_780 : decode cL_law 780 = .ok (.iaload, 1) := by decide +kernel
theorem dL_law_781 : decode cL_law 781 = .ok (.aload_n 3, 1) := by decide +kernel
theorem dL_law_782 : decode cL_law 782 = .ok (.invokestatic 124, 3) := by decide +kernel
theorem dL_law_785 : decode cL_law 785 = .ok (.istore 5, 2) := by decide +kernel
theorem dL_law_787 : decode cL_law 787 = .ok (.aload_n 2, 1) := by decide +kernel
theorem dL_law_788 : decode cL_law 788 = .ok (.aload_n 0, 1) := by decide +kernel
theorem dL_law_789 : decode cL_law 789 = .ok (.iload 4, 2) := by decide +kernel
theorem dL_law_791 : decode cL_law 791 = .ok (.iconst 1, 1) := by decide +kernel
theorem dL_law_792 : decode cL_law 792 = .ok (.iadd, 1) := by decide +kernel
theorem dL_law_793 : decode cL_law 793 = .ok (.iaload, 1) := by decide +kernel
theorem dL_law_794 : decode cL_law 794 = .ok (.invokevirtual 127, 3) := by decide +kernel
theorem dL_law_797 : decode cL_law 797 = .ok (.lstore 6, 2) := by decide +kernel
theorem dL_law_799 : decode cL_law 799 = .ok (.aload_n 2, 1) := by decide +kernel
theorem dL_law_800 : decode cL_law 800 = .ok (.invokevirtual 84, 3) := by decide +kernel
theorem dL_law_803 : decode cL_law 803 = .ok (.iload 5, 2) := by decide +kernel
theorem dL_law_805 : decode cL_law 805 = .ok (.if_icmp .eq 5, 3) := by decide +kernel
theorem dL_law_808 : decode cL_law 808 = .ok (.iconst 0, 1) := by decide +kernel
theorem dL_law_809 : decode cL_law 809 = .ok (.ireturn, 1) := by decide +kernel
theorem dL_law_810 : decode cL_law 810 = .ok (.iload 5, 2) := by decide +kernel
theorem dL_law_812 : decode cL_law 812 = .ok (.ifCond .ne 14, 3) := by decide +kernel
theorem dL_law_815 : decode cL_law 815 = .ok (.aload_n 3, 1) := by decide +kernel
theorem dL_law_816 : decode cL_law 816 = .ok (.iconst 0, 1) := by decide +kernel
theorem dL_law_817 : decode cL_law 817 = .ok (.laload, 1) := by decide +kernel
theorem dL_law_818 : decode cL_law 818 = .ok (.lload 6, 2) := by decide +kernel
theorem dL_law_820 : decode cL_law 820 = .ok (.lcmp, 1) := by decide +kernel
theorem dL_law_821 : decode cL_law 821 = .ok (.ifCond .eq 5, 3) := by decide +kernel
theorem dL_law_824 : decode cL_law 824 = .ok (.iconst 0, 1) := by decide +kernel
theorem dL_law_825 : decode cL_law 825 = .ok (.ireturn, 1) := by decide +kernel
theorem dL_law_826 : decode cL_law 826 = .ok (.goto 383, 3) := by decide +kernel
theorem dL_law_829 : decode cL_law 829 = .ok (.aload_n 1, 1) := by decide +kernel
theorem dL_law_830 : decode cL_law 830 = .ok (.aload_n 0, 1) := by decide +kernel
theorem dL_law_831 : decode cL_law 831 = .ok (.iload 4, 2) := by decide +kernel
theorem dL_law_833 : decode cL_law 833 = .ok (.iconst 1, 1) := by decide +kernel
theorem dL_law_834 : decode cL_law 834 = .ok (.iadd, 1) := by decide +kernel
theorem dL_law_835 : decode cL_law 835 = .ok (.iaload, 1) := by decide +kernel
theorem dL_law_836 : decode cL_law 836 = .ok (.aload_n 3, 1) := by decide +kernel
theorem dL_law_837 : decode cL_law 837 = .ok (.invokestatic 128, 3) := by decide +kernel
theorem dL_law_840 : decode cL_law 840 = .ok (.istore 5, 2) := by decide +kernel
theorem dL_law_842 : decode cL_law 842 = .ok (.aload_n 2, 1) := by decide +kernel
theorem dL_law_843 : decode cL_law 843 = .ok (.aload_n 0, 1) := by decide +kernel
theorem dL_law_844 : decode cL_law 844 = .ok (.iload 4, 2) := by decide +kernel
theorem dL_law_846 : decode cL_law 846 = .ok (.iconst 1, 1) := by decide +kernel
theorem dL_law_847 : decode cL_law 847 = .ok (.iadd, 1) := by decide +kernel
theorem dL_law_848 : decode cL_law 848 = .ok (.iaload, 1) := by decide +kernel
theorem dL_law_849 : decode cL_law 849 = .ok (.invokevirtual 130, 3) := by decide +kernel
theorem dL_law_852 : decode cL_law 852 = .ok (.lstore 6, 2) := by decide +kernel
theorem dL_law_854 : decode cL_law 854 = .ok (.aload_n 2, 1) := by decide +kernel
theorem dL_law_855 : decode cL_law 855 = .ok (.invokevirtual 84, 3) := by decide +kernel
theorem dL_law_858 : decode cL_law 858 = .ok (.iload 5, 2) := by decide +kernel
theorem dL_law_860 : decode cL_law 860 = .ok (.if_icmp .eq 5, 3) := by decide +kernel
theorem dL_law_863 : decode cL_law 863 = .ok (.iconst 0, 1) := by decide +kernel
theorem dL_law_864 : decode cL_law 864 = .ok (.ireturn, 1) := by decide +kernel
theorem dL_law_865 : decode cL_law 865 = .ok (.iload 5, 2) := by decide +kernel
theorem dL_law_867 : decode cL_law 867 = .ok (.ifCond .ne 14, 3) := by decide +kernel
theorem dL_law_870 : decode cL_law 870 = .ok (.aload_n 3, 1) := by decide +kernel
theorem dL_law_871 : decode cL_law 871 = .ok (.iconst 0, 1) := by decide +kernel
theorem dL_law_872 : decode cL_law 872 = .ok (.laload, 1) := by decide +kernel
theorem dL_law_873 : decode cL_law 873 = .ok (.lload 6, 2) := by decide +kernel
theorem dL_law_875 : decode cL_law 875 = .ok (.lcmp, 1) := by decide +kernel
theorem dL_law_876 : decode cL_law 876 = .ok (.ifCond .eq 5, 3) := by decide +kernel
theorem dL_law_879 : decode cL_law 879 = .ok (.iconst 0, 1) := by decide +kernel
theorem dL_law_880 : decode cL_law 880 = .ok (.ireturn, 1) := by decide +kernel
theorem dL_law_881 : decode cL_law 881 = .ok (.goto 328, 3) := by decide +kernel
theorem dL_law_884 : decode cL_law 884 = .ok (.aload_n 1, 1) := by decide +kernel
theorem dL_law_885 : decode cL_law 885 = .ok (.aload_n 0, 1) := by decide +kernel
theorem dL_law_886 : decode cL_law 886 = .ok (.iload 4, 2) := by decide +kernel
theorem dL_law_888 : decode cL_law 888 = .ok (.iconst 1, 1) := by decide +kernel
theorem dL_law_889 : decode cL_law 889 = .ok (.iadd, 1) := by decide +kernel
theorem dL_law_890 : decode cL_law 890 = .ok (.iaload, 1) := by decide +kernel
theorem dL_law_891 : decode cL_law 891 = .ok (.aload_n 0, 1) := by decide +kernel
theorem dL_law_892 : decode cL_law 892 = .ok (.iload 4, 2) := by decide +kernel
theorem dL_law_894 : decode cL_law 894 = .ok (.iconst 2, 1) := by decide +kernel
theorem dL_law_895 : decode cL_law 895 = .ok (.iadd, 1) := by decide +kernel
theorem dL_law_896 : decode cL_law 896 = .ok (.iaload, 1) := by decide +kernel
theorem dL_law_897 : decode cL_law 897 = .ok (.aload_n 3, 1) := by decide +kernel
theorem dL_law_898 : decode cL_law 898 = .ok (.invokestatic 131, 3) := by decide +kernel
theorem dL_law_901 : decode cL_law 901 = .ok (.istore 5, 2) := by decide +kernel
theorem dL_law_903 : decode cL_law 903 = .ok (.aload_n 2, 1) := by decide +kernel
theorem dL_law_904 : decode cL_law 904 = .ok (.aload_n 0, 1) := by decide +kernel
theorem dL_law_905 : decode cL_law 905 = .ok (.iload 4, 2) := by decide +kernel
theorem dL_law_907 : decode cL_law 907 = .ok (.iconst 1, 1) := by decide +kernel
theorem dL_law_908 : decode cL_law 908 = .ok (.iadd, 1) := by decide +kernel
theorem dL_law_909 : decode cL_law 909 = .ok (.iaload, 1) := by decide +kernel
theorem dL_law_910 : decode cL_law 910 = .ok (.aload_n 0, 1) := by decide +kernel
theorem dL_law_911 : decode cL_law 911 = .ok (.iload 4, 2) := by decide +kernel
theorem dL_law_913 : decode cL_law 913 = .ok (.iconst 2, 1) := by decide +kernel
theorem dL_law_914 : decode cL_law 914 = .ok (.iadd, 1) := by decide +kernel
theorem dL_law_915 : decode cL_law 915 = .ok (.iaload, 1) := by decide +kernel
theorem dL_law_916 : decode cL_law 916 = .ok (.invokevirtual 133, 3) := by decide +kernel
theorem dL_law_919 : decode cL_law 919 = .ok (.istore 6, 2) := by decide +kernel
theorem dL_law_921 : decode cL_law 921 = .ok (.aload_n 2, 1) := by decide +kernel
theorem dL_law_922 : decode cL_law 922 = .ok (.invokevirtual 84, 3) := by decide +kernel
theorem dL_law_925 : decode cL_law 925 = .ok (.iload 5, 2) := by decide +kernel
theorem dL_law_927 : decode cL_law 927 = .ok (.if_icmp .eq 5, 3) := by decide +kernel
theorem dL_law_930 : decode cL_law 930 = .ok (.iconst 0, 1) := by decide +kernel
theorem dL_law_931 : decode cL_law 931 = .ok (.ireturn, 1) := by decide +kernel
theorem dL_law_932 : decode cL_law 932 = .ok (.iload 5, 2) := by decide +kernel
theorem dL_law_934 : decode cL_law 934 = .ok (.ifCond .ne 15, 3) := by decide +kernel
theorem dL_law_937 : decode cL_law 937 = .ok (.aload_n 3, 1) := by decide +kernel
theorem dL_law_938 : decode cL_law 938 = .ok (.iconst 0, 1) := by decide +kernel
theorem dL_law_939 : decode cL_law 939 = .ok (.laload, 1) := by decide +kernel
theorem dL_law_940 : decode cL_law 940 = .ok (.iload 6, 2) := by decide +kernel
theorem dL_law_942 : decode cL_law 942 = .ok (.i2l, 1) := by decide +kernel
theorem dL_law_943 : decode cL_law 943 = .ok (.lcmp, 1) := by decide +kernel
theorem dL_law_944 : decode cL_law 944 = .ok (.ifCond .eq 5, 3) := by decide +kernel
theorem dL_law_947 : decode cL_law 947 = .ok (.iconst 0, 1) := by decide +kernel
theorem dL_law_948 : decode cL_law 948 = .ok (.ireturn, 1) := by decide +kernel
theorem dL_law_949 : decode cL_law 949 = .ok (.goto 260, 3) := by decide +kernel
theorem dL_law_952 : decode cL_law 952 = .ok (.aload_n 1, 1) := by decide +kernel
theorem dL_law_953 : decode cL_law 953 = .ok (.aload_n 0, 1) := by decide +kernel
theorem dL_law_954 : decode cL_law 954 = .ok (.iload 4, 2) := by decide +kernel
theorem dL_law_956 : decode cL_law 956 = .ok (.iconst 1, 1) := by decide +kernel
theorem dL_law_957 : decode cL_law 957 = .ok (.iadd, 1) := by decide +kernel
theorem dL_law_958 : decode cL_law 958 = .ok (.iaload, 1) := by decide +kernel
theorem dL_law_959 : decode cL_law 959 = .ok (.aload_n 0, 1) := by decide +kernel
theorem dL_law_960 : decode cL_law 960 = .ok (.iload 4, 2) := by decide +kernel
theorem dL_law_962 : decode cL_law 962 = .ok (.iconst 2, 1) := by decide +kernel
theorem dL_law_963 : decode cL_law 963 = .ok (.iadd, 1) := by decide +kernel
theorem dL_law_964 : decode cL_law 964 = .ok (.iaload, 1) := by decide +kernel
theorem dL_law_965 : decode cL_law 965 = .ok (.aload_n 3, 1) := by decide +kernel
theorem dL_law_966 : decode cL_law 966 = .ok (.invokestatic 134, 3) := by decide +kernel
theorem dL_law_969 : decode cL_law 969 = .ok (.istore 5, 2) := by decide +kernel
theorem dL_law_971 : decode cL_law 971 = .ok (.aload_n 2, 1) := by decide +kernel
theorem dL_law_972 : decode cL_law 972 = .ok (.aload_n 0, 1) := by decide +kernel
theorem dL_law_973 : decode cL_law 973 = .ok (.iload 4, 2) := by decide +kernel
theorem dL_law_975 : decode cL_law 975 = .ok (.iconst 1, 1) := by decide +kernel
theorem dL_law_976 : decode cL_law 976 = .ok (.iadd, 1) := by decide +kernel
theorem dL_law_977 : decode cL_law 977 = .ok (.iaload, 1) := by decide +kernel
theorem dL_law_978 : decode cL_law 978 = .ok (.aload_n 0, 1) := by decide +kernel
theorem dL_law_979 : decode cL_law 979 = .ok (.iload 4, 2) := by decide +kernel
theorem dL_law_981 : decode cL_law 981 = .ok (.iconst 2, 1) := by decide +kernel
theorem dL_law_982 : decode cL_law 982 = .ok (.iadd, 1) := by decide +kernel
theorem dL_law_983 : decode cL_law 983 = .ok (.iaload, 1) := by decide +kernel
theorem dL_law_984 : decode cL_law 984 = .ok (.invokevirtual 136, 3) := by decide +kernel
theorem dL_law_987 : decode cL_law 987 = .ok (.istore 6, 2) := by decide +kernel
theorem dL_law_989 : decode cL_law 989 = .ok (.aload_n 2, 1) := by decide +kernel
theorem dL_law_990 : decode cL_law 990 = .ok (.invokevirtual 84, 3) := by decide +kernel
theorem dL_law_993 : decode cL_law 993 = .ok (.iload 5, 2) := by decide +kernel
theorem dL_law_995 : decode cL_law 995 = .ok (.if_icmp .eq 5, 3) := by decide +kernel
theorem dL_law_998 : decode cL_law 998 = .ok (.iconst 0, 1) := by decide +kernel
theorem dL_law_999 : decode cL_law 999 = .ok (.ireturn, 1) := by decide +kernel
theorem dL_law_1000 : decode cL_law 1000 = .ok (.iload 5, 2) := by decide +kernel
theorem dL_law_1002 : decode cL_law 1002 = .ok (.ifCond .ne 15, 3) := by decide +kernel
theorem dL_law_1005 : decode cL_law 1005 = .ok (.aload_n 3, 1) := by decide +kernel
theorem dL_law_1006 : decode cL_law 1006 = .ok (.iconst 0, 1) := by decide +kernel
theorem dL_law_1007 : decode cL_law 1007 = .ok (.laload, 1) := by decide +kernel
theorem dL_law_1008 : decode cL_law 1008 = .ok (.iload 6, 2) := by decide +kernel
theorem dL_law_1010 : decode cL_law 1010 = .ok (.i2l, 1) := by decide +kernel
theorem dL_law_1011 : decode cL_law 1011 = .ok (.lcmp, 1) := by decide +kernel
theorem dL_law_1012 : decode cL_law 1012 = .ok (.ifCond .eq 5, 3) := by decide +kernel
theorem dL_law_1015 : decode cL_law 1015 = .ok (.iconst 0, 1) := by decide +kernel
theorem dL_law_1016 : decode cL_law 1016 = .ok (.ireturn, 1) := by decide +kernel
theorem dL_law_1017 : decode cL_law 1017 = .ok (.goto 192, 3) := by decide +kernel
theorem dL_law_1020 : decode cL_law 1020 = .ok (.aload_n 1, 1) := by decide +kernel
theorem dL_law_1021 : decode cL_law 1021 = .ok (.aload_n 0, 1) := by decide +kernel
theorem dL_law_1022 : decode cL_law 1022 = .ok (.iload 4, 2) := by decide +kernel
theorem dL_law_1024 : decode cL_law 1024 = .ok (.iconst 1, 1) := by decide +kernel
theorem dL_law_1025 : decode cL_law 1025 = .ok (.iadd, 1) := by decide +kernel
theorem dL_law_1026 : decode cL_law 1026 = .ok (.iaload, 1) := by decide +kernel
theorem dL_law_1027 : decode cL_law 1027 = .ok (.aload_n 0, 1) := by decide +kernel
theorem dL_law_1028 : decode cL_law 1028 = .ok (.iload 4, 2) := by decide +kernel
theorem dL_law_1030 : decode cL_law 1030 = .ok (.iconst 2, 1) := by decide +kernel
theorem dL_law_1031 : decode cL_law 1031 = .ok (.iadd, 1) := by decide +kernel
theorem dL_law_1032 : decode cL_law 1032 = .ok (.iaload, 1) := by decide +kernel
theorem dL_law_1033 : decode cL_law 1033 = .ok (.aload_n 3, 1) := by decide +kernel
theorem dL_law_1034 : decode cL_law 1034 = .ok (.invokestatic 137, 3) := by decide +kernel
theorem dL_law_1037 : decode cL_law 1037 = .ok (.istore 5, 2) := by decide +kernel
theorem dL_law_1039 : decode cL_law 1039 = .ok (.aload_n 2, 1) := by decide +kernel
theorem dL_law_1040 : decode cL_law 1040 = .ok (.aload_n 0, 1) := by decide +kernel
theorem dL_law_1041 : decode cL_law 1041 = .ok (.iload 4, 2) := by decide +kernel
theorem dL_law_1043 : decode cL_law 1043 = .ok (.iconst 1, 1) := by decide +kernel
theorem dL_law_1044 : decode cL_law 1044 = .ok (.iadd, 1) := by decide +kernel
theorem dL_law_1045 : decode cL_law 1045 = .ok (.iaload, 1) := by decide +kernel
theorem dL_law_1046 : decode cL_law 1046 = .ok (.aload_n 0, 1) := by decide +kernel
theorem dL_law_1047 : decode cL_law 1047 = .ok (.iload 4, 2) := by decide +kernel
theorem dL_law_1049 : decode cL_law 1049 = .ok (.iconst 2, 1) := by decide +kernel
theorem dL_law_1050 : decode cL_law 1050 = .ok (.iadd, 1) := by decide +kernel
theorem dL_law_1051 : decode cL_law 1051 = .ok (.iaload, 1) := by decide +kernel
theorem dL_law_1052 : decode cL_law 1052 = .ok (.invokevirtual 139, 3) := by decide +kernel
theorem dL_law_1055 : decode cL_law 1055 = .ok (.lstore 6, 2) := by decide +kernel
theorem dL_law_1057 : decode cL_law 1057 = .ok (.aload_n 2, 1) := by decide +kernel
theorem dL_law_1058 : decode cL_law 1058 = .ok (.invokevirtual 84, 3) := by decide +kernel
theorem dL_law_1061 : decode cL_law 1061 = .ok (.iload 5, 2) := by decide +kernel
theorem dL_law_1063 : decode cL_law 1063 = .ok (.if_icmp .eq 5, 3) := by decide +kernel
theorem dL_law_1066 : decode cL_law 1066 = .ok (.iconst 0, 1) := by decide +kernel
theorem dL_law_1067 : decode cL_law 1067 = .ok (.ireturn, 1) := by decide +kernel
theorem dL_law_1068 : decode cL_law 1068 = .ok (.iload 5, 2) := by decide +kernel
theorem dL_law_1070 : decode cL_law 1070 = .ok (.ifCond .ne 14, 3) := by decide +kernel
theorem dL_law_1073 : decode cL_law 1073 = .ok (.aload_n 3, 1) := by decide +kernel
theorem dL_law_1074 : decode cL_law 1074 = .ok (.iconst 0, 1) := by decide +kernel
theorem dL_law_1075 : decode cL_law 1075 = .ok (.laload, 1) := by decide +kernel
theorem dL_law_1076 : decode cL_law 1076 = .ok (.lload 6, 2) := by decide +kernel
theorem dL_law_1078 : decode cL_law 1078 = .ok (.lcmp, 1) := by decide +kernel
theorem dL_law_1079 : decode cL_law 1079 = .ok (.ifCond .eq 5, 3) := by decide +kernel
theorem dL_law_1082 : decode cL_law 1082 = .ok (.iconst 0, 1) := by decide +kernel
theorem dL_law_1083 : decode cL_law 1083 = .ok (.ireturn, 1) := by decide +kernel
theorem dL_law_1084 : decode cL_law 1084 = .ok (.goto 125, 3) := by decide +kernel
theorem dL_law_1087 : decode cL_law 1087 = .ok (.aload_n 1, 1) := by decide +kernel
theorem dL_law_1088 : decode cL_law 1088 = .ok (.aload_n 0, 1) := by decide +kernel
theorem dL_law_1089 : decode cL_law 1089 = .ok (.iload 4, 2) := by decide +kernel
theorem dL_law_1091 : decode cL_law 1091 = .ok (.iconst 1, 1) := by decide +kernel
theorem dL_law_1092 : decode cL_law 1092 = .ok (.iadd, 1) := by decide +kernel
theorem dL_law_1093 : decode cL_law 1093 = .ok (.iaload, 1) := by decide +kernel
theorem dL_law_1094 : decode cL_law 1094 = .ok (.aload_n 0, 1) := by decide +kernel
theorem dL_law_1095 : decode cL_law 1095 = .ok (.iload 4, 2) := by decide +kernel
theorem dL_law_1097 : decode cL_law 1097 = .ok (.iconst 2, 1) := by decide +kernel
theorem dL_law_1098 : decode cL_law 1098 = .ok (.iadd, 1) := by decide +kernel
theorem dL_law_1099 : decode cL_law 1099 = .ok (.iaload, 1) := by decide +kernel
theorem dL_law_1100 : decode cL_law 1100 = .ok (.aload_n 3, 1) := by decide +kernel
theorem dL_law_1101 : decode cL_law 1101 = .ok (.invokestatic 140, 3) := by decide +kernel
theorem dL_law_1104 : decode cL_law 1104 = .ok (.istore 5, 2) := by decide +kernel
theorem dL_law_1106 : decode cL_law 1106 = .ok (.aload_n 2, 1) := by decide +kernel
theorem dL_law_1107 : decode cL_law 1107 = .ok (.aload_n 0, 1) := by decide +kernel
theorem dL_law_1108 : decode cL_law 1108 = .ok (.iload 4, 2) := by decide +kernel
theorem dL_law_1110 : decode cL_law 1110 = .ok (.iconst 1, 1) := by decide +kernel
theorem dL_law_1111 : decode cL_law 1111 = .ok (.iadd, 1) := by decide +kernel
theorem dL_law_1112 : decode cL_law 1112 = .ok (.iaload, 1) := by decide +kernel
theorem dL_law_1113 : decode cL_law 1113 = .ok (.aload_n 0, 1) := by decide +kernel
theorem dL_law_1114 : decode cL_law 1114 = .ok (.iload 4, 2) := by decide +kernel
theorem dL_law_1116 : decode cL_law 1116 = .ok (.iconst 2, 1) := by decide +kernel
theorem dL_law_1117 : decode cL_law 1117 = .ok (.iadd, 1) := by decide +kernel
theorem dL_law_1118 : decode cL_law 1118 = .ok (.iaload, 1) := by decide +kernel
theorem dL_law_1119 : decode cL_law 1119 = .ok (.invokevirtual 142, 3) := by decide +kernel
theorem dL_law_1122 : decode cL_law 1122 = .ok (.lstore 6, 2) := by decide +kernel
theorem dL_law_1124 : decode cL_law 1124 = .ok (.aload_n 2, 1) := by decide +kernel
theorem dL_law_1125 : decode cL_law 1125 = .ok (.invokevirtual 84, 3) := by decide +kernel
theorem dL_law_1128 : decode cL_law 1128 = .ok (.iload 5, 2) := by decide +kernel
theorem dL_law_1130 : decode cL_law 1130 = .ok (.if_icmp .eq 5, 3) := by decide +kernel
theorem dL_law_1133 : decode cL_law 1133 = .ok (.iconst 0, 1) := by decide +kernel
theorem dL_law_1134 : decode cL_law 1134 = .ok (.ireturn, 1) := by decide +kernel
theorem dL_law_1135 : decode cL_law 1135 = .ok (.iload 5, 2) := by decide +kernel
theorem dL_law_1137 : decode cL_law 1137 = .ok (.ifCond .ne 14, 3) := by decide +kernel
theorem dL_law_1140 : decode cL_law 1140 = .ok (.aload_n 3, 1) := by decide +kernel
theorem dL_law_1141 : decode cL_law 1141 = .ok (.iconst 0, 1) := by decide +kernel
theorem dL_law_1142 : decode cL_law 1142 = .ok (.laload, 1) := by decide +kernel
theorem dL_law_1143 : decode cL_law 1143 = .ok (.lload 6, 2) := by decide +kernel
theorem dL_law_1145 : decode cL_law 1145 = .ok (.lcmp, 1) := by decide +kernel
theorem dL_law_1146 : decode cL_law 1146 = .ok (.ifCond .eq 5, 3) := by decide +kernel
theorem dL_law_1149 : decode cL_law 1149 = .ok (.iconst 0, 1) := by decide +kernel
theorem dL_law_1150 : decode cL_law 1150 = .ok (.ireturn, 1) := by decide +kernel
theorem dL_law_1151 : decode cL_law 1151 = .ok (.goto 58, 3) := by decide +kernel
theorem dL_law_1154 : decode cL_law 1154 = .ok (.aload_n 1, 1) := by decide +kernel
theorem dL_law_1155 : decode cL_law 1155 = .ok (.aload_n 0, 1) := by decide +kernel
theorem dL_law_1156 : decode cL_law 1156 = .ok (.iload 4, 2) := by decide +kernel
theorem dL_law_1158 : decode cL_law 1158 = .ok (.iconst 1, 1) := by decide +kernel
theorem dL_law_1159 : decode cL_law 1159 = .ok (.iadd, 1) := by decide +kernel
theorem dL_law_1160 : decode cL_law 1160 = .ok (.iaload, 1) := by decide +kernel
theorem dL_law_1161 : decode cL_law 1161 = .ok (.aload_n 3, 1) := by decide +kernel
theorem dL_law_1162 : decode cL_law 1162 = .ok (.invokestatic 143, 3) := by decide +kernel
theorem dL_law_1165 : decode cL_law 1165 = .ok (.istore 5, 2) := by decide +kernel
theorem dL_law_1167 : decode cL_law 1167 = .ok (.aload_n 2, 1) := by decide +kernel
theorem dL_law_1168 : decode cL_law 1168 = .ok (.aload_n 0, 1) := by decide +kernel
theorem dL_law_1169 : decode cL_law 1169 = .ok (.iload 4, 2) := by decide +kernel
theorem dL_law_1171 : decode cL_law 1171 = .ok (.iconst 1, 1) := by decide +kernel
theorem dL_law_1172 : decode cL_law 1172 = .ok (.iadd, 1) := by decide +kernel
theorem dL_law_1173 : decode cL_law 1173 = .ok (.iaload, 1) := by decide +kernel
theorem dL_law_1174 : decode cL_law 1174 = .ok (.invokevirtual 145, 3) := by decide +kernel
theorem dL_law_1177 : decode cL_law 1177 = .ok (.lstore 6, 2) := by decide +kernel
theorem dL_law_1179 : decode cL_law 1179 = .ok (.aload_n 2, 1) := by decide +kernel
theorem dL_law_1180 : decode cL_law 1180 = .ok (.invokevirtual 84, 3) := by decide +kernel
theorem dL_law_1183 : decode cL_law 1183 = .ok (.iload 5, 2) := by decide +kernel
theorem dL_law_1185 : decode cL_law 1185 = .ok (.if_icmp .eq 5, 3) := by decide +kernel
theorem dL_law_1188 : decode cL_law 1188 = .ok (.iconst 0, 1) := by decide +kernel
theorem dL_law_1189 : decode cL_law 1189 = .ok (.ireturn, 1) := by decide +kernel
theorem dL_law_1190 : decode cL_law 1190 = .ok (.iload 5, 2) := by decide +kernel
theorem dL_law_1192 : decode cL_law 1192 = .ok (.ifCond .ne 14, 3) := by decide +kernel
theorem dL_law_1195 : decode cL_law 1195 = .ok (.aload_n 3, 1) := by decide +kernel
theorem dL_law_1196 : decode cL_law 1196 = .ok (.iconst 0, 1) := by decide +kernel
theorem dL_law_1197 : decode cL_law 1197 = .ok (.laload, 1) := by decide +kernel
theorem dL_law_1198 : decode cL_law 1198 = .ok (.lload 6, 2) := by decide +kernel
theorem dL_law_1200 : decode cL_law 1200 = .ok (.lcmp, 1) := by decide +kernel
theorem dL_law_1201 : decode cL_law 1201 = .ok (.ifCond .eq 5, 3) := by decide +kernel
theorem dL_law_1204 : decode cL_law 1204 = .ok (.iconst 0, 1) := by decide +kernel
theorem dL_law_1205 : decode cL_law 1205 = .ok (.ireturn, 1) := by decide +kernel
theorem dL_law_1206 : decode cL_law 1206 = .ok (.goto 3, 3) := by decide +kernel
theorem dL_law_1209 : decode cL_law 1209 = .ok (.iinc 4 4, 3) := by decide +kernel
theorem dL_law_1212 : decode cL_law 1212 = .ok (.goto (-1189), 3) := by decide +kernel
theorem dL_law_1215 : decode cL_law 1215 = .ok (.iconst 1, 1) := by decide +kernel
theorem dL_law_1216 : decode cL_law 1216 = .ok (.ireturn, 1) := by decide +kernel
abbrev vwCl : List vw_C := [(RX0, TX0, 13), (RX1, TX1, 4), (RX2, TX2, 18)]
