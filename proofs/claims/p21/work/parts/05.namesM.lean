theorem dX1_init_0 : decode cX1_init 0 = .ok (.aload_n 0, 1) := by decide +kernel
theorem dX1_init_1 : decode cX1_init 1 = .ok (.invokespecial 3, 3) := by decide +kernel
theorem dX1_init_4 : decode cX1_init 4 = .ok (.aload_n 0, 1) := by decide +kernel
theorem dX1_init_5 : decode cX1_init 5 = .ok (.bipush 20, 2) := by decide +kernel
theorem dX1_init_7 : decode cX1_init 7 = .ok (.anewarray 9, 3) := by decide +kernel
theorem dX1_init_10 : decode cX1_init 10 = .ok (.putfield 11, 3) := by decide +kernel
theorem dX1_init_13 : decode cX1_init 13 = .ok (.aload_n 0, 1) := by decide +kernel
theorem dX1_init_14 : decode cX1_init 14 = .ok (.bipush 20, 2) := by decide +kernel
theorem dX1_init_16 : decode cX1_init 16 = .ok (.newarray .int, 2) := by decide +kernel
theorem dX1_init_18 : decode cX1_init 18 = .ok (.putfield 15, 3) := by decide +kernel
theorem dX1_init_21 : decode cX1_init 21 = .ok (.aload_n 0, 1) := by decide +kernel
theorem dX1_init_22 : decode cX1_init 22 = .ok (.iconst 0, 1) := by decide +kernel
theorem dX1_init_23 : decode cX1_init 23 = .ok (.putfield 19, 3) := by decide +kernel
theorem dX1_init_26 : decode cX1_init 26 = .ok (.aload_n 0, 1) := by decide +kernel
theorem dX1_init_27 : decode cX1_init 27 = .ok (.iconst 0, 1) := by decide +kernel
theorem dX1_init_28 : decode cX1_init 28 = .ok (.putfield 23, 3) := by decide +kernel
theorem dX1_init_31 : decode cX1_init 31 = .ok (.return_, 1) := by decide +kernel
set_option maxRecDepth 20000 in
theorem ggX1_add_X1_requireRange : GoodIn wsX1_add wsX1_requireRange := goodIn_ca (goodIn_r _ [14, 15, 16] (by decide +kernel) (by decide +kernel)) (goodIn_sub (fun _ h => List.mem_cons_of_mem _ (List.mem_append_right _ h)) (by decide +kernel))
set_option maxRecDepth 20000 in
theorem gX1_add_X1_requireRange : GoodIn wsX1_add (va_wsS RX1 26 yX1_requireRange wsX1_requireRange) := goodIn_app (goodIn_of _ (by decide +kernel)) ggX1_add_X1_requireRange
set_option maxRecDepth 20000 in
theorem ggX1_add_X0_init : GoodIn wsX1_add wsX0_init := goodIn_r _ [19, 20, 21, 22, 23, 24, 25, 26, 27, 28, 29, 30, 31, 32, 33, 34, 35, 36, 37, 53, 54, 55, 56, 57, 58, 59, 60, 61, 62, 63, 64, 65] (by decide +kernel) (by decide +kernel)
set_option maxRecDepth 20000 in
theorem gX1_add_X0_init : GoodIn wsX1_add (wsX0_init) := ggX1_add_X0_init
set_option maxRecDepth 20000 in
theorem ggX1_add_X0_growBy : GoodIn wsX1_add wsX0_growBy := goodIn_r _ [41, 24, 33, 34, 23, 28, 42, 43, 44, 45, 46, 47, 48, 53, 54, 55, 56, 57, 58, 59, 60, 61, 62, 63, 64, 65] (by decide +kernel) (by decide +kernel)
set_option maxRecDepth 20000 in
theorem gX1_add_X0_growBy : GoodIn wsX1_add (wsV RX1 40 RX0 yX0_growBy wsX0_growBy) := goodIn_app (goodIn_of _ (by decide +kernel)) ggX1_add_X0_growBy
theorem dX1_add_0 : decode cX1_add 0 = .ok (.iload_n 1, 1) := by decide +kernel
theorem dX1_add_1 : decode cX1_add 1 = .ok (.aload_n 0, 1) := by decide +kernel
theorem dX1_add_2 : decode cX1_add 2 = .ok (.getfield 23, 3) := by decide +kernel
theorem dX1_add_5 : decode cX1_add 5 = .ok (.sipush 239, 3) := by decide +kernel
theorem dX1_add_8 : decode cX1_add 8 = .ok (.invokestatic 26, 3) := by decide +kernel
theorem dX1_add_11 : decode cX1_add 11 = .ok (.iload_n 2, 1) := by decide +kernel
theorem dX1_add_12 : decode cX1_add 12 = .ok (.iconst 1, 1) := by decide +kernel
theorem dX1_add_13 : decode cX1_add 13 = .ok (.ldc 30, 2) := by decide +kernel
theorem dX1_add_15 : decode cX1_add 15 = .ok (.invokestatic 26, 3) := by decide +kernel
theorem dX1_add_18 : decode cX1_add 18 = .ok (.iload_n 3, 1) := by decide +kernel
theorem dX1_add_19 : decode cX1_add 19 = .ok (.iconst 0, 1) := by decide +kernel
theorem dX1_add_20 : decode cX1_add 20 = .ok (.sipush 240, 3) := by decide +kernel
theorem dX1_add_23 : decode cX1_add 23 = .ok (.invokestatic 26, 3) := by decide +kernel
theorem dX1_add_26 : decode cX1_add 26 = .ok (.aload_n 0, 1) := by decide +kernel
theorem dX1_add_27 : decode cX1_add 27 = .ok (.getfield 19, 3) := by decide +kernel
theorem dX1_add_30 : decode cX1_add 30 = .ok (.aload_n 0, 1) := by decide +kernel
theorem dX1_add_31 : decode cX1_add 31 = .ok (.getfield 11, 3) := by decide +kernel
theorem dX1_add_34 : decode cX1_add 34 = .ok (.arraylength, 1) := by decide +kernel
theorem dX1_add_35 : decode cX1_add 35 = .ok (.if_icmp .lt 13, 3) := by decide +kernel
theorem dX1_add_38 : decode cX1_add 38 = .ok (.new 31, 3) := by decide +kernel
theorem dX1_add_41 : decode cX1_add 41 = .ok (.dup, 1) := by decide +kernel
theorem dX1_add_42 : decode cX1_add 42 = .ok (.ldc 33, 2) := by decide +kernel
theorem dX1_add_44 : decode cX1_add 44 = .ok (.invokespecial 35, 3) := by decide +kernel
theorem dX1_add_47 : decode cX1_add 47 = .ok (.athrow, 1) := by decide +kernel
theorem dX1_add_48 : decode cX1_add 48 = .ok (.new 9, 3) := by decide +kernel
theorem dX1_add_51 : decode cX1_add 51 = .ok (.dup, 1) := by decide +kernel
theorem dX1_add_52 : decode cX1_add 52 = .ok (.iload_n 1, 1) := by decide +kernel
theorem dX1_add_53 : decode cX1_add 53 = .ok (.iload_n 2, 1) := by decide +kernel
theorem dX1_add_54 : decode cX1_add 54 = .ok (.iload_n 3, 1) := by decide +kernel
theorem dX1_add_55 : decode cX1_add 55 = .ok (.invokespecial 38, 3) := by decide +kernel
theorem dX1_add_58 : decode cX1_add 58 = .ok (.astore 4, 2) := by decide +kernel
theorem dX1_add_60 : decode cX1_add 60 = .ok (.aload 4, 2) := by decide +kernel
theorem dX1_add_62 : decode cX1_add 62 = .ok (.aload_n 0, 1) := by decide +kernel
theorem dX1_add_63 : decode cX1_add 63 = .ok (.getfield 15, 3) := by decide +kernel
theorem dX1_add_66 : decode cX1_add 66 = .ok (.invokevirtual 40, 3) := by decide +kernel
theorem dX1_add_69 : decode cX1_add 69 = .ok (.aload_n 0, 1) := by decide +kernel
theorem dX1_add_70 : decode cX1_add 70 = .ok (.getfield 11, 3) := by decide +kernel
theorem dX1_add_73 : decode cX1_add 73 = .ok (.aload_n 0, 1) := by decide +kernel
theorem dX1_add_74 : decode cX1_add 74 = .ok (.getfield 19, 3) := by decide +kernel
theorem dX1_add_77 : decode cX1_add 77 = .ok (.aload 4, 2) := by decide +kernel
theorem dX1_add_79 : decode cX1_add 79 = .ok (.aastore, 1) := by decide +kernel
theorem dX1_add_80 : decode cX1_add 80 = .ok (.aload_n 0, 1) := by decide +kernel
theorem dX1_add_81 : decode cX1_add 81 = .ok (.dup, 1) := by decide +kernel
theorem dX1_add_82 : decode cX1_add 82 = .ok (.getfield 19, 3) := by decide +kernel
theorem dX1_add_85 : decode cX1_add 85 = .ok (.iconst 1, 1) := by decide +kernel
theorem dX1_add_86 : decode cX1_add 86 = .ok (.iadd, 1) := by decide +kernel
theorem dX1_add_87 : decode cX1_add 87 = .ok (.putfield 19, 3) := by decide +kernel
theorem dX1_add_90 : decode cX1_add 90 = .ok (.aload_n 0, 1) := by decide +kernel
theorem dX1_add_91 : decode cX1_add 91 = .ok (.getfield 19, 3) := by decide +kernel
theorem dX1_add_94 : decode cX1_add 94 = .ok (.iconst 1, 1) := by decide +kernel
theorem dX1_add_95 : decode cX1_add 95 = .ok (.isub, 1) := by decide +kernel
theorem dX1_add_96 : decode cX1_add 96 = .ok (.ireturn, 1) := by decide +kernel
set_option maxRecDepth 20000 in
theorem ggX1_setSurvivor_X1_find : GoodIn wsX1_setSurvivor wsX1_find := goodIn_ca (goodIn_r _ [7, 8, 9, 10, 37, 38, 39, 40] (by decide +kernel) (by decide +kernel)) (goodIn_sub (fun _ h => List.mem_cons_of_mem _ (List.mem_append_left _ (List.mem_append_left _ (List.mem_append_right _ h)))) (by decide +kernel))
set_option maxRecDepth 20000 in
theorem gX1_setSurvivor_X1_find : GoodIn wsX1_setSurvivor (wsV RX1 44 RX1 yX1_find wsX1_find) := goodIn_app (goodIn_of _ (by decide +kernel)) ggX1_setSurvivor_X1_find
set_option maxRecDepth 20000 in
theorem ggX1_setSurvivor_X1_requireRange : GoodIn wsX1_setSurvivor wsX1_requireRange := goodIn_ca (goodIn_r _ [13, 14, 15] (by decide +kernel) (by decide +kernel)) (goodIn_sub (fun _ h => List.mem_cons_of_mem _ (List.mem_append_left _ (List.mem_append_right _ h))) (by decide +kernel))
set_option maxRecDepth 20000 in
theorem gX1_setSurvivor_X1_requireRange : GoodIn wsX1_setSurvivor (va_wsS RX1 26 yX1_requireRange wsX1_requireRange) := goodIn_app (goodIn_of _ (by decide +kernel)) ggX1_setSurvivor_X1_requireRange
set_option maxRecDepth 20000 in
theorem ggX1_setSurvivor_X1_requireStartNotRun : GoodIn wsX1_setSurvivor wsX1_requireStartNotRun := goodIn_ca (goodIn_r _ [19, 20, 21, 22, 23, 24, 25, 26, 27, 28, 29, 30, 31, 32, 33, 34, 35, 36, 37, 38, 39, 40] (by decide +kernel) (by decide +kernel)) (goodIn_sub (fun _ h => List.mem_cons_of_mem _ (List.mem_append_right _ h)) (by decide +kernel))
set_option maxRecDepth 20000 in
theorem gX1_setSurvivor_X1_requireStartNotRun : GoodIn wsX1_setSurvivor (wsV RX1 48 RX1 yX1_requireStartNotRun wsX1_requireStartNotRun) := goodIn_app (goodIn_of _ (by decide +kernel)) ggX1_setSurvivor_X1_requireStartNotRun
theorem dX1_setSurvivor_0 : decode cX1_setSurvivor 0 = .ok (.aload_n 0, 1) := by decide +kernel
theorem dX1_setSurvivor_1 : decode cX1_setSurvivor 1 = .ok (.iload_n 1, 1) := by decide +kernel
theorem dX1_setSurvivor_2 : decode cX1_setSurvivor 2 = .ok (.invokevirtual 44, 3) := by decide +kernel
theorem dX1_setSurvivor_5 : decode cX1_setSurvivor 5 = .ok (.astore 4, 2) := by decide +kernel
theorem dX1_setSurvivor_7 : decode cX1_setSurvivor 7 = .ok (.iload_n 2, 1) := by decide +kernel
theorem dX1_setSurvivor_8 : decode cX1_setSurvivor 8 = .ok (.iconst 0, 1) := by decide +kernel
theorem dX1_setSurvivor_9 : decode cX1_setSurvivor 9 = .ok (.bipush 100, 2) := by decide +kernel
theorem dX1_setSurvivor_11 : decode cX1_setSurvivor 11 = .ok (.invokestatic 26, 3) := by decide +kernel
theorem dX1_setSurvivor_14 : decode cX1_setSurvivor 14 = .ok (.aload_n 0, 1) := by decide +kernel
theorem dX1_setSurvivor_15 : decode cX1_setSurvivor 15 = .ok (.aload 4, 2) := by decide +kernel
theorem dX1_setSurvivor_17 : decode cX1_setSurvivor 17 = .ok (.invokevirtual 48, 3) := by decide +kernel
theorem dX1_setSurvivor_20 : decode cX1_setSurvivor 20 = .ok (.aload 4, 2) := by decide +kernel
theorem dX1_setSurvivor_22 : decode cX1_setSurvivor 22 = .ok (.iload_n 2, 1) := by decide +kernel
theorem dX1_setSurvivor_23 : decode cX1_setSurvivor 23 = .ok (.putfield 52, 3) := by decide +kernel
theorem dX1_setSurvivor_26 : decode cX1_setSurvivor 26 = .ok (.aload 4, 2) := by decide +kernel
theorem dX1_setSurvivor_28 : decode cX1_setSurvivor 28 = .ok (.iload_n 3, 1) := by decide +kernel
theorem dX1_setSurvivor_29 : decode cX1_setSurvivor 29 = .ok (.putfield 55, 3) := by decide +kernel
theorem dX1_setSurvivor_32 : decode cX1_setSurvivor 32 = .ok (.return_, 1) := by decide +kernel
set_option maxRecDepth 20000 in
theorem ggX1_setCap_X1_find : GoodIn wsX1_setCap wsX1_find := goodIn_ca (goodIn_r _ [7, 8, 9, 10, 54, 55, 56, 57] (by decide +kernel) (by decide +kernel)) (goodIn_sub (fun _ h => List.mem_cons_of_mem _ (List.mem_append_left _ (List.mem_append_left _ (List.mem_append_right _ h)))) (by decide +kernel))
set_option maxRecDepth 20000 in
theorem gX1_setCap_X1_find : GoodIn wsX1_setCap (wsV RX1 44 RX1 yX1_find wsX1_find) := goodIn_app (goodIn_of _ (by decide +kernel)) ggX1_setCap_X1_find
set_option maxRecDepth 20000 in
theorem ggX1_setCap_X1_requireRange : GoodIn wsX1_setCap wsX1_requireRange := goodIn_ca (goodIn_r _ [13, 14, 15] (by decide +kernel) (by decide +kernel)) (goodIn_sub (fun _ h => List.mem_cons_of_mem _ (List.mem_append_left _ (List.mem_append_right _ h))) (by decide +kernel))
set_option maxRecDepth 20000 in
theorem gX1_setCap_X1_requireRange : GoodIn wsX1_setCap (va_wsS RX1 26 yX1_requireRange wsX1_requireRange) := goodIn_app (goodIn_of _ (by decide +kernel)) ggX1_setCap_X1_requireRange
set_option maxRecDepth 20000 in
theorem ggX1_setCap_X1_requireStartNotRun : GoodIn wsX1_setCap wsX1_requireStartNotRun := goodIn_ca (goodIn_r _ [19, 20, 21, 22, 23, 41, 42, 43, 44, 45, 46, 47, 48, 49, 50, 51, 52, 53, 54, 55, 56, 57] (by decide +kernel) (by decide +kernel)) (goodIn_sub (fun _ h => List.mem_cons_of_mem _ (List.mem_append_right _ h)) (by decide +kernel))
set_option maxRecDepth 20000 in
theorem gX1_setCap_X1_requireStartNotRun : GoodIn wsX1_setCap (wsV RX1 48 RX1 yX1_requireStartNotRun wsX1_requireStartNotRun) := goodIn_app (goodIn_of _ (by decide +kernel)) ggX1_setCap_X1_requireStartNotRun
set_option maxRecDepth 20000 in
theorem ggX1_setCap_X0_growBy : GoodIn wsX1_setCap wsX0_growBy := goodIn_r _ [28, 29, 30, 31, 32, 33, 34, 35, 36, 37, 38, 39, 40, 41, 42, 43, 44, 45, 46, 47, 48, 49, 50, 51, 52, 53] (by decide +kernel) (by decide +kernel)
set_option maxRecDepth 20000 in
theorem gX1_setCap_X0_growBy : GoodIn wsX1_setCap (wsV RX1 40 RX0 yX0_growBy wsX0_growBy) := goodIn_app (goodIn_of _ (by decide +kernel)) ggX1_setCap_X0_growBy
theorem dX1_setCap_0 : decode cX1_setCap 0 = .ok (.aload_n 0, 1) := by decide +kernel
theorem dX1_setCap_1 : decode cX1_setCap 1 = .ok (.iload_n 1, 1) := by decide +kernel
theorem dX1_setCap_2 : decode cX1_setCap 2 = .ok (.invokevirtual 44, 3) := by decide +kernel
theorem dX1_setCap_5 : decode cX1_setCap 5 = .ok (.astore_n 3, 1) := by decide +kernel
theorem dX1_setCap_6 : decode cX1_setCap 6 = .ok (.iload_n 2, 1) := by decide +kernel
theorem dX1_setCap_7 : decode cX1_setCap 7 = .ok (.iconst 0, 1) := by decide +kernel
theorem dX1_setCap_8 : decode cX1_setCap 8 = .ok (.sipush 200, 3) := by decide +kernel
theorem dX1_setCap_11 : decode cX1_setCap 11 = .ok (.invokestatic 26, 3) := by decide +kernel
theorem dX1_setCap_14 : decode cX1_setCap 14 = .ok (.aload_n 0, 1) := by decide +kernel
theorem dX1_setCap_15 : decode cX1_setCap 15 = .ok (.aload_n 3, 1) := by decide +kernel
theorem dX1_setCap_16 : decode cX1_setCap 16 = .ok (.invokevirtual 48, 3) := by decide +kernel
theorem dX1_setCap_19 : decode cX1_setCap 19 = .ok (.aload_n 3, 1) := by decide +kernel
theorem dX1_setCap_20 : decode cX1_setCap 20 = .ok (.iload_n 2, 1) := by decide +kernel
theorem dX1_setCap_21 : decode cX1_setCap 21 = .ok (.putfield 59, 3) := by decide +kernel
theorem dX1_setCap_24 : decode cX1_setCap 24 = .ok (.aload_n 3, 1) := by decide +kernel
theorem dX1_setCap_25 : decode cX1_setCap 25 = .ok (.aload_n 0, 1) := by decide +kernel
theorem dX1_setCap_26 : decode cX1_setCap 26 = .ok (.getfield 15, 3) := by decide +kernel
theorem dX1_setCap_29 : decode cX1_setCap 29 = .ok (.invokevirtual 40, 3) := by decide +kernel
theorem dX1_setCap_32 : decode cX1_setCap 32 = .ok (.return_, 1) := by decide +kernel
set_option maxRecDepth 20000 in
theorem ggX1_protect_X1_find : GoodIn wsX1_protect wsX1_find := goodIn_ca (goodIn_r _ [8, 9, 10, 11, 38, 39, 40, 41] (by decide +kernel) (by decide +kernel)) (goodIn_sub (fun _ h => List.mem_cons_of_mem _ (List.mem_append_left _ (List.mem_append_left _ (List.mem_append_right _ h)))) (by decide +kernel))
set_option maxRecDepth 20000 in
theorem gX1_protect_X1_find : GoodIn wsX1_protect (wsV RX1 44 RX1 yX1_find wsX1_find) := goodIn_app (goodIn_of _ (by decide +kernel)) ggX1_protect_X1_find
set_option maxRecDepth 20000 in
theorem ggX1_protect_X1_requireRange : GoodIn wsX1_protect wsX1_requireRange := goodIn_ca (goodIn_r _ [14, 15, 16] (by decide +kernel) (by decide +kernel)) (goodIn_sub (fun _ h => List.mem_cons_of_mem _ (List.mem_append_left _ (List.mem_append_right _ h))) (by decide +kernel))
set_option maxRecDepth 20000 in
theorem gX1_protect_X1_requireRange : GoodIn wsX1_protect (va_wsS RX1 26 yX1_requireRange wsX1_requireRange) := goodIn_app (goodIn_of _ (by decide +kernel)) ggX1_protect_X1_requireRange
set_option maxRecDepth 20000 in
theorem ggX1_protect_X1_requireStartNotRun : GoodIn wsX1_protect wsX1_requireStartNotRun := goodIn_ca (goodIn_r _ [20, 21, 22, 23, 24, 25, 26, 27, 28, 29, 30, 31, 32, 33, 34, 35, 36, 37, 38, 39, 40, 41] (by decide +kernel) (by decide +kernel)) (goodIn_sub (fun _ h => List.mem_cons_of_mem _ (List.mem_append_right _ h)) (by decide +kernel))
set_option maxRecDepth 20000 in
theorem gX1_protect_X1_requireStartNotRun : GoodIn wsX1_protect (wsV RX1 48 RX1 yX1_requireStartNotRun wsX1_requireStartNotRun) := goodIn_app (goodIn_of _ (by decide +kernel)) ggX1_protect_X1_requireStartNotRun
theorem dX1_protect_0 : decode cX1_protect 0 = .ok (.aload_n 0, 1) := by decide +kernel
theorem dX1_protect_1 : decode cX1_protect 1 = .ok (.iload_n 1, 1) := by decide +kernel
theorem dX1_protect_2 : decode cX1_protect 2 = .ok (.invokevirtual 44, 3) := by decide +kernel
theorem dX1_protect_5 : decode cX1_protect 5 = .ok (.astore 4, 2) := by decide +kernel
theorem dX1_protect_7 : decode cX1_protect 7 = .ok (.iload_n 2, 1) := by decide +kernel
theorem dX1_protect_8 : decode cX1_protect 8 = .ok (.iconst 0, 1) := by decide +kernel
theorem dX1_protect_9 : decode cX1_protect 9 = .ok (.ldc 62, 2) := by decide +kernel
theorem dX1_protect_11 : decode cX1_protect 11 = .ok (.invokestatic 26, 3) := by decide +kernel
theorem dX1_protect_14 : decode cX1_protect 14 = .ok (.iload_n 3, 1) := by decide +kernel
theorem dX1_protect_15 : decode cX1_protect 15 = .ok (.iconst 0, 1) := by decide +kernel
theorem dX1_protect_16 : decode cX1_protect 16 = .ok (.bipush 100, 2) := by decide +kernel
theorem dX1_protect_18 : decode cX1_protect 18 = .ok (.invokestatic 26, 3) := by decide +kernel
theorem dX1_protect_21 : decode cX1_protect 21 = .ok (.aload_n 0, 1) := by decide +kernel
theorem dX1_protect_22 : decode cX1_protect 22 = .ok (.aload 4, 2) := by decide +kernel
theorem dX1_protect_24 : decode cX1_protect 24 = .ok (.invokevirtual 48, 3) := by decide +kernel
theorem dX1_protect_27 : decode cX1_protect 27 = .ok (.aload 4, 2) := by decide +kernel
theorem dX1_protect_29 : decode cX1_protect 29 = .ok (.iload_n 2, 1) := by decide +kernel
theorem dX1_protect_30 : decode cX1_protect 30 = .ok (.putfield 63, 3) := by decide +kernel
theorem dX1_protect_33 : decode cX1_protect 33 = .ok (.aload 4, 2) := by decide +kernel
theorem dX1_protect_35 : decode cX1_protect 35 = .ok (.iload_n 3, 1) := by decide +kernel
theorem dX1_protect_36 : decode cX1_protect 36 = .ok (.putfield 66, 3) := by decide +kernel
theorem dX1_protect_39 : decode cX1_protect 39 = .ok (.return_, 1) := by decide +kernel
set_option maxRecDepth 20000 in
theorem ggX1_setInflation_X1_requireRange : GoodIn wsX1_setInflation wsX1_requireRange := goodIn_ca (goodIn_r _ [6, 7, 8] (by decide +kernel) (by decide +kernel)) (goodIn_sub (fun _ h => List.mem_cons_of_mem _ (List.mem_append_right _ h)) (by decide +kernel))
set_option maxRecDepth 20000 in
theorem gX1_setInflation_X1_requireRange : GoodIn wsX1_setInflation (va_wsS RX1 26 yX1_requireRange wsX1_requireRange) := goodIn_app (goodIn_of _ (by decide +kernel)) ggX1_setInflation_X1_requireRange
set_option maxRecDepth 20000 in
theorem ggX1_setInflation_X0_growBy : GoodIn wsX1_setInflation wsX0_growBy := goodIn_r _ [13, 14, 15, 16, 17, 18, 19, 20, 21, 22, 23, 24, 25, 30, 31, 32, 33, 34, 35, 36, 37, 38, 39, 40, 41, 42] (by decide +kernel) (by decide +kernel)
set_option maxRecDepth 20000 in
theorem gX1_setInflation_X0_growBy : GoodIn wsX1_setInflation (wsV RX1 40 RX0 yX0_growBy wsX0_growBy) := goodIn_app (goodIn_of _ (by decide +kernel)) ggX1_setInflation_X0_growBy
theorem dX1_setInflation_0 : decode cX1_setInflation 0 = .ok (.iload_n 1, 1) := by decide +kernel
theorem dX1_setInflation_1 : decode cX1_setInflation 1 = .ok (.iconst 0, 1) := by decide +kernel
theorem dX1_setInflation_2 : decode cX1_setInflation 2 = .ok (.bipush 19, 2) := by decide +kernel
theorem dX1_setInflation_4 : decode cX1_setInflation 4 = .ok (.invokestatic 26, 3) := by decide +kernel
theorem dX1_setInflation_7 : decode cX1_setInflation 7 = .ok (.iload_n 2, 1) := by decide +kernel
theorem dX1_setInflation_8 : decode cX1_setInflation 8 = .ok (.bipush (-100), 2) := by decide +kernel
theorem dX1_setInflation_10 : decode cX1_setInflation 10 = .ok (.sipush 300, 3) := by decide +kernel
theorem dX1_setInflation_13 : decode cX1_setInflation 13 = .ok (.invokestatic 26, 3) := by decide +kernel
theorem dX1_setInflation_16 : decode cX1_setInflation 16 = .ok (.aload_n 0, 1) := by decide +kernel
theorem dX1_setInflation_17 : decode cX1_setInflation 17 = .ok (.getfield 15, 3) := by decide +kernel
theorem dX1_setInflation_20 : decode cX1_setInflation 20 = .ok (.iload_n 1, 1) := by decide +kernel
theorem dX1_setInflation_21 : decode cX1_setInflation 21 = .ok (.iaload, 1) := by decide +kernel
theorem dX1_setInflation_22 : decode cX1_setInflation 22 = .ok (.istore_n 3, 1) := by decide +kernel
theorem dX1_setInflation_23 : decode cX1_setInflation 23 = .ok (.aload_n 0, 1) := by decide +kernel
theorem dX1_setInflation_24 : decode cX1_setInflation 24 = .ok (.getfield 15, 3) := by decide +kernel
theorem dX1_setInflation_27 : decode cX1_setInflation 27 = .ok (.iload_n 1, 1) := by decide +kernel
theorem dX1_setInflation_28 : decode cX1_setInflation 28 = .ok (.iload_n 2, 1) := by decide +kernel
theorem dX1_setInflation_29 : decode cX1_setInflation 29 = .ok (.iastore, 1) := by decide +kernel
theorem dX1_setInflation_30 : decode cX1_setInflation 30 = .ok (.aload_n 0, 1) := by decide +kernel
theorem dX1_setInflation_31 : decode cX1_setInflation 31 = .ok (.getfield 11, 3) := by decide +kernel
theorem dX1_setInflation_34 : decode cX1_setInflation 34 = .ok (.astore 4, 2) := by decide +kernel
theorem dX1_setInflation_36 : decode cX1_setInflation 36 = .ok (.aload 4, 2) := by decide +kernel
theorem dX1_setInflation_38 : decode cX1_setInflation 38 = .ok (.arraylength, 1) := by decide +kernel
theorem dX1_setInflation_39 : decode cX1_setInflation 39 = .ok (.istore 5, 2) := by decide +kernel
theorem dX1_setInflation_41 : decode cX1_setInflation 41 = .ok (.iconst 0, 1) := by decide +kernel
theorem dX1_setInflation_42 : decode cX1_setInflation 42 = .ok (.istore 6, 2) := by decide +kernel
theorem dX1_setInflation_44 : decode cX1_setInflation 44 = .ok (.iload 6, 2) := by decide +kernel
theorem dX1_setInflation_46 : decode cX1_setInflation 46 = .ok (.iload 5, 2) := by decide +kernel
theorem dX1_setInflation_48 : decode cX1_setInflation 48 = .ok (.if_icmp .ge 30, 3) := by decide +kernel
theorem dX1_setInflation_51 : decode cX1_setInflation 51 = .ok (.aload 4, 2) := by decide +kernel
theorem dX1_setInflation_53 : decode cX1_setInflation 53 = .ok (.iload 6, 2) := by decide +kernel
theorem dX1_setInflation_55 : decode cX1_setInflation 55 = .ok (.aaload, 1) := by decide +kernel
theorem dX1_setInflation_56 : decode cX1_setInflation 56 = .ok (.astore 7, 2) := by decide +kernel
theorem dX1_setInflation_58 : decode cX1_setInflation 58 = .ok (.aload 7, 2) := by decide +kernel
theorem dX1_setInflation_60 : decode cX1_setInflation 60 = .ok (.ifnull 12, 3) := by decide +kernel
theorem dX1_setInflation_63 : decode cX1_setInflation 63 = .ok (.aload 7, 2) := by decide +kernel
theorem dX1_setInflation_65 : decode cX1_setInflation 65 = .ok (.aload_n 0, 1) := by decide +kernel
theorem dX1_setInflation_66 : decode cX1_setInflation 66 = .ok (.getfield 15, 3) := by decide +kernel
theorem dX1_setInflation_69 : decode cX1_setInflation 69 = .ok (.invokevirtual 40, 3) := by decide +kernel
theorem dX1_setInflation_72 : decode cX1_setInflation 72 = .ok (.iinc 6 1, 3) := by decide +kernel
theorem dX1_setInflation_75 : decode cX1_setInflation 75 = .ok (.goto (-31), 3) := by decide +kernel
theorem dX1_setInflation_78 : decode cX1_setInflation 78 = .ok (.iload_n 3, 1) := by decide +kernel
theorem dX1_setInflation_79 : decode cX1_setInflation 79 = .ok (.ireturn, 1) := by decide +kernel
set_option maxRecDepth 20000 in
theorem ggX1_die_X1_find : GoodIn wsX1_die wsX1_find := goodIn_ca (goodIn_r _ [13, 14, 15, 16, 22, 23, 24, 25] (by decide +kernel) (by decide +kernel)) (goodIn_sub (fun _ h => List.mem_cons_of_mem _ (List.mem_append_left _ (List.mem_append_right _ h))) (by decide +kernel))
set_option maxRecDepth 20000 in
theorem gX1_die_X1_find : GoodIn wsX1_die (wsV RX1 44 RX1 yX1_find wsX1_find) := goodIn_app (goodIn_of _ (by decide +kernel)) ggX1_die_X1_find
set_option maxRecDepth 20000 in
theorem ggX1_die_X1_requireRange : GoodIn wsX1_die wsX1_requireRange := goodIn_ca (goodIn_r _ [19, 20, 21] (by decide +kernel) (by decide +kernel)) (goodIn_sub (fun _ h => List.mem_cons_of_mem _ (List.mem_append_right _ h)) (by decide +kernel))
set_option maxRecDepth 20000 in
theorem gX1_die_X1_requireRange : GoodIn wsX1_die (va_wsS RX1 26 yX1_requireRange wsX1_requireRange) := goodIn_app (goodIn_of _ (by decide +kernel)) ggX1_die_X1_requireRange
theorem dX1_die_0 : decode cX1_die 0 = .ok (.aload_n 0, 1) := by decide +kernel
theorem dX1_die_1 : decode cX1_die 1 = .ok (.iload_n 1, 1) := by decide +kernel
theorem dX1_die_2 : decode cX1_die 2 = .ok (.invokevirtual 44, 3) := by decide +kernel
theorem dX1_die_5 : decode cX1_die 5 = .ok (.astore 4, 2) := by decide +kernel
theorem dX1_die_7 : decode cX1_die 7 = .ok (.iload_n 2, 1) := by decide +kernel
theorem dX1_die_8 : decode cX1_die 8 = .ok (.iconst 0, 1) := by decide +kernel
theorem dX1_die_9 : decode cX1_die 9 = .ok (.iconst 1, 1) := by decide +kernel
theorem dX1_die_10 : decode cX1_die 10 = .ok (.invokestatic 26, 3) := by decide +kernel
theorem dX1_die_13 : decode cX1_die 13 = .ok (.iload_n 3, 1) := by decide +kernel
theorem dX1_die_14 : decode cX1_die 14 = .ok (.iconst 0, 1) := by decide +kernel
theorem dX1_die_15 : decode cX1_die 15 = .ok (.aload_n 0, 1) := by decide +kernel
theorem dX1_die_16 : decode cX1_die 16 = .ok (.getfield 23, 3) := by decide +kernel
theorem dX1_die_19 : decode cX1_die 19 = .ok (.sipush 239, 3) := by decide +kernel
theorem dX1_die_22 : decode cX1_die 22 = .ok (.invokestatic 69, 3) := by decide +kernel
theorem dX1_die_25 : decode cX1_die 25 = .ok (.invokestatic 26, 3) := by decide +kernel
theorem dX1_die_28 : decode cX1_die 28 = .ok (.aload 4, 2) := by decide +kernel
theorem dX1_die_30 : decode cX1_die 30 = .ok (.getfield 75, 3) := by decide +kernel
theorem dX1_die_33 : decode cX1_die 33 = .ok (.iload_n 2, 1) := by decide +kernel
theorem dX1_die_34 : decode cX1_die 34 = .ok (.iaload, 1) := by decide +kernel
theorem dX1_die_35 : decode cX1_die 35 = .ok (.sipush 240, 3) := by decide +kernel
theorem dX1_die_38 : decode cX1_die 38 = .ok (.if_icmp .eq 13, 3) := by decide +kernel
theorem dX1_die_41 : decode cX1_die 41 = .ok (.new 31, 3) := by decide +kernel
theorem dX1_die_44 : decode cX1_die 44 = .ok (.dup, 1) := by decide +kernel
theorem dX1_die_45 : decode cX1_die 45 = .ok (.ldc 78, 2) := by decide +kernel
theorem dX1_die_47 : decode cX1_die 47 = .ok (.invokespecial 35, 3) := by decide +kernel
theorem dX1_die_50 : decode cX1_die 50 = .ok (.athrow, 1) := by decide +kernel
theorem dX1_die_51 : decode cX1_die 51 = .ok (.aload 4, 2) := by decide +kernel
theorem dX1_die_53 : decode cX1_die 53 = .ok (.getfield 75, 3) := by decide +kernel
theorem dX1_die_56 : decode cX1_die 56 = .ok (.iload_n 2, 1) := by decide +kernel
theorem dX1_die_57 : decode cX1_die 57 = .ok (.iload_n 3, 1) := by decide +kernel
theorem dX1_die_58 : decode cX1_die 58 = .ok (.iastore, 1) := by decide +kernel
theorem dX1_die_59 : decode cX1_die 59 = .ok (.return_, 1) := by decide +kernel
set_option maxRecDepth 20000 in
theorem ggX1_takeBack_X1_find : GoodIn wsX1_takeBack wsX1_find := goodIn_ca (goodIn_r _ [8, 9, 10, 11, 30, 31, 32, 33] (by decide +kernel) (by decide +kernel)) (goodIn_sub (fun _ h => List.mem_cons_of_mem _ (List.mem_append_left _ (List.mem_append_right _ h))) (by decide +kernel))
set_option maxRecDepth 20000 in
theorem gX1_takeBack_X1_find : GoodIn wsX1_takeBack (wsV RX1 44 RX1 yX1_find wsX1_find) := goodIn_app (goodIn_of _ (by decide +kernel)) ggX1_takeBack_X1_find
set_option maxRecDepth 20000 in
theorem ggX1_takeBack_X1_requireRange : GoodIn wsX1_takeBack wsX1_requireRange := goodIn_ca (goodIn_r _ [14, 15, 16] (by decide +kernel) (by decide +kernel)) (goodIn_sub (fun _ h => List.mem_cons_of_mem _ (List.mem_append_right _ h)) (by decide +kernel))
set_option maxRecDepth 20000 in
theorem gX1_takeBack_X1_requireRange : GoodIn wsX1_takeBack (va_wsS RX1 26 yX1_requireRange wsX1_requireRange) := goodIn_app (goodIn_of _ (by decide +kernel)) ggX1_takeBack_X1_requireRange
theorem dX1_takeBack_0 : decode cX1_takeBack 0 = .ok (.aload_n 0, 1) := by decide +kernel
theorem dX1_takeBack_1 : decode cX1_takeBack 1 = .ok (.iload_n 1, 1) := by decide +kernel
theorem dX1_takeBack_2 : decode cX1_takeBack 2 = .ok (.invokevirtual 44, 3) := by decide +kernel
theorem dX1_takeBack_5 : decode cX1_takeBack 5 = .ok (.astore_n 3, 1) := by decide +kernel
theorem dX1_takeBack_6 : decode cX1_takeBack 6 = .ok (.iload_n 2, 1) := by decide +kernel
theorem dX1_takeBack_7 : decode cX1_takeBack 7 = .ok (.iconst 0, 1) := by decide +kernel
theorem dX1_takeBack_8 : decode cX1_takeBack 8 = .ok (.iconst 1, 1) := by decide +kernel
theorem dX1_takeBack_9 : decode cX1_takeBack 9 = .ok (.invokestatic 26, 3) := by decide +kernel
theorem dX1_takeBack_12 : decode cX1_takeBack 12 = .ok (.aload_n 3, 1) := by decide +kernel
theorem dX1_takeBack_13 : decode cX1_takeBack 13 = .ok (.getfield 75, 3) := by decide +kernel
theorem dX1_takeBack_16 : decode cX1_takeBack 16 = .ok (.iload_n 2, 1) := by decide +kernel
theorem dX1_takeBack_17 : decode cX1_takeBack 17 = .ok (.iaload, 1) := by decide +kernel
theorem dX1_takeBack_18 : decode cX1_takeBack 18 = .ok (.istore 4, 2) := by decide +kernel
theorem dX1_takeBack_20 : decode cX1_takeBack 20 = .ok (.iload 4, 2) := by decide +kernel
theorem dX1_takeBack_22 : decode cX1_takeBack 22 = .ok (.sipush 240, 3) := by decide +kernel
theorem dX1_takeBack_25 : decode cX1_takeBack 25 = .ok (.if_icmp .ne 13, 3) := by decide +kernel
theorem dX1_takeBack_28 : decode cX1_takeBack 28 = .ok (.new 31, 3) := by decide +kernel
theorem dX1_takeBack_31 : decode cX1_takeBack 31 = .ok (.dup, 1) := by decide +kernel
theorem dX1_takeBack_32 : decode cX1_takeBack 32 = .ok (.ldc 80, 2) := by decide +kernel
theorem dX1_takeBack_34 : decode cX1_takeBack 34 = .ok (.invokespecial 35, 3) := by decide +kernel
theorem dX1_takeBack_37 : decode cX1_takeBack 37 = .ok (.athrow, 1) := by decide +kernel
theorem dX1_takeBack_38 : decode cX1_takeBack 38 = .ok (.aload_n 3, 1) := by decide +kernel
theorem dX1_takeBack_39 : decode cX1_takeBack 39 = .ok (.getfield 75, 3) := by decide +kernel
theorem dX1_takeBack_42 : decode cX1_takeBack 42 = .ok (.iload_n 2, 1) := by decide +kernel
theorem dX1_takeBack_43 : decode cX1_takeBack 43 = .ok (.sipush 240, 3) := by decide +kernel
theorem dX1_takeBack_46 : decode cX1_takeBack 46 = .ok (.iastore, 1) := by decide +kernel
theorem dX1_takeBack_47 : decode cX1_takeBack 47 = .ok (.iload 4, 2) := by decide +kernel
theorem dX1_takeBack_49 : decode cX1_takeBack 49 = .ok (.ireturn, 1) := by decide +kernel
set_option maxRecDepth 20000 in
theorem ggX1_run_X0_payIn : GoodIn wsX1_run wsX0_payIn := goodIn_r _ [9, 10, 11, 12, 13, 14, 15, 16, 17, 18, 8, 19, 20, 21, 22, 23, 24, 25, 26, 27, 28, 29, 30, 31, 32, 33, 34, 35, 36, 37, 38, 39, 40, 41, 42, 43, 44, 45, 46, 47, 48, 49, 50, 51, 52, 53, 54, 59, 60, 61, 62, 63, 64, 65, 66, 67, 68, 69, 70, 71] (by decide +kernel) (by decide +kernel)
set_option maxRecDepth 20000 in
theorem gX1_run_X0_payIn : GoodIn wsX1_run (wsV RX1 84 RX0 yX0_payIn wsX0_payIn) := goodIn_app (goodIn_of _ (by decide +kernel)) ggX1_run_X0_payIn
theorem dX1_run_0 : decode cX1_run 0 = .ok (.aload_n 0, 1) := by decide +kernel
theorem dX1_run_1 : decode cX1_run 1 = .ok (.getfield 23, 3) := by decide +kernel
theorem dX1_run_4 : decode cX1_run 4 = .ok (.sipush 240, 3) := by decide +kernel
theorem dX1_run_7 : decode cX1_run 7 = .ok (.if_icmp .lt 13, 3) := by decide +kernel
theorem dX1_run_10 : decode cX1_run 10 = .ok (.new 31, 3) := by decide +kernel
theorem dX1_run_13 : decode cX1_run 13 = .ok (.dup, 1) := by decide +kernel
theorem dX1_run_14 : decode cX1_run 14 = .ok (.ldc 82, 2) := by decide +kernel
theorem dX1_run_16 : decode cX1_run 16 = .ok (.invokespecial 35, 3) := by decide +kernel
theorem dX1_run_19 : decode cX1_run 19 = .ok (.athrow, 1) := by decide +kernel
theorem dX1_run_20 : decode cX1_run 20 = .ok (.lconst 0, 1) := by decide +kernel
theorem dX1_run_21 : decode cX1_run 21 = .ok (.lstore_n 1, 1) := by decide +kernel
theorem dX1_run_22 : decode cX1_run 22 = .ok (.aload_n 0, 1) := by decide +kernel
theorem dX1_run_23 : decode cX1_run 23 = .ok (.getfield 11, 3) := by decide +kernel
theorem dX1_run_26 : decode cX1_run 26 = .ok (.astore_n 3, 1) := by decide +kernel
theorem dX1_run_27 : decode cX1_run 27 = .ok (.aload_n 3, 1) := by decide +kernel
theorem dX1_run_28 : decode cX1_run 28 = .ok (.arraylength, 1) := by decide +kernel
theorem dX1_run_29 : decode cX1_run 29 = .ok (.istore 4, 2) := by decide +kernel
theorem dX1_run_31 : decode cX1_run 31 = .ok (.iconst 0, 1) := by decide +kernel
theorem dX1_run_32 : decode cX1_run 32 = .ok (.istore 5, 2) := by decide +kernel
theorem dX1_run_34 : decode cX1_run 34 = .ok (.iload 5, 2) := by decide +kernel
theorem dX1_run_36 : decode cX1_run 36 = .ok (.iload 4, 2) := by decide +kernel
theorem dX1_run_38 : decode cX1_run 38 = .ok (.if_icmp .ge 32, 3) := by decide +kernel
theorem dX1_run_41 : decode cX1_run 41 = .ok (.aload_n 3, 1) := by decide +kernel
theorem dX1_run_42 : decode cX1_run 42 = .ok (.iload 5, 2) := by decide +kernel
theorem dX1_run_44 : decode cX1_run 44 = .ok (.aaload, 1) := by decide +kernel
theorem dX1_run_45 : decode cX1_run 45 = .ok (.astore 6, 2) := by decide +kernel
theorem dX1_run_47 : decode cX1_run 47 = .ok (.aload 6, 2) := by decide +kernel
theorem dX1_run_49 : decode cX1_run 49 = .ok (.ifnull 15, 3) := by decide +kernel
theorem dX1_run_52 : decode cX1_run 52 = .ok (.lload_n 1, 1) := by decide +kernel
theorem dX1_run_53 : decode cX1_run 53 = .ok (.aload 6, 2) := by decide +kernel
theorem dX1_run_55 : decode cX1_run 55 = .ok (.aload_n 0, 1) := by decide +kernel
theorem dX1_run_56 : decode cX1_run 56 = .ok (.getfield 23, 3) := by decide +kernel
theorem dX1_run_59 : decode cX1_run 59 = .ok (.invokevirtual 84, 3) := by decide +kernel
theorem dX1_run_62 : decode cX1_run 62 = .ok (.ladd, 1) := by decide +kernel
theorem dX1_run_63 : decode cX1_run 63 = .ok (.lstore_n 1, 1) := by decide +kernel
theorem dX1_run_64 : decode cX1_run 64 = .ok (.iinc 5 1, 3) := by decide +kernel
theorem dX1_run_67 : decode cX1_run 67 = .ok (.goto (-33), 3) := by decide +kernel
theorem dX1_run_70 : decode cX1_run 70 = .ok (.aload_n 0, 1) := by decide +kernel
theorem dX1_run_71 : decode cX1_run 71 = .ok (.dup, 1) := by decide +kernel
theorem dX1_run_72 : decode cX1_run 72 = .ok (.getfield 23, 3) := by decide +kernel
theorem dX1_run_75 : decode cX1_run 75 = .ok (.iconst 1, 1) := by decide +kernel
theorem dX1_run_76 : decode cX1_run 76 = .ok (.iadd, 1) := by decide +kernel
theorem dX1_run_77 : decode cX1_run 77 = .ok (.putfield 23, 3) := by decide +kernel
theorem dX1_run_80 : decode cX1_run 80 = .ok (.lload_n 1, 1) := by decide +kernel
theorem dX1_run_81 : decode cX1_run 81 = .ok (.lreturn, 1) := by decide +kernel
theorem dX1_month_0 : decode cX1_month 0 = .ok (.aload_n 0, 1) := by decide +kernel
theorem dX1_month_1 : decode cX1_month 1 = .ok (.getfield 23, 3) := by decide +kernel
theorem dX1_month_4 : decode cX1_month 4 = .ok (.ireturn, 1) := by decide +kernel
set_option maxRecDepth 20000 in
theorem ggX1_giveBack_X1_find : GoodIn wsX1_giveBack wsX1_find := goodIn_ca (goodIn_r _ [10, 11, 12, 13, 68, 69, 70, 71] (by decide +kernel) (by decide +kernel)) (goodIn_sub (fun _ h => List.mem_cons_of_mem _ (List.mem_append_left _ (List.mem_append_right _ h))) (by decide +kernel))
set_option maxRecDepth 20000 in
theorem gX1_giveBack_X1_find : GoodIn wsX1_giveBack (wsV RX1 44 RX1 yX1_find wsX1_find) := goodIn_app (goodIn_of _ (by decide +kernel)) ggX1_giveBack_X1_find
set_option maxRecDepth 20000 in
theorem ggX1_giveBack_X1_requireRange : GoodIn wsX1_giveBack wsX1_requireRange := goodIn_ca (goodIn_r _ [16, 17, 18] (by decide +kernel) (by decide +kernel)) (goodIn_sub (fun _ h => List.mem_cons_of_mem _ (List.mem_append_right _ h)) (by decide +kernel))
set_option maxRecDepth 20000 in
theorem gX1_giveBack_X1_requireRange : GoodIn wsX1_giveBack (va_wsS RX1 26 yX1_requireRange wsX1_requireRange) := goodIn_app (goodIn_of _ (by decide +kernel)) ggX1_giveBack_X1_requireRange
set_option maxRecDepth 20000 in
theorem ggX1_giveBack_X0_debtAhead : GoodIn wsX1_giveBack wsX0_debtAhead := goodIn_r _ [23, 24, 25, 26, 27, 28, 29, 30, 31, 22, 32, 33, 34, 35, 36, 37, 38, 39, 40, 41, 42, 43, 44, 45, 46, 47, 48, 49, 50, 51, 52, 53, 54, 55, 56, 57, 58, 59, 60, 61, 62, 63, 64, 65, 66, 67, 72, 73, 74, 75, 76, 77, 78, 79, 80, 81, 82, 83, 84] (by decide +kernel) (by decide +kernel)
set_option maxRecDepth 20000 in
theorem gX1_giveBack_X0_debtAhead : GoodIn wsX1_giveBack (wsV RX1 89 RX0 yX0_debtAhead wsX0_debtAhead) := goodIn_app (goodIn_of _ (by decide +kernel)) ggX1_giveBack_X0_debtAhead
theorem dX1_giveBack_0 : decode cX1_giveBack 0 = .ok (.aload_n 0, 1) := by decide +kernel
theorem dX1_giveBack_1 : decode cX1_giveBack 1 = .ok (.iload_n 1, 1) := by decide +kernel
theorem dX1_giveBack_2 : decode cX1_giveBack 2 = .ok (.invokevirtual 44, 3) := by decide +kernel
theorem dX1_giveBack_5 : decode cX1_giveBack 5 = .ok (.astore_n 3, 1) := by decide +kernel
theorem dX1_giveBack_6 : decode cX1_giveBack 6 = .ok (.iload_n 2, 1) := by decide +kernel
theorem dX1_giveBack_7 : decode cX1_giveBack 7 = .ok (.iconst 1, 1) := by decide +kernel
theorem dX1_giveBack_8 : decode cX1_giveBack 8 = .ok (.ldc 88, 2) := by decide +kernel
theorem dX1_giveBack_10 : decode cX1_giveBack 10 = .ok (.invokestatic 26, 3) := by decide +kernel
theorem dX1_giveBack_13 : decode cX1_giveBack 13 = .ok (.aload_n 3, 1) := by decide +kernel
theorem dX1_giveBack_14 : decode cX1_giveBack 14 = .ok (.aload_n 0, 1) := by decide +kernel
theorem dX1_giveBack_15 : decode cX1_giveBack 15 = .ok (.getfield 23, 3) := by decide +kernel
theorem dX1_giveBack_18 : decode cX1_giveBack 18 = .ok (.invokevirtual 89, 3) := by decide +kernel
theorem dX1_giveBack_21 : decode cX1_giveBack 21 = .ok (.lstore 4, 2) := by decide +kernel
theorem dX1_giveBack_23 : decode cX1_giveBack 23 = .ok (.lload 4, 2) := by decide +kernel
theorem dX1_giveBack_25 : decode cX1_giveBack 25 = .ok (.iload_n 2, 1) := by decide +kernel
theorem dX1_giveBack_26 : decode cX1_giveBack 26 = .ok (.i2l, 1) := by decide +kernel
theorem dX1_giveBack_27 : decode cX1_giveBack 27 = .ok (.lcmp, 1) := by decide +kernel
theorem dX1_giveBack_28 : decode cX1_giveBack 28 = .ok (.ifCond .ge 13, 3) := by decide +kernel
theorem dX1_giveBack_31 : decode cX1_giveBack 31 = .ok (.new 31, 3) := by decide +kernel
theorem dX1_giveBack_34 : decode cX1_giveBack 34 = .ok (.dup, 1) := by decide +kernel
theorem dX1_giveBack_35 : decode cX1_giveBack 35 = .ok (.ldc 92, 2) := by decide +kernel
theorem dX1_giveBack_37 : decode cX1_giveBack 37 = .ok (.invokespecial 35, 3) := by decide +kernel
theorem dX1_giveBack_40 : decode cX1_giveBack 40 = .ok (.athrow, 1) := by decide +kernel
theorem dX1_giveBack_41 : decode cX1_giveBack 41 = .ok (.aload_n 3, 1) := by decide +kernel
theorem dX1_giveBack_42 : decode cX1_giveBack 42 = .ok (.dup, 1) := by decide +kernel
theorem dX1_giveBack_43 : decode cX1_giveBack 43 = .ok (.getfield 94, 3) := by decide +kernel
theorem dX1_giveBack_46 : decode cX1_giveBack 46 = .ok (.iload_n 2, 1) := by decide +kernel
theorem dX1_giveBack_47 : decode cX1_giveBack 47 = .ok (.i2l, 1) := by decide +kernel
theorem dX1_giveBack_48 : decode cX1_giveBack 48 = .ok (.lsub, 1) := by decide +kernel
theorem dX1_giveBack_49 : decode cX1_giveBack 49 = .ok (.putfield 94, 3) := by decide +kernel
theorem dX1_giveBack_52 : decode cX1_giveBack 52 = .ok (.lload 4, 2) := by decide +kernel
theorem dX1_giveBack_54 : decode cX1_giveBack 54 = .ok (.iload_n 2, 1) := by decide +kernel
theorem dX1_giveBack_55 : decode cX1_giveBack 55 = .ok (.i2l, 1) := by decide +kernel
theorem dX1_giveBack_56 : decode cX1_giveBack 56 = .ok (.lsub, 1) := by decide +kernel
theorem dX1_giveBack_57 : decode cX1_giveBack 57 = .ok (.lreturn, 1) := by decide +kernel
set_option maxRecDepth 20000 in
theorem ggX1_paid_X1_find : GoodIn wsX1_paid wsX1_find := goodIn_ca (goodIn_r _ [7, 8, 9, 10, 16, 17, 18, 19] (by decide +kernel) (by decide +kernel)) (goodIn_sub (fun _ h => List.mem_cons_of_mem _ (List.mem_append_left _ (List.mem_append_right _ h))) (by decide +kernel))
set_option maxRecDepth 20000 in
theorem gX1_paid_X1_find : GoodIn wsX1_paid (wsV RX1 44 RX1 yX1_find wsX1_find) := goodIn_app (goodIn_of _ (by decide +kernel)) ggX1_paid_X1_find
set_option maxRecDepth 20000 in
theorem ggX1_paid_X1_requireRange : GoodIn wsX1_paid wsX1_requireRange := goodIn_ca (goodIn_r _ [13, 14, 15] (by decide +kernel) (by decide +kernel)) (goodIn_sub (fun _ h => List.mem_cons_of_mem _ (List.mem_append_right _ h)) (by decide +kernel))
set_option maxRecDepth 20000 in
theorem gX1_paid_X1_requireRange : GoodIn wsX1_paid (va_wsS RX1 26 yX1_requireRange wsX1_requireRange) := goodIn_app (goodIn_of _ (by decide +kernel)) ggX1_paid_X1_requireRange
theorem dX1_paid_0 : decode cX1_paid 0 = .ok (.aload_n 0, 1) := by decide +kernel
theorem dX1_paid_1 : decode cX1_paid 1 = .ok (.iload_n 1, 1) := by decide +kernel
theorem dX1_paid_2 : decode cX1_paid 2 = .ok (.invokevirtual 44, 3) := by decide +kernel
theorem dX1_paid_5 : decode cX1_paid 5 = .ok (.astore_n 3, 1) := by decide +kernel
theorem dX1_paid_6 : decode cX1_paid 6 = .ok (.iload_n 2, 1) := by decide +kernel
theorem dX1_paid_7 : decode cX1_paid 7 = .ok (.iconst 0, 1) := by decide +kernel
theorem dX1_paid_8 : decode cX1_paid 8 = .ok (.aload_n 0, 1) := by decide +kernel
theorem dX1_paid_9 : decode cX1_paid 9 = .ok (.getfield 23, 3) := by decide +kernel
theorem dX1_paid_12 : decode cX1_paid 12 = .ok (.iconst 1, 1) := by decide +kernel
theorem dX1_paid_13 : decode cX1_paid 13 = .ok (.isub, 1) := by decide +kernel
theorem dX1_paid_14 : decode cX1_paid 14 = .ok (.invokestatic 26, 3) := by decide +kernel
theorem dX1_paid_17 : decode cX1_paid 17 = .ok (.aload_n 3, 1) := by decide +kernel
theorem dX1_paid_18 : decode cX1_paid 18 = .ok (.getfield 98, 3) := by decide +kernel
theorem dX1_paid_21 : decode cX1_paid 21 = .ok (.iload_n 2, 1) := by decide +kernel
theorem dX1_paid_22 : decode cX1_paid 22 = .ok (.laload, 1) := by decide +kernel
theorem dX1_paid_23 : decode cX1_paid 23 = .ok (.lreturn, 1) := by decide +kernel
set_option maxRecDepth 20000 in
theorem ggX1_paidInAll_X1_find : GoodIn wsX1_paidInAll wsX1_find := goodIn_ca (goodIn_r _ [6, 7, 8, 9, 23, 24, 25, 26] (by decide +kernel) (by decide +kernel)) (goodIn_sub (fun _ h => List.mem_cons_of_mem _ (List.mem_append_right _ h)) (by decide +kernel))
set_option maxRecDepth 20000 in
theorem gX1_paidInAll_X1_find : GoodIn wsX1_paidInAll (wsV RX1 44 RX1 yX1_find wsX1_find) := goodIn_app (goodIn_of _ (by decide +kernel)) ggX1_paidInAll_X1_find
theorem dX1_paidInAll_0 : decode cX1_paidInAll 0 = .ok (.aload_n 0, 1) := by decide +kernel
theorem dX1_paidInAll_1 : decode cX1_paidInAll 1 = .ok (.iload_n 1, 1) := by decide +kernel
theorem dX1_paidInAll_2 : decode cX1_paidInAll 2 = .ok (.invokevirtual 44, 3) := by decide +kernel
theorem dX1_paidInAll_5 : decode cX1_paidInAll 5 = .ok (.getfield 94, 3) := by decide +kernel
theorem dX1_paidInAll_8 : decode cX1_paidInAll 8 = .ok (.lreturn, 1) := by decide +kernel
set_option maxRecDepth 20000 in
theorem ggX1_owes_X1_find : GoodIn wsX1_owes wsX1_find := goodIn_ca (goodIn_r _ [6, 7, 8, 9, 59, 60, 61, 62] (by decide +kernel) (by decide +kernel)) (goodIn_sub (fun _ h => List.mem_cons_of_mem _ (List.mem_append_right _ h)) (by decide +kernel))
set_option maxRecDepth 20000 in
theorem gX1_owes_X1_find : GoodIn wsX1_owes (wsV RX1 44 RX1 yX1_find wsX1_find) := goodIn_app (goodIn_of _ (by decide +kernel)) ggX1_owes_X1_find
set_option maxRecDepth 20000 in
theorem ggX1_owes_X0_debtAhead : GoodIn wsX1_owes wsX0_debtAhead := goodIn_r _ [14, 15, 16, 17, 18, 19, 20, 21, 22, 13, 23, 24, 25, 26, 27, 28, 29, 30, 31, 32, 33, 34, 35, 36, 37, 38, 39, 40, 41, 42, 43, 44, 45, 46, 47, 48, 49, 50, 51, 52, 53, 54, 55, 56, 57, 58, 63, 64, 65, 66, 67, 68, 69, 70, 71, 72, 73, 74, 75] (by decide +kernel) (by decide +kernel)
set_option maxRecDepth 20000 in
theorem gX1_owes_X0_debtAhead : GoodIn wsX1_owes (wsV RX1 89 RX0 yX0_debtAhead wsX0_debtAhead) := goodIn_app (goodIn_of _ (by decide +kernel)) ggX1_owes_X0_debtAhead
theorem dX1_owes_0 : decode cX1_owes 0 = .ok (.aload_n 0, 1) := by decide +kernel
theorem dX1_owes_1 : decode cX1_owes 1 = .ok (.iload_n 1, 1) := by decide +kernel
theorem dX1_owes_2 : decode cX1_owes 2 = .ok (.invokevirtual 44, 3) := by decide +kernel
theorem dX1_owes_5 : decode cX1_owes 5 = .ok (.aload_n 0, 1) := by decide +kernel
theorem dX1_owes_6 : decode cX1_owes 6 = .ok (.getfield 23, 3) := by decide +kernel
theorem dX1_owes_9 : decode cX1_owes 9 = .ok (.invokevirtual 89, 3) := by decide +kernel
theorem dX1_owes_12 : decode cX1_owes 12 = .ok (.lreturn, 1) := by decide +kernel
set_option maxRecDepth 20000 in
theorem ggX1_fullAmount_X1_find : GoodIn wsX1_fullAmount wsX1_find := goodIn_ca (goodIn_r _ [5, 6, 7, 8, 24, 25, 26, 27] (by decide +kernel) (by decide +kernel)) (goodIn_sub (fun _ h => List.mem_cons_of_mem _ (List.mem_append_left _ (List.mem_append_right _ h))) (by decide +kernel))
set_option maxRecDepth 20000 in
theorem gX1_fullAmount_X1_find : GoodIn wsX1_fullAmount (wsV RX1 44 RX1 yX1_find wsX1_find) := goodIn_app (goodIn_of _ (by decide +kernel)) ggX1_fullAmount_X1_find
set_option maxRecDepth 20000 in
theorem ggX1_fullAmount_X1_requireMonth : GoodIn wsX1_fullAmount wsX1_requireMonth := goodIn_ca (goodIn_r _ [11, 12, 13, 4, 14, 15, 16] (by decide +kernel) (by decide +kernel)) (goodIn_sub (fun _ h => List.mem_cons_of_mem _ (List.mem_append_right _ h)) (by decide +kernel))
set_option maxRecDepth 20000 in
theorem gX1_fullAmount_X1_requireMonth : GoodIn wsX1_fullAmount (va_wsS RX1 102 yX1_requireMonth wsX1_requireMonth) := goodIn_app (goodIn_of _ (by decide +kernel)) ggX1_fullAmount_X1_requireMonth
set_option maxRecDepth 20000 in
theorem ggX1_fullAmount_X0_fullIn : GoodIn wsX1_fullAmount wsX0_fullIn := goodIn_r _ [21, 22, 23, 28, 29, 30, 31, 32, 33, 34, 35, 36, 37, 38, 39, 40] (by decide +kernel) (by decide +kernel)
set_option maxRecDepth 20000 in
theorem gX1_fullAmount_X0_fullIn : GoodIn wsX1_fullAmount (wsV RX1 106 RX0 yX0_fullIn wsX0_fullIn) := goodIn_app (goodIn_of _ (by decide +kernel)) ggX1_fullAmount_X0_fullIn
theorem dX1_fullAmount_0 : decode cX1_fullAmount 0 = .ok (.aload_n 0, 1) := by decide +kernel
theorem dX1_fullAmount_1 : decode cX1_fullAmount 1 = .ok (.iload_n 1, 1) := by decide +kernel
theorem dX1_fullAmount_2 : decode cX1_fullAmount 2 = .ok (.invokevirtual 44, 3) := by decide +kernel
theorem dX1_fullAmount_5 : decode cX1_fullAmount 5 = .ok (.astore_n 3, 1) := by decide +kernel
theorem dX1_fullAmount_6 : decode cX1_fullAmount 6 = .ok (.iload_n 2, 1) := by decide +kernel
theorem dX1_fullAmount_7 : decode cX1_fullAmount 7 = .ok (.invokestatic 102, 3) := by decide +kernel
theorem dX1_fullAmount_10 : decode cX1_fullAmount 10 = .ok (.aload_n 3, 1) := by decide +kernel
theorem dX1_fullAmount_11 : decode cX1_fullAmount 11 = .ok (.iload_n 2, 1) := by decide +kernel
theorem dX1_fullAmount_12 : decode cX1_fullAmount 12 = .ok (.invokevirtual 106, 3) := by decide +kernel
theorem dX1_fullAmount_15 : decode cX1_fullAmount 15 = .ok (.ireturn, 1) := by decide +kernel
set_option maxRecDepth 20000 in
theorem ggX1_carry_X1_find : GoodIn wsX1_carry wsX1_find := goodIn_ca (goodIn_r _ [5, 6, 7, 8, 24, 25, 26, 27] (by decide +kernel) (by decide +kernel)) (goodIn_sub (fun _ h => List.mem_cons_of_mem _ (List.mem_append_left _ (List.mem_append_right _ h))) (by decide +kernel))
set_option maxRecDepth 20000 in
theorem gX1_carry_X1_find : GoodIn wsX1_carry (wsV RX1 44 RX1 yX1_find wsX1_find) := goodIn_app (goodIn_of _ (by decide +kernel)) ggX1_carry_X1_find
set_option maxRecDepth 20000 in
theorem ggX1_carry_X1_requireMonth : GoodIn wsX1_carry wsX1_requireMonth := goodIn_ca (goodIn_r _ [11, 12, 13, 4, 14, 15, 16] (by decide +kernel) (by decide +kernel)) (goodIn_sub (fun _ h => List.mem_cons_of_mem _ (List.mem_append_right _ h)) (by decide +kernel))
set_option maxRecDepth 20000 in
theorem gX1_carry_X1_requireMonth : GoodIn wsX1_carry (va_wsS RX1 102 yX1_requireMonth wsX1_requireMonth) := goodIn_app (goodIn_of _ (by decide +kernel)) ggX1_carry_X1_requireMonth
set_option maxRecDepth 20000 in
theorem ggX1_carry_X0_carryIn : GoodIn wsX1_carry wsX0_carryIn := goodIn_r _ [21, 22, 23, 28, 29, 30, 31, 32, 33, 34, 35, 36, 37, 38, 39, 40] (by decide +kernel) (by decide +kernel)
set_option maxRecDepth 20000 in
theorem gX1_carry_X0_carryIn : GoodIn wsX1_carry (wsV RX1 110 RX0 yX0_carryIn wsX0_carryIn) := goodIn_app (goodIn_of _ (by decide +kernel)) ggX1_carry_X0_carryIn
theorem dX1_carry_0 : decode cX1_carry 0 = .ok (.aload_n 0, 1) := by decide +kernel
theorem dX1_carry_1 : decode cX1_carry 1 = .ok (.iload_n 1, 1) := by decide +kernel
theorem dX1_carry_2 : decode cX1_carry 2 = .ok (.invokevirtual 44, 3) := by decide +kernel
theorem dX1_carry_5 : decode cX1_carry 5 = .ok (.astore_n 3, 1) := by decide +kernel
theorem dX1_carry_6 : decode cX1_carry 6 = .ok (.iload_n 2, 1) := by decide +kernel
theorem dX1_carry_7 : decode cX1_carry 7 = .ok (.invokestatic 102, 3) := by decide +kernel
theorem dX1_carry_10 : decode cX1_carry 10 = .ok (.aload_n 3, 1) := by decide +kernel
theorem dX1_carry_11 : decode cX1_carry 11 = .ok (.iload_n 2, 1) := by decide +kernel
theorem dX1_carry_12 : decode cX1_carry 12 = .ok (.invokevirtual 110, 3) := by decide +kernel
theorem dX1_carry_15 : decode cX1_carry 15 = .ok (.ireturn, 1) := by decide +kernel
set_option maxRecDepth 20000 in
theorem ggX1_entitled_X1_find : GoodIn wsX1_entitled wsX1_find := goodIn_ca (goodIn_r _ [5, 6, 7, 8, 61, 62, 63, 64] (by decide +kernel) (by decide +kernel)) (goodIn_sub (fun _ h => List.mem_cons_of_mem _ (List.mem_append_left _ (List.mem_append_right _ h))) (by decide +kernel))
set_option maxRecDepth 20000 in
theorem gX1_entitled_X1_find : GoodIn wsX1_entitled (wsV RX1 44 RX1 yX1_find wsX1_find) := goodIn_app (goodIn_of _ (by decide +kernel)) ggX1_entitled_X1_find
set_option maxRecDepth 20000 in
theorem ggX1_entitled_X1_requireMonth : GoodIn wsX1_entitled wsX1_requireMonth := goodIn_ca (goodIn_r _ [11, 12, 13, 4, 14, 15, 16] (by decide +kernel) (by decide +kernel)) (goodIn_sub (fun _ h => List.mem_cons_of_mem _ (List.mem_append_right _ h)) (by decide +kernel))
set_option maxRecDepth 20000 in
theorem gX1_entitled_X1_requireMonth : GoodIn wsX1_entitled (va_wsS RX1 102 yX1_requireMonth wsX1_requireMonth) := goodIn_app (goodIn_of _ (by decide +kernel)) ggX1_entitled_X1_requireMonth
set_option maxRecDepth 20000 in
theorem ggX1_entitled_X0_dueIn : GoodIn wsX1_entitled wsX0_dueIn := goodIn_r _ [21, 22, 23, 24, 20, 25, 26, 27, 28, 29, 30, 31, 32, 33, 34, 35, 36, 37, 38, 39, 40, 41, 42, 43, 44, 45, 46, 47, 48, 49, 50, 51, 52, 53, 54, 55, 56, 57, 58, 59, 60, 65, 66, 67, 68, 69, 70, 71, 72, 73, 74, 75, 76, 77] (by decide +kernel) (by decide +kernel)
set_option maxRecDepth 20000 in
theorem gX1_entitled_X0_dueIn : GoodIn wsX1_entitled (wsV RX1 113 RX0 yX0_dueIn wsX0_dueIn) := goodIn_app (goodIn_of _ (by decide +kernel)) ggX1_entitled_X0_dueIn
theorem dX1_entitled_0 : decode cX1_entitled 0 = .ok (.aload_n 0, 1) := by decide +kernel
theorem dX1_entitled_1 : decode cX1_entitled 1 = .ok (.iload_n 1, 1) := by decide +kernel
theorem dX1_entitled_2 : decode cX1_entitled 2 = .ok (.invokevirtual 44, 3) := by decide +kernel
theorem dX1_entitled_5 : decode cX1_entitled 5 = .ok (.astore_n 3, 1) := by decide +kernel
theorem dX1_entitled_6 : decode cX1_entitled 6 = .ok (.iload_n 2, 1) := by decide +kernel
theorem dX1_entitled_7 : decode cX1_entitled 7 = .ok (.invokestatic 102, 3) := by decide +kernel
theorem dX1_entitled_10 : decode cX1_entitled 10 = .ok (.aload_n 3, 1) := by decide +kernel
theorem dX1_entitled_11 : decode cX1_entitled 11 = .ok (.iload_n 2, 1) := by decide +kernel
theorem dX1_entitled_12 : decode cX1_entitled 12 = .ok (.invokevirtual 113, 3) := by decide +kernel
theorem dX1_entitled_15 : decode cX1_entitled 15 = .ok (.lreturn, 1) := by decide +kernel
set_option maxRecDepth 20000 in
theorem ggX1_entitledUpTo_X1_find : GoodIn wsX1_entitledUpTo wsX1_find := goodIn_ca (goodIn_r _ [5, 6, 7, 8, 61, 62, 63, 64] (by decide +kernel) (by decide +kernel)) (goodIn_sub (fun _ h => List.mem_cons_of_mem _ (List.mem_append_left _ (List.mem_append_right _ h))) (by decide +kernel))
set_option maxRecDepth 20000 in
theorem gX1_entitledUpTo_X1_find : GoodIn wsX1_entitledUpTo (wsV RX1 44 RX1 yX1_find wsX1_find) := goodIn_app (goodIn_of _ (by decide +kernel)) ggX1_entitledUpTo_X1_find
set_option maxRecDepth 20000 in
theorem ggX1_entitledUpTo_X1_requireMonth : GoodIn wsX1_entitledUpTo wsX1_requireMonth := goodIn_ca (goodIn_r _ [11, 12, 13, 4, 14, 15, 16] (by decide +kernel) (by decide +kernel)) (goodIn_sub (fun _ h => List.mem_cons_of_mem _ (List.mem_append_right _ h)) (by decide +kernel))
set_option maxRecDepth 20000 in
theorem gX1_entitledUpTo_X1_requireMonth : GoodIn wsX1_entitledUpTo (va_wsS RX1 102 yX1_requireMonth wsX1_requireMonth) := goodIn_app (goodIn_of _ (by decide +kernel)) ggX1_entitledUpTo_X1_requireMonth
set_option maxRecDepth 20000 in
theorem ggX1_entitledUpTo_X0_dueAhead : GoodIn wsX1_entitledUpTo wsX0_dueAhead := goodIn_r _ [21, 22, 23, 24, 20, 25, 26, 27, 28, 29, 30, 31, 32, 33, 34, 35, 36, 37, 38, 39, 40, 41, 42, 43, 44, 45, 46, 47, 48, 49, 50, 51, 52, 53, 54, 55, 56, 57, 58, 59, 60, 65, 66, 67, 68, 69, 70, 71, 72, 73, 74, 75, 76, 77] (by decide +kernel) (by decide +kernel)
set_option maxRecDepth 20000 in
theorem gX1_entitledUpTo_X0_dueAhead : GoodIn wsX1_entitledUpTo (wsV RX1 116 RX0 yX0_dueAhead wsX0_dueAhead) := goodIn_app (goodIn_of _ (by decide +kernel)) ggX1_entitledUpTo_X0_dueAhead
theorem dX1_entitledUpTo_0 : decode cX1_entitledUpTo 0 = .ok (.aload_n 0, 1) := by decide +kernel
theorem dX1_entitledUpTo_1 : decode cX1_entitledUpTo 1 = .ok (.iload_n 1, 1) := by decide +kernel
theorem dX1_entitledUpTo_2 : decode cX1_entitledUpTo 2 = .ok (.invokevirtual 44, 3) := by decide +kernel
theorem dX1_entitledUpTo_5 : decode cX1_entitledUpTo 5 = .ok (.astore_n 3, 1) := by decide +kernel
theorem dX1_entitledUpTo_6 : decode cX1_entitledUpTo 6 = .ok (.iload_n 2, 1) := by decide +kernel
theorem dX1_entitledUpTo_7 : decode cX1_entitledUpTo 7 = .ok (.invokestatic 102, 3) := by decide +kernel
theorem dX1_entitledUpTo_10 : decode cX1_entitledUpTo 10 = .ok (.aload_n 3, 1) := by decide +kernel
theorem dX1_entitledUpTo_11 : decode cX1_entitledUpTo 11 = .ok (.iload_n 2, 1) := by decide +kernel
theorem dX1_entitledUpTo_12 : decode cX1_entitledUpTo 12 = .ok (.iconst 1, 1) := by decide +kernel
theorem dX1_entitledUpTo_13 : decode cX1_entitledUpTo 13 = .ok (.iadd, 1) := by decide +kernel
theorem dX1_entitledUpTo_14 : decode cX1_entitledUpTo 14 = .ok (.invokevirtual 116, 3) := by decide +kernel
theorem dX1_entitledUpTo_17 : decode cX1_entitledUpTo 17 = .ok (.lreturn, 1) := by decide +kernel
set_option maxRecDepth 20000 in
theorem ggX1_protection_X1_find : GoodIn wsX1_protection wsX1_find := goodIn_ca (goodIn_r _ [5, 6, 7, 8, 49, 50, 51, 52] (by decide +kernel) (by decide +kernel)) (goodIn_sub (fun _ h => List.mem_cons_of_mem _ (List.mem_append_right _ h)) (by decide +kernel))
set_option maxRecDepth 20000 in
theorem gX1_protection_X1_find : GoodIn wsX1_protection (wsV RX1 44 RX1 yX1_find wsX1_find) := goodIn_app (goodIn_of _ (by decide +kernel)) ggX1_protection_X1_find
set_option maxRecDepth 20000 in
theorem ggX1_protection_X0_protectionSum : GoodIn wsX1_protection wsX0_protectionSum := goodIn_r _ [13, 14, 15, 16, 17, 18, 19, 20, 21, 22, 23, 12, 24, 25, 26, 27, 28, 29, 30, 31, 32, 33, 34, 35, 36, 37, 38, 39, 40, 41, 42, 43, 44, 45, 46, 47, 48, 53, 54, 55, 56, 57, 58, 59, 60, 61, 62, 63, 64, 65] (by decide +kernel) (by decide +kernel)
set_option maxRecDepth 20000 in
theorem gX1_protection_X0_protectionSum : GoodIn wsX1_protection (wsV RX1 119 RX0 yX0_protectionSum wsX0_protectionSum) := goodIn_app (goodIn_of _ (by decide +kernel)) ggX1_protection_X0_protectionSum
theorem dX1_protection_0 : decode cX1_protection 0 = .ok (.aload_n 0, 1) := by decide +kernel
theorem dX1_protection_1 : decode cX1_protection 1 = .ok (.iload_n 1, 1) := by decide +kernel
theorem dX1_protection_2 : decode cX1_protection 2 = .ok (.invokevirtual 44, 3) := by decide +kernel
theorem dX1_protection_5 : decode cX1_protection 5 = .ok (.invokevirtual 119, 3) := by decide +kernel
theorem dX1_protection_8 : decode cX1_protection 8 = .ok (.lreturn, 1) := by decide +kernel
theorem dX1_find_0 : decode cX1_find 0 = .ok (.iload_n 1, 1) := by decide +kernel
theorem dX1_find_1 : decode cX1_find 1 = .ok (.ifCond .lt 21, 3) := by decide +kernel
theorem dX1_find_4 : decode cX1_find 4 = .ok (.iload_n 1, 1) := by decide +kernel
theorem dX1_find_5 : decode cX1_find 5 = .ok (.aload_n 0, 1) := by decide +kernel
theorem dX1_find_6 : decode cX1_find 6 = .ok (.getfield 11, 3) := by decide +kernel
theorem dX1_find_9 : decode cX1_find 9 = .ok (.arraylength, 1) := by decide +kernel
theorem dX1_find_10 : decode cX1_find 10 = .ok (.if_icmp .ge 12, 3) := by decide +kernel
theorem dX1_find_13 : decode cX1_find 13 = .ok (.aload_n 0, 1) := by decide +kernel
theorem dX1_find_14 : decode cX1_find 14 = .ok (.getfield 11, 3) := by decide +kernel
theorem dX1_find_17 : decode cX1_find 17 = .ok (.iload_n 1, 1) := by decide +kernel
theorem dX1_find_18 : decode cX1_find 18 = .ok (.aaload, 1) := by decide +kernel
theorem dX1_find_19 : decode cX1_find 19 = .ok (.goto 4, 3) := by decide +kernel
theorem dX1_find_22 : decode cX1_find 22 = .ok (.aconst_null, 1) := by decide +kernel
theorem dX1_find_23 : decode cX1_find 23 = .ok (.astore_n 2, 1) := by decide +kernel
theorem dX1_find_24 : decode cX1_find 24 = .ok (.aload_n 2, 1) := by decide +kernel
theorem dX1_find_25 : decode cX1_find 25 = .ok (.ifnonnull 13, 3) := by decide +kernel
theorem dX1_find_28 : decode cX1_find 28 = .ok (.new 123, 3) := by decide +kernel
theorem dX1_find_31 : decode cX1_find 31 = .ok (.dup, 1) := by decide +kernel
theorem dX1_find_32 : decode cX1_find 32 = .ok (.ldc 125, 2) := by decide +kernel
theorem dX1_find_34 : decode cX1_find 34 = .ok (.invokespecial 127, 3) := by decide +kernel
theorem dX1_find_37 : decode cX1_find 37 = .ok (.athrow, 1) := by decide +kernel
theorem dX1_find_38 : decode cX1_find 38 = .ok (.aload_n 2, 1) := by decide +kernel
theorem dX1_find_39 : decode cX1_find 39 = .ok (.areturn, 1) := by decide +kernel
theorem dX1_requireStartNotRun_0 : decode cX1_requireStartNotRun 0 = .ok (.aload_n 1, 1) := by decide +kernel
theorem dX1_requireStartNotRun_1 : decode cX1_requireStartNotRun 1 = .ok (.getfield 128, 3) := by decide +kernel
theorem dX1_requireStartNotRun_4 : decode cX1_requireStartNotRun 4 = .ok (.aload_n 0, 1) := by decide +kernel
theorem dX1_requireStartNotRun_5 : decode cX1_requireStartNotRun 5 = .ok (.getfield 23, 3) := by decide +kernel
theorem dX1_requireStartNotRun_8 : decode cX1_requireStartNotRun 8 = .ok (.if_icmp .ge 13, 3) := by decide +kernel
theorem dX1_requireStartNotRun_11 : decode cX1_requireStartNotRun 11 = .ok (.new 31, 3) := by decide +kernel
theorem dX1_requireStartNotRun_14 : decode cX1_requireStartNotRun 14 = .ok (.dup, 1) := by decide +kernel
theorem dX1_requireStartNotRun_15 : decode cX1_requireStartNotRun 15 = .ok (.ldc 131, 2) := by decide +kernel
theorem dX1_requireStartNotRun_17 : decode cX1_requireStartNotRun 17 = .ok (.invokespecial 35, 3) := by decide +kernel
theorem dX1_requireStartNotRun_20 : decode cX1_requireStartNotRun 20 = .ok (.athrow, 1) := by decide +kernel
theorem dX1_requireStartNotRun_21 : decode cX1_requireStartNotRun 21 = .ok (.return_, 1) := by decide +kernel
set_option maxRecDepth 20000 in
theorem ggX1_requireMonth_X1_requireRange : GoodIn wsX1_requireMonth wsX1_requireRange := goodIn_ca (goodIn_r _ [4, 5, 6] (by decide +kernel) (by decide +kernel)) (goodIn_sub (fun _ h => List.mem_cons_of_mem _ (List.mem_append_right _ h)) (by decide +kernel))
set_option maxRecDepth 20000 in
theorem gX1_requireMonth_X1_requireRange : GoodIn wsX1_requireMonth (va_wsS RX1 26 yX1_requireRange wsX1_requireRange) := goodIn_app (goodIn_of _ (by decide +kernel)) ggX1_requireMonth_X1_requireRange
theorem dX1_requireMonth_0 : decode cX1_requireMonth 0 = .ok (.iload_n 0, 1) := by decide +kernel
theorem dX1_requireMonth_1 : decode cX1_requireMonth 1 = .ok (.iconst 0, 1) := by decide +kernel
theorem dX1_requireMonth_2 : decode cX1_requireMonth 2 = .ok (.sipush 239, 3) := by decide +kernel
theorem dX1_requireMonth_5 : decode cX1_requireMonth 5 = .ok (.invokestatic 26, 3) := by decide +kernel
theorem dX1_requireMonth_8 : decode cX1_requireMonth 8 = .ok (.return_, 1) := by decide +kernel
theorem dX1_requireRange_0 : decode cX1_requireRange 0 = .ok (.iload_n 0, 1) := by decide +kernel
theorem dX1_requireRange_1 : decode cX1_requireRange 1 = .ok (.iload_n 1, 1) := by decide +kernel
theorem dX1_requireRange_2 : decode cX1_requireRange 2 = .ok (.if_icmp .lt 8, 3) := by decide +kernel
theorem dX1_requireRange_5 : decode cX1_requireRange 5 = .ok (.iload_n 0, 1) := by decide +kernel
theorem dX1_requireRange_6 : decode cX1_requireRange 6 = .ok (.iload_n 2, 1) := by decide +kernel
theorem dX1_requireRange_7 : decode cX1_requireRange 7 = .ok (.if_icmp .le 13, 3) := by decide +kernel
theorem dX1_requireRange_10 : decode cX1_requireRange 10 = .ok (.new 133, 3) := by decide +kernel
theorem dX1_requireRange_13 : decode cX1_requireRange 13 = .ok (.dup, 1) := by decide +kernel
theorem dX1_requireRange_14 : decode cX1_requireRange 14 = .ok (.ldc 135, 2) := by decide +kernel
theorem dX1_requireRange_16 : decode cX1_requireRange 16 = .ok (.invokespecial 137, 3) := by decide +kernel
theorem dX1_requireRange_19 : decode cX1_requireRange 19 = .ok (.athrow, 1) := by decide +kernel
theorem dX1_requireRange_20 : decode cX1_requireRange 20 = .ok (.return_, 1) := by decide +kernel
theorem dJ9_max_7cf53_0 : decode cJ9_max_7cf53 0 = .ok (.iload_n 0, 1) := by decide +kernel
theorem dJ9_max_7cf53_1 : decode cJ9_max_7cf53 1 = .ok (.iload_n 1, 1) := by decide +kernel
theorem dJ9_max_7cf53_2 : decode cJ9_max_7cf53 2 = .ok (.if_icmp .lt 7, 3) := by decide +kernel
theorem dJ9_max_7cf53_5 : decode cJ9_max_7cf53 5 = .ok (.iload_n 0, 1) := by decide +kernel
theorem dJ9_max_7cf53_6 : decode cJ9_max_7cf53 6 = .ok (.goto 4, 3) := by decide +kernel
theorem dJ9_max_7cf53_9 : decode cJ9_max_7cf53 9 = .ok (.iload_n 1, 1) := by decide +kernel
theorem dJ9_max_7cf53_10 : decode cJ9_max_7cf53 10 = .ok (.ireturn, 1) := by decide +kernel
theorem dJ9_max_f86c9_0 : decode cJ9_max_f86c9 0 = .ok (.lload_n 0, 1) := by decide +kernel
theorem dJ9_max_f86c9_1 : decode cJ9_max_f86c9 1 = .ok (.lload_n 2, 1) := by decide +kernel
theorem dJ9_max_f86c9_2 : decode cJ9_max_f86c9 2 = .ok (.lcmp, 1) := by decide +kernel
theorem dJ9_max_f86c9_3 : decode cJ9_max_f86c9 3 = .ok (.ifCond .lt 7, 3) := by decide +kernel
theorem dJ9_max_f86c9_6 : decode cJ9_max_f86c9 6 = .ok (.lload_n 0, 1) := by decide +kernel
theorem dJ9_max_f86c9_7 : decode cJ9_max_f86c9 7 = .ok (.goto 4, 3) := by decide +kernel
theorem dJ9_max_f86c9_10 : decode cJ9_max_f86c9 10 = .ok (.lload_n 2, 1) := by decide +kernel
theorem dJ9_max_f86c9_11 : decode cJ9_max_f86c9 11 = .ok (.lreturn, 1) := by decide +kernel
theorem dJ9_min_7cf53_0 : decode cJ9_min_7cf53 0 = .ok (.iload_n 0, 1) := by decide +kernel
theorem dJ9_min_7cf53_1 : decode cJ9_min_7cf53 1 = .ok (.iload_n 1, 1) := by decide +kernel
theorem dJ9_min_7cf53_2 : decode cJ9_min_7cf53 2 = .ok (.if_icmp .gt 7, 3) := by decide +kernel
theorem dJ9_min_7cf53_5 : decode cJ9_min_7cf53 5 = .ok (.iload_n 0, 1) := by decide +kernel
theorem dJ9_min_7cf53_6 : decode cJ9_min_7cf53 6 = .ok (.goto 4, 3) := by decide +kernel
theorem dJ9_min_7cf53_9 : decode cJ9_min_7cf53 9 = .ok (.iload_n 1, 1) := by decide +kernel
theorem dJ9_min_7cf53_10 : decode cJ9_min_7cf53 10 = .ok (.ireturn, 1) := by decide +kernel
