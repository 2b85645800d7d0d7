theorem inJ0 : ∀ w ∈ wsJ00, w ∈ lw_tbl := by decide +kernel
theorem dX0_init_0 : decode cX0_init 0 = .ok (.aload_n 0, 1) := by decide +kernel
theorem dX0_init_1 : decode cX0_init 1 = .ok (.invokespecial 3, 3) := by decide +kernel
theorem dX0_init_4 : decode cX0_init 4 = .ok (.aload_n 0, 1) := by decide +kernel
theorem dX0_init_5 : decode cX0_init 5 = .ok (.iload_n 1, 1) := by decide +kernel
theorem dX0_init_6 : decode cX0_init 6 = .ok (.putfield 9, 3) := by decide +kernel
theorem dX0_init_9 : decode cX0_init 9 = .ok (.aload_n 0, 1) := by decide +kernel
theorem dX0_init_10 : decode cX0_init 10 = .ok (.iload_n 2, 1) := by decide +kernel
theorem dX0_init_11 : decode cX0_init 11 = .ok (.putfield 15, 3) := by decide +kernel
theorem dX0_init_14 : decode cX0_init 14 = .ok (.aload_n 0, 1) := by decide +kernel
theorem dX0_init_15 : decode cX0_init 15 = .ok (.iload_n 1, 1) := by decide +kernel
theorem dX0_init_16 : decode cX0_init 16 = .ok (.iload_n 3, 1) := by decide +kernel
theorem dX0_init_17 : decode cX0_init 17 = .ok (.iadd, 1) := by decide +kernel
theorem dX0_init_18 : decode cX0_init 18 = .ok (.putfield 18, 3) := by decide +kernel
theorem dX0_init_21 : decode cX0_init 21 = .ok (.aload_n 0, 1) := by decide +kernel
theorem dX0_init_22 : decode cX0_init 22 = .ok (.bipush 100, 2) := by decide +kernel
theorem dX0_init_24 : decode cX0_init 24 = .ok (.putfield 21, 3) := by decide +kernel
theorem dX0_init_27 : decode cX0_init 27 = .ok (.aload_n 0, 1) := by decide +kernel
theorem dX0_init_28 : decode cX0_init 28 = .ok (.iconst 0, 1) := by decide +kernel
theorem dX0_init_29 : decode cX0_init 29 = .ok (.putfield 24, 3) := by decide +kernel
theorem dX0_init_32 : decode cX0_init 32 = .ok (.aload_n 0, 1) := by decide +kernel
theorem dX0_init_33 : decode cX0_init 33 = .ok (.iconst 0, 1) := by decide +kernel
theorem dX0_init_34 : decode cX0_init 34 = .ok (.putfield 28, 3) := by decide +kernel
theorem dX0_init_37 : decode cX0_init 37 = .ok (.aload_n 0, 1) := by decide +kernel
theorem dX0_init_38 : decode cX0_init 38 = .ok (.iconst 0, 1) := by decide +kernel
theorem dX0_init_39 : decode cX0_init 39 = .ok (.putfield 31, 3) := by decide +kernel
theorem dX0_init_42 : decode cX0_init 42 = .ok (.aload_n 0, 1) := by decide +kernel
theorem dX0_init_43 : decode cX0_init 43 = .ok (.iconst 0, 1) := by decide +kernel
theorem dX0_init_44 : decode cX0_init 44 = .ok (.putfield 34, 3) := by decide +kernel
theorem dX0_init_47 : decode cX0_init 47 = .ok (.aload_n 0, 1) := by decide +kernel
theorem dX0_init_48 : decode cX0_init 48 = .ok (.iconst 2, 1) := by decide +kernel
theorem dX0_init_49 : decode cX0_init 49 = .ok (.newarray .int, 2) := by decide +kernel
theorem dX0_init_51 : decode cX0_init 51 = .ok (.dup, 1) := by decide +kernel
theorem dX0_init_52 : decode cX0_init 52 = .ok (.iconst 0, 1) := by decide +kernel
theorem dX0_init_53 : decode cX0_init 53 = .ok (.sipush 240, 3) := by decide +kernel
theorem dX0_init_56 : decode cX0_init 56 = .ok (.iastore, 1) := by decide +kernel
theorem dX0_init_57 : decode cX0_init 57 = .ok (.dup, 1) := by decide +kernel
theorem dX0_init_58 : decode cX0_init 58 = .ok (.iconst 1, 1) := by decide +kernel
theorem dX0_init_59 : decode cX0_init 59 = .ok (.sipush 240, 3) := by decide +kernel
theorem dX0_init_62 : decode cX0_init 62 = .ok (.iastore, 1) := by decide +kernel
theorem dX0_init_63 : decode cX0_init 63 = .ok (.putfield 37, 3) := by decide +kernel
theorem dX0_init_66 : decode cX0_init 66 = .ok (.aload_n 0, 1) := by decide +kernel
theorem dX0_init_67 : decode cX0_init 67 = .ok (.bipush 20, 2) := by decide +kernel
theorem dX0_init_69 : decode cX0_init 69 = .ok (.newarray .int, 2) := by decide +kernel
theorem dX0_init_71 : decode cX0_init 71 = .ok (.putfield 41, 3) := by decide +kernel
theorem dX0_init_74 : decode cX0_init 74 = .ok (.aload_n 0, 1) := by decide +kernel
theorem dX0_init_75 : decode cX0_init 75 = .ok (.bipush 20, 2) := by decide +kernel
theorem dX0_init_77 : decode cX0_init 77 = .ok (.newarray .int, 2) := by decide +kernel
theorem dX0_init_79 : decode cX0_init 79 = .ok (.putfield 44, 3) := by decide +kernel
theorem dX0_init_82 : decode cX0_init 82 = .ok (.aload_n 0, 1) := by decide +kernel
theorem dX0_init_83 : decode cX0_init 83 = .ok (.sipush 240, 3) := by decide +kernel
theorem dX0_init_86 : decode cX0_init 86 = .ok (.newarray .long, 2) := by decide +kernel
theorem dX0_init_88 : decode cX0_init 88 = .ok (.putfield 47, 3) := by decide +kernel
theorem dX0_init_91 : decode cX0_init 91 = .ok (.aload_n 0, 1) := by decide +kernel
theorem dX0_init_92 : decode cX0_init 92 = .ok (.lconst 0, 1) := by decide +kernel
theorem dX0_init_93 : decode cX0_init 93 = .ok (.putfield 51, 3) := by decide +kernel
theorem dX0_init_96 : decode cX0_init 96 = .ok (.return_, 1) := by decide +kernel
theorem dX0_growBy_0 : decode cX0_growBy 0 = .ok (.aload_n 0, 1) := by decide +kernel
theorem dX0_growBy_1 : decode cX0_growBy 1 = .ok (.getfield 15, 3) := by decide +kernel
theorem dX0_growBy_4 : decode cX0_growBy 4 = .ok (.istore_n 2, 1) := by decide +kernel
theorem dX0_growBy_5 : decode cX0_growBy 5 = .ok (.iconst 0, 1) := by decide +kernel
theorem dX0_growBy_6 : decode cX0_growBy 6 = .ok (.istore_n 3, 1) := by decide +kernel
theorem dX0_growBy_7 : decode cX0_growBy 7 = .ok (.aload_n 0, 1) := by decide +kernel
theorem dX0_growBy_8 : decode cX0_growBy 8 = .ok (.getfield 41, 3) := by decide +kernel
theorem dX0_growBy_11 : decode cX0_growBy 11 = .ok (.iconst 0, 1) := by decide +kernel
theorem dX0_growBy_12 : decode cX0_growBy 12 = .ok (.iload_n 2, 1) := by decide +kernel
theorem dX0_growBy_13 : decode cX0_growBy 13 = .ok (.iastore, 1) := by decide +kernel
theorem dX0_growBy_14 : decode cX0_growBy 14 = .ok (.aload_n 0, 1) := by decide +kernel
theorem dX0_growBy_15 : decode cX0_growBy 15 = .ok (.getfield 44, 3) := by decide +kernel
theorem dX0_growBy_18 : decode cX0_growBy 18 = .ok (.iconst 0, 1) := by decide +kernel
theorem dX0_growBy_19 : decode cX0_growBy 19 = .ok (.iload_n 3, 1) := by decide +kernel
theorem dX0_growBy_20 : decode cX0_growBy 20 = .ok (.iastore, 1) := by decide +kernel
theorem dX0_growBy_21 : decode cX0_growBy 21 = .ok (.iconst 1, 1) := by decide +kernel
theorem dX0_growBy_22 : decode cX0_growBy 22 = .ok (.istore 4, 2) := by decide +kernel
theorem dX0_growBy_24 : decode cX0_growBy 24 = .ok (.iload 4, 2) := by decide +kernel
theorem dX0_growBy_26 : decode cX0_growBy 26 = .ok (.bipush 20, 2) := by decide +kernel
theorem dX0_growBy_28 : decode cX0_growBy 28 = .ok (.if_icmp .ge 86, 3) := by decide +kernel
theorem dX0_growBy_31 : decode cX0_growBy 31 = .ok (.aload_n 0, 1) := by decide +kernel
theorem dX0_growBy_32 : decode cX0_growBy 32 = .ok (.getfield 9, 3) := by decide +kernel
theorem dX0_growBy_35 : decode cX0_growBy 35 = .ok (.bipush 12, 2) := by decide +kernel
theorem dX0_growBy_37 : decode cX0_growBy 37 = .ok (.idiv, 1) := by decide +kernel
theorem dX0_growBy_38 : decode cX0_growBy 38 = .ok (.iload 4, 2) := by decide +kernel
theorem dX0_growBy_40 : decode cX0_growBy 40 = .ok (.iadd, 1) := by decide +kernel
theorem dX0_growBy_41 : decode cX0_growBy 41 = .ok (.iconst 1, 1) := by decide +kernel
theorem dX0_growBy_42 : decode cX0_growBy 42 = .ok (.isub, 1) := by decide +kernel
theorem dX0_growBy_43 : decode cX0_growBy 43 = .ok (.istore 5, 2) := by decide +kernel
theorem dX0_growBy_45 : decode cX0_growBy 45 = .ok (.iload 5, 2) := by decide +kernel
theorem dX0_growBy_47 : decode cX0_growBy 47 = .ok (.aload_n 1, 1) := by decide +kernel
theorem dX0_growBy_48 : decode cX0_growBy 48 = .ok (.arraylength, 1) := by decide +kernel
theorem dX0_growBy_49 : decode cX0_growBy 49 = .ok (.if_icmp .ge 43, 3) := by decide +kernel
theorem dX0_growBy_52 : decode cX0_growBy 52 = .ok (.aload_n 1, 1) := by decide +kernel
theorem dX0_growBy_53 : decode cX0_growBy 53 = .ok (.iload 5, 2) := by decide +kernel
theorem dX0_growBy_55 : decode cX0_growBy 55 = .ok (.iaload, 1) := by decide +kernel
theorem dX0_growBy_56 : decode cX0_growBy 56 = .ok (.iload_n 3, 1) := by decide +kernel
theorem dX0_growBy_57 : decode cX0_growBy 57 = .ok (.iadd, 1) := by decide +kernel
theorem dX0_growBy_58 : decode cX0_growBy 58 = .ok (.istore 6, 2) := by decide +kernel
theorem dX0_growBy_60 : decode cX0_growBy 60 = .ok (.iconst 0, 1) := by decide +kernel
theorem dX0_growBy_61 : decode cX0_growBy 61 = .ok (.iload 6, 2) := by decide +kernel
theorem dX0_growBy_63 : decode cX0_growBy 63 = .ok (.aload_n 0, 1) := by decide +kernel
theorem dX0_growBy_64 : decode cX0_growBy 64 = .ok (.getfield 28, 3) := by decide +kernel
theorem dX0_growBy_67 : decode cX0_growBy 67 = .ok (.invokestatic 55, 3) := by decide +kernel
theorem dX0_growBy_70 : decode cX0_growBy 70 = .ok (.invokestatic 61, 3) := by decide +kernel
theorem dX0_growBy_73 : decode cX0_growBy 73 = .ok (.istore 7, 2) := by decide +kernel
theorem dX0_growBy_75 : decode cX0_growBy 75 = .ok (.iload 6, 2) := by decide +kernel
theorem dX0_growBy_77 : decode cX0_growBy 77 = .ok (.iload 7, 2) := by decide +kernel
theorem dX0_growBy_79 : decode cX0_growBy 79 = .ok (.isub, 1) := by decide +kernel
theorem dX0_growBy_80 : decode cX0_growBy 80 = .ok (.istore_n 3, 1) := by decide +kernel
theorem dX0_growBy_81 : decode cX0_growBy 81 = .ok (.iload_n 2, 1) := by decide +kernel
theorem dX0_growBy_82 : decode cX0_growBy 82 = .ok (.iload_n 2, 1) := by decide +kernel
theorem dX0_growBy_83 : decode cX0_growBy 83 = .ok (.iload 7, 2) := by decide +kernel
theorem dX0_growBy_85 : decode cX0_growBy 85 = .ok (.imul, 1) := by decide +kernel
theorem dX0_growBy_86 : decode cX0_growBy 86 = .ok (.sipush 1000, 3) := by decide +kernel
theorem dX0_growBy_89 : decode cX0_growBy 89 = .ok (.idiv, 1) := by decide +kernel
theorem dX0_growBy_90 : decode cX0_growBy 90 = .ok (.iadd, 1) := by decide +kernel
theorem dX0_growBy_91 : decode cX0_growBy 91 = .ok (.istore_n 2, 1) := by decide +kernel
theorem dX0_growBy_92 : decode cX0_growBy 92 = .ok (.aload_n 0, 1) := by decide +kernel
theorem dX0_growBy_93 : decode cX0_growBy 93 = .ok (.getfield 41, 3) := by decide +kernel
theorem dX0_growBy_96 : decode cX0_growBy 96 = .ok (.iload 4, 2) := by decide +kernel
theorem dX0_growBy_98 : decode cX0_growBy 98 = .ok (.iload_n 2, 1) := by decide +kernel
theorem dX0_growBy_99 : decode cX0_growBy 99 = .ok (.iastore, 1) := by decide +kernel
theorem dX0_growBy_100 : decode cX0_growBy 100 = .ok (.aload_n 0, 1) := by decide +kernel
theorem dX0_growBy_101 : decode cX0_growBy 101 = .ok (.getfield 44, 3) := by decide +kernel
theorem dX0_growBy_104 : decode cX0_growBy 104 = .ok (.iload 4, 2) := by decide +kernel
theorem dX0_growBy_106 : decode cX0_growBy 106 = .ok (.iload_n 3, 1) := by decide +kernel
theorem dX0_growBy_107 : decode cX0_growBy 107 = .ok (.iastore, 1) := by decide +kernel
theorem dX0_growBy_108 : decode cX0_growBy 108 = .ok (.iinc 4 1, 3) := by decide +kernel
theorem dX0_growBy_111 : decode cX0_growBy 111 = .ok (.goto (-87), 3) := by decide +kernel
theorem dX0_growBy_114 : decode cX0_growBy 114 = .ok (.return_, 1) := by decide +kernel
theorem dX0_fullIn_0 : decode cX0_fullIn 0 = .ok (.iload_n 1, 1) := by decide +kernel
theorem dX0_fullIn_1 : decode cX0_fullIn 1 = .ok (.aload_n 0, 1) := by decide +kernel
theorem dX0_fullIn_2 : decode cX0_fullIn 2 = .ok (.getfield 9, 3) := by decide +kernel
theorem dX0_fullIn_5 : decode cX0_fullIn 5 = .ok (.if_icmp .ge 7, 3) := by decide +kernel
theorem dX0_fullIn_8 : decode cX0_fullIn 8 = .ok (.iconst 0, 1) := by decide +kernel
theorem dX0_fullIn_9 : decode cX0_fullIn 9 = .ok (.goto 17, 3) := by decide +kernel
theorem dX0_fullIn_12 : decode cX0_fullIn 12 = .ok (.aload_n 0, 1) := by decide +kernel
theorem dX0_fullIn_13 : decode cX0_fullIn 13 = .ok (.getfield 41, 3) := by decide +kernel
theorem dX0_fullIn_16 : decode cX0_fullIn 16 = .ok (.iload_n 1, 1) := by decide +kernel
theorem dX0_fullIn_17 : decode cX0_fullIn 17 = .ok (.aload_n 0, 1) := by decide +kernel
theorem dX0_fullIn_18 : decode cX0_fullIn 18 = .ok (.getfield 9, 3) := by decide +kernel
theorem dX0_fullIn_21 : decode cX0_fullIn 21 = .ok (.isub, 1) := by decide +kernel
theorem dX0_fullIn_22 : decode cX0_fullIn 22 = .ok (.bipush 12, 2) := by decide +kernel
theorem dX0_fullIn_24 : decode cX0_fullIn 24 = .ok (.idiv, 1) := by decide +kernel
theorem dX0_fullIn_25 : decode cX0_fullIn 25 = .ok (.iaload, 1) := by decide +kernel
theorem dX0_fullIn_26 : decode cX0_fullIn 26 = .ok (.ireturn, 1) := by decide +kernel
theorem dX0_carryIn_0 : decode cX0_carryIn 0 = .ok (.iload_n 1, 1) := by decide +kernel
theorem dX0_carryIn_1 : decode cX0_carryIn 1 = .ok (.aload_n 0, 1) := by decide +kernel
theorem dX0_carryIn_2 : decode cX0_carryIn 2 = .ok (.getfield 9, 3) := by decide +kernel
theorem dX0_carryIn_5 : decode cX0_carryIn 5 = .ok (.if_icmp .ge 7, 3) := by decide +kernel
theorem dX0_carryIn_8 : decode cX0_carryIn 8 = .ok (.iconst 0, 1) := by decide +kernel
theorem dX0_carryIn_9 : decode cX0_carryIn 9 = .ok (.goto 17, 3) := by decide +kernel
theorem dX0_carryIn_12 : decode cX0_carryIn 12 = .ok (.aload_n 0, 1) := by decide +kernel
theorem dX0_carryIn_13 : decode cX0_carryIn 13 = .ok (.getfield 44, 3) := by decide +kernel
theorem dX0_carryIn_16 : decode cX0_carryIn 16 = .ok (.iload_n 1, 1) := by decide +kernel
theorem dX0_carryIn_17 : decode cX0_carryIn 17 = .ok (.aload_n 0, 1) := by decide +kernel
theorem dX0_carryIn_18 : decode cX0_carryIn 18 = .ok (.getfield 9, 3) := by decide +kernel
theorem dX0_carryIn_21 : decode cX0_carryIn 21 = .ok (.isub, 1) := by decide +kernel
theorem dX0_carryIn_22 : decode cX0_carryIn 22 = .ok (.bipush 12, 2) := by decide +kernel
theorem dX0_carryIn_24 : decode cX0_carryIn 24 = .ok (.idiv, 1) := by decide +kernel
theorem dX0_carryIn_25 : decode cX0_carryIn 25 = .ok (.iaload, 1) := by decide +kernel
theorem dX0_carryIn_26 : decode cX0_carryIn 26 = .ok (.ireturn, 1) := by decide +kernel
set_option maxRecDepth 20000 in
theorem ggX0_shareIn_X0_fullIn : GoodIn wsX0_shareIn wsX0_fullIn := goodIn_r _ [11, 1, 12, 13, 14, 15, 16, 17, 18, 19, 20, 21, 22, 23, 24, 25] (by decide +kernel) (by decide +kernel)
set_option maxRecDepth 20000 in
theorem gX0_shareIn_X0_fullIn : GoodIn wsX0_shareIn (wsV RX0 64 RX0 yX0_fullIn wsX0_fullIn) := goodIn_app (goodIn_of _ (by decide +kernel)) ggX0_shareIn_X0_fullIn
theorem dX0_shareIn_0 : decode cX0_shareIn 0 = .ok (.iload_n 1, 1) := by decide +kernel
theorem dX0_shareIn_1 : decode cX0_shareIn 1 = .ok (.aload_n 0, 1) := by decide +kernel
theorem dX0_shareIn_2 : decode cX0_shareIn 2 = .ok (.getfield 9, 3) := by decide +kernel
theorem dX0_shareIn_5 : decode cX0_shareIn 5 = .ok (.if_icmp .ge 5, 3) := by decide +kernel
theorem dX0_shareIn_8 : decode cX0_shareIn 8 = .ok (.lconst 0, 1) := by decide +kernel
theorem dX0_shareIn_9 : decode cX0_shareIn 9 = .ok (.lreturn, 1) := by decide +kernel
theorem dX0_shareIn_10 : decode cX0_shareIn 10 = .ok (.aload_n 0, 1) := by decide +kernel
theorem dX0_shareIn_11 : decode cX0_shareIn 11 = .ok (.iload_n 1, 1) := by decide +kernel
theorem dX0_shareIn_12 : decode cX0_shareIn 12 = .ok (.invokevirtual 64, 3) := by decide +kernel
theorem dX0_shareIn_15 : decode cX0_shareIn 15 = .ok (.i2l, 1) := by decide +kernel
theorem dX0_shareIn_16 : decode cX0_shareIn 16 = .ok (.lstore_n 2, 1) := by decide +kernel
theorem dX0_shareIn_17 : decode cX0_shareIn 17 = .ok (.iload_n 1, 1) := by decide +kernel
theorem dX0_shareIn_18 : decode cX0_shareIn 18 = .ok (.aload_n 0, 1) := by decide +kernel
theorem dX0_shareIn_19 : decode cX0_shareIn 19 = .ok (.getfield 37, 3) := by decide +kernel
theorem dX0_shareIn_22 : decode cX0_shareIn 22 = .ok (.iconst 0, 1) := by decide +kernel
theorem dX0_shareIn_23 : decode cX0_shareIn 23 = .ok (.iaload, 1) := by decide +kernel
theorem dX0_shareIn_24 : decode cX0_shareIn 24 = .ok (.if_icmp .gt 7, 3) := by decide +kernel
theorem dX0_shareIn_27 : decode cX0_shareIn 27 = .ok (.iconst 1, 1) := by decide +kernel
theorem dX0_shareIn_28 : decode cX0_shareIn 28 = .ok (.goto 4, 3) := by decide +kernel
theorem dX0_shareIn_31 : decode cX0_shareIn 31 = .ok (.iconst 0, 1) := by decide +kernel
theorem dX0_shareIn_32 : decode cX0_shareIn 32 = .ok (.istore 4, 2) := by decide +kernel
theorem dX0_shareIn_34 : decode cX0_shareIn 34 = .ok (.iload_n 1, 1) := by decide +kernel
theorem dX0_shareIn_35 : decode cX0_shareIn 35 = .ok (.aload_n 0, 1) := by decide +kernel
theorem dX0_shareIn_36 : decode cX0_shareIn 36 = .ok (.getfield 37, 3) := by decide +kernel
theorem dX0_shareIn_39 : decode cX0_shareIn 39 = .ok (.iconst 1, 1) := by decide +kernel
theorem dX0_shareIn_40 : decode cX0_shareIn 40 = .ok (.iaload, 1) := by decide +kernel
theorem dX0_shareIn_41 : decode cX0_shareIn 41 = .ok (.if_icmp .gt 7, 3) := by decide +kernel
theorem dX0_shareIn_44 : decode cX0_shareIn 44 = .ok (.iconst 1, 1) := by decide +kernel
theorem dX0_shareIn_45 : decode cX0_shareIn 45 = .ok (.goto 4, 3) := by decide +kernel
theorem dX0_shareIn_48 : decode cX0_shareIn 48 = .ok (.iconst 0, 1) := by decide +kernel
theorem dX0_shareIn_49 : decode cX0_shareIn 49 = .ok (.istore 5, 2) := by decide +kernel
theorem dX0_shareIn_51 : decode cX0_shareIn 51 = .ok (.iload_n 1, 1) := by decide +kernel
theorem dX0_shareIn_52 : decode cX0_shareIn 52 = .ok (.aload_n 0, 1) := by decide +kernel
theorem dX0_shareIn_53 : decode cX0_shareIn 53 = .ok (.getfield 18, 3) := by decide +kernel
theorem dX0_shareIn_56 : decode cX0_shareIn 56 = .ok (.if_icmp .lt 13, 3) := by decide +kernel
theorem dX0_shareIn_59 : decode cX0_shareIn 59 = .ok (.iload 4, 2) := by decide +kernel
theorem dX0_shareIn_61 : decode cX0_shareIn 61 = .ok (.ifCond .eq 10, 3) := by decide +kernel
theorem dX0_shareIn_64 : decode cX0_shareIn 64 = .ok (.iload 5, 2) := by decide +kernel
theorem dX0_shareIn_66 : decode cX0_shareIn 66 = .ok (.ifCond .eq 5, 3) := by decide +kernel
theorem dX0_shareIn_69 : decode cX0_shareIn 69 = .ok (.lload_n 2, 1) := by decide +kernel
theorem dX0_shareIn_70 : decode cX0_shareIn 70 = .ok (.lreturn, 1) := by decide +kernel
theorem dX0_shareIn_71 : decode cX0_shareIn 71 = .ok (.iload 4, 2) := by decide +kernel
theorem dX0_shareIn_73 : decode cX0_shareIn 73 = .ok (.ifCond .eq 12, 3) := by decide +kernel
theorem dX0_shareIn_76 : decode cX0_shareIn 76 = .ok (.aload_n 0, 1) := by decide +kernel
theorem dX0_shareIn_77 : decode cX0_shareIn 77 = .ok (.getfield 24, 3) := by decide +kernel
theorem dX0_shareIn_80 : decode cX0_shareIn 80 = .ok (.ifCond .ne 5, 3) := by decide +kernel
theorem dX0_shareIn_83 : decode cX0_shareIn 83 = .ok (.lload_n 2, 1) := by decide +kernel
theorem dX0_shareIn_84 : decode cX0_shareIn 84 = .ok (.lreturn, 1) := by decide +kernel
theorem dX0_shareIn_85 : decode cX0_shareIn 85 = .ok (.iload 4, 2) := by decide +kernel
theorem dX0_shareIn_87 : decode cX0_shareIn 87 = .ok (.ifCond .ne 8, 3) := by decide +kernel
theorem dX0_shareIn_90 : decode cX0_shareIn 90 = .ok (.iload 5, 2) := by decide +kernel
theorem dX0_shareIn_92 : decode cX0_shareIn 92 = .ok (.ifCond .eq 17, 3) := by decide +kernel
theorem dX0_shareIn_95 : decode cX0_shareIn 95 = .ok (.lload_n 2, 1) := by decide +kernel
theorem dX0_shareIn_96 : decode cX0_shareIn 96 = .ok (.aload_n 0, 1) := by decide +kernel
theorem dX0_shareIn_97 : decode cX0_shareIn 97 = .ok (.getfield 21, 3) := by decide +kernel
theorem dX0_shareIn_100 : decode cX0_shareIn 100 = .ok (.i2l, 1) := by decide +kernel
theorem dX0_shareIn_101 : decode cX0_shareIn 101 = .ok (.lmul, 1) := by decide +kernel
theorem dX0_shareIn_102 : decode cX0_shareIn 102 = .ok (.ldc2_w 68, 3) := by decide +kernel
theorem dX0_shareIn_105 : decode cX0_shareIn 105 = .ok (.ldiv, 1) := by decide +kernel
theorem dX0_shareIn_106 : decode cX0_shareIn 106 = .ok (.goto 4, 3) := by decide +kernel
theorem dX0_shareIn_109 : decode cX0_shareIn 109 = .ok (.lconst 0, 1) := by decide +kernel
theorem dX0_shareIn_110 : decode cX0_shareIn 110 = .ok (.lreturn, 1) := by decide +kernel
set_option maxRecDepth 20000 in
theorem ggX0_sharesAhead_X0_shareIn : GoodIn wsX0_sharesAhead wsX0_shareIn := goodIn_r _ [6, 1, 7, 8, 9, 10, 11, 12, 13, 14, 5, 15, 16, 17, 18, 19, 20, 21, 22, 23, 24, 25, 26, 27, 28, 29] (by decide +kernel) (by decide +kernel)
set_option maxRecDepth 20000 in
theorem gX0_sharesAhead_X0_shareIn : GoodIn wsX0_sharesAhead (wsV RX0 70 RX0 yX0_shareIn wsX0_shareIn) := goodIn_app (goodIn_of _ (by decide +kernel)) ggX0_sharesAhead_X0_shareIn
theorem dX0_sharesAhead_0 : decode cX0_sharesAhead 0 = .ok (.lconst 0, 1) := by decide +kernel
theorem dX0_sharesAhead_1 : decode cX0_sharesAhead 1 = .ok (.lstore_n 2, 1) := by decide +kernel
theorem dX0_sharesAhead_2 : decode cX0_sharesAhead 2 = .ok (.aload_n 0, 1) := by decide +kernel
theorem dX0_sharesAhead_3 : decode cX0_sharesAhead 3 = .ok (.getfield 9, 3) := by decide +kernel
theorem dX0_sharesAhead_6 : decode cX0_sharesAhead 6 = .ok (.istore 4, 2) := by decide +kernel
theorem dX0_sharesAhead_8 : decode cX0_sharesAhead 8 = .ok (.iload 4, 2) := by decide +kernel
theorem dX0_sharesAhead_10 : decode cX0_sharesAhead 10 = .ok (.iload_n 1, 1) := by decide +kernel
theorem dX0_sharesAhead_11 : decode cX0_sharesAhead 11 = .ok (.if_icmp .ge 18, 3) := by decide +kernel
theorem dX0_sharesAhead_14 : decode cX0_sharesAhead 14 = .ok (.lload_n 2, 1) := by decide +kernel
theorem dX0_sharesAhead_15 : decode cX0_sharesAhead 15 = .ok (.aload_n 0, 1) := by decide +kernel
theorem dX0_sharesAhead_16 : decode cX0_sharesAhead 16 = .ok (.iload 4, 2) := by decide +kernel
theorem dX0_sharesAhead_18 : decode cX0_sharesAhead 18 = .ok (.invokevirtual 70, 3) := by decide +kernel
theorem dX0_sharesAhead_21 : decode cX0_sharesAhead 21 = .ok (.ladd, 1) := by decide +kernel
theorem dX0_sharesAhead_22 : decode cX0_sharesAhead 22 = .ok (.lstore_n 2, 1) := by decide +kernel
theorem dX0_sharesAhead_23 : decode cX0_sharesAhead 23 = .ok (.iinc 4 1, 3) := by decide +kernel
theorem dX0_sharesAhead_26 : decode cX0_sharesAhead 26 = .ok (.goto (-18), 3) := by decide +kernel
theorem dX0_sharesAhead_29 : decode cX0_sharesAhead 29 = .ok (.lload_n 2, 1) := by decide +kernel
theorem dX0_sharesAhead_30 : decode cX0_sharesAhead 30 = .ok (.lreturn, 1) := by decide +kernel
theorem dX0_protectionMonth_0 : decode cX0_protectionMonth 0 = .ok (.aload_n 0, 1) := by decide +kernel
theorem dX0_protectionMonth_1 : decode cX0_protectionMonth 1 = .ok (.getfield 37, 3) := by decide +kernel
theorem dX0_protectionMonth_4 : decode cX0_protectionMonth 4 = .ok (.iconst 0, 1) := by decide +kernel
theorem dX0_protectionMonth_5 : decode cX0_protectionMonth 5 = .ok (.iaload, 1) := by decide +kernel
theorem dX0_protectionMonth_6 : decode cX0_protectionMonth 6 = .ok (.sipush 240, 3) := by decide +kernel
theorem dX0_protectionMonth_9 : decode cX0_protectionMonth 9 = .ok (.if_icmp .eq 15, 3) := by decide +kernel
theorem dX0_protectionMonth_12 : decode cX0_protectionMonth 12 = .ok (.aload_n 0, 1) := by decide +kernel
theorem dX0_protectionMonth_13 : decode cX0_protectionMonth 13 = .ok (.getfield 37, 3) := by decide +kernel
theorem dX0_protectionMonth_16 : decode cX0_protectionMonth 16 = .ok (.iconst 1, 1) := by decide +kernel
theorem dX0_protectionMonth_17 : decode cX0_protectionMonth 17 = .ok (.iaload, 1) := by decide +kernel
theorem dX0_protectionMonth_18 : decode cX0_protectionMonth 18 = .ok (.sipush 240, 3) := by decide +kernel
theorem dX0_protectionMonth_21 : decode cX0_protectionMonth 21 = .ok (.if_icmp .ne 7, 3) := by decide +kernel
theorem dX0_protectionMonth_24 : decode cX0_protectionMonth 24 = .ok (.sipush 240, 3) := by decide +kernel
theorem dX0_protectionMonth_27 : decode cX0_protectionMonth 27 = .ok (.ireturn, 1) := by decide +kernel
theorem dX0_protectionMonth_28 : decode cX0_protectionMonth 28 = .ok (.aload_n 0, 1) := by decide +kernel
theorem dX0_protectionMonth_29 : decode cX0_protectionMonth 29 = .ok (.getfield 37, 3) := by decide +kernel
theorem dX0_protectionMonth_32 : decode cX0_protectionMonth 32 = .ok (.iconst 0, 1) := by decide +kernel
theorem dX0_protectionMonth_33 : decode cX0_protectionMonth 33 = .ok (.iaload, 1) := by decide +kernel
theorem dX0_protectionMonth_34 : decode cX0_protectionMonth 34 = .ok (.aload_n 0, 1) := by decide +kernel
theorem dX0_protectionMonth_35 : decode cX0_protectionMonth 35 = .ok (.getfield 37, 3) := by decide +kernel
theorem dX0_protectionMonth_38 : decode cX0_protectionMonth 38 = .ok (.iconst 1, 1) := by decide +kernel
theorem dX0_protectionMonth_39 : decode cX0_protectionMonth 39 = .ok (.iaload, 1) := by decide +kernel
theorem dX0_protectionMonth_40 : decode cX0_protectionMonth 40 = .ok (.invokestatic 61, 3) := by decide +kernel
theorem dX0_protectionMonth_43 : decode cX0_protectionMonth 43 = .ok (.iconst 1, 1) := by decide +kernel
theorem dX0_protectionMonth_44 : decode cX0_protectionMonth 44 = .ok (.iadd, 1) := by decide +kernel
theorem dX0_protectionMonth_45 : decode cX0_protectionMonth 45 = .ok (.istore_n 1, 1) := by decide +kernel
theorem dX0_protectionMonth_46 : decode cX0_protectionMonth 46 = .ok (.iload_n 1, 1) := by decide +kernel
theorem dX0_protectionMonth_47 : decode cX0_protectionMonth 47 = .ok (.aload_n 0, 1) := by decide +kernel
theorem dX0_protectionMonth_48 : decode cX0_protectionMonth 48 = .ok (.getfield 18, 3) := by decide +kernel
theorem dX0_protectionMonth_51 : decode cX0_protectionMonth 51 = .ok (.invokestatic 61, 3) := by decide +kernel
theorem dX0_protectionMonth_54 : decode cX0_protectionMonth 54 = .ok (.sipush 240, 3) := by decide +kernel
theorem dX0_protectionMonth_57 : decode cX0_protectionMonth 57 = .ok (.invokestatic 55, 3) := by decide +kernel
theorem dX0_protectionMonth_60 : decode cX0_protectionMonth 60 = .ok (.ireturn, 1) := by decide +kernel
set_option maxRecDepth 20000 in
theorem ggX0_protectionSum_X0_protectionMonth : GoodIn wsX0_protectionSum wsX0_protectionMonth := goodIn_r _ [12, 13, 14, 15, 6, 16, 17, 18, 19, 20, 37, 38, 39, 40, 41, 42, 43, 44, 45, 46, 47, 48, 49] (by decide +kernel) (by decide +kernel)
set_option maxRecDepth 20000 in
theorem gX0_protectionSum_X0_protectionMonth : GoodIn wsX0_protectionSum (wsV RX0 74 RX0 yX0_protectionMonth wsX0_protectionMonth) := goodIn_app (goodIn_of _ (by decide +kernel)) ggX0_protectionSum_X0_protectionMonth
set_option maxRecDepth 20000 in
theorem ggX0_protectionSum_X0_sharesAhead : GoodIn wsX0_protectionSum wsX0_sharesAhead := goodIn_r _ [24, 25, 26, 27, 28, 11, 29, 13, 17, 30, 31, 3, 32, 33, 34, 35, 36, 37, 38, 39, 40, 41, 42, 43, 44, 45, 46, 47, 48, 49] (by decide +kernel) (by decide +kernel)
set_option maxRecDepth 20000 in
theorem gX0_protectionSum_X0_sharesAhead : GoodIn wsX0_protectionSum (wsV RX0 78 RX0 yX0_sharesAhead wsX0_sharesAhead) := goodIn_app (goodIn_of _ (by decide +kernel)) ggX0_protectionSum_X0_sharesAhead
theorem dX0_protectionSum_0 : decode cX0_protectionSum 0 = .ok (.aload_n 0, 1) := by decide +kernel
theorem dX0_protectionSum_1 : decode cX0_protectionSum 1 = .ok (.invokevirtual 74, 3) := by decide +kernel
theorem dX0_protectionSum_4 : decode cX0_protectionSum 4 = .ok (.istore_n 1, 1) := by decide +kernel
theorem dX0_protectionSum_5 : decode cX0_protectionSum 5 = .ok (.iload_n 1, 1) := by decide +kernel
theorem dX0_protectionSum_6 : decode cX0_protectionSum 6 = .ok (.sipush 240, 3) := by decide +kernel
theorem dX0_protectionSum_9 : decode cX0_protectionSum 9 = .ok (.if_icmp .ne 5, 3) := by decide +kernel
theorem dX0_protectionSum_12 : decode cX0_protectionSum 12 = .ok (.lconst 0, 1) := by decide +kernel
theorem dX0_protectionSum_13 : decode cX0_protectionSum 13 = .ok (.lreturn, 1) := by decide +kernel
theorem dX0_protectionSum_14 : decode cX0_protectionSum 14 = .ok (.aload_n 0, 1) := by decide +kernel
theorem dX0_protectionSum_15 : decode cX0_protectionSum 15 = .ok (.getfield 31, 3) := by decide +kernel
theorem dX0_protectionSum_18 : decode cX0_protectionSum 18 = .ok (.i2l, 1) := by decide +kernel
theorem dX0_protectionSum_19 : decode cX0_protectionSum 19 = .ok (.aload_n 0, 1) := by decide +kernel
theorem dX0_protectionSum_20 : decode cX0_protectionSum 20 = .ok (.getfield 34, 3) := by decide +kernel
theorem dX0_protectionSum_23 : decode cX0_protectionSum 23 = .ok (.i2l, 1) := by decide +kernel
theorem dX0_protectionSum_24 : decode cX0_protectionSum 24 = .ok (.lmul, 1) := by decide +kernel
theorem dX0_protectionSum_25 : decode cX0_protectionSum 25 = .ok (.ldc2_w 68, 3) := by decide +kernel
theorem dX0_protectionSum_28 : decode cX0_protectionSum 28 = .ok (.ldiv, 1) := by decide +kernel
theorem dX0_protectionSum_29 : decode cX0_protectionSum 29 = .ok (.lstore_n 2, 1) := by decide +kernel
theorem dX0_protectionSum_30 : decode cX0_protectionSum 30 = .ok (.lconst 0, 1) := by decide +kernel
theorem dX0_protectionSum_31 : decode cX0_protectionSum 31 = .ok (.lload_n 2, 1) := by decide +kernel
theorem dX0_protectionSum_32 : decode cX0_protectionSum 32 = .ok (.aload_n 0, 1) := by decide +kernel
theorem dX0_protectionSum_33 : decode cX0_protectionSum 33 = .ok (.iload_n 1, 1) := by decide +kernel
theorem dX0_protectionSum_34 : decode cX0_protectionSum 34 = .ok (.invokevirtual 78, 3) := by decide +kernel
theorem dX0_protectionSum_37 : decode cX0_protectionSum 37 = .ok (.lsub, 1) := by decide +kernel
theorem dX0_protectionSum_38 : decode cX0_protectionSum 38 = .ok (.invokestatic 81, 3) := by decide +kernel
theorem dX0_protectionSum_41 : decode cX0_protectionSum 41 = .ok (.lreturn, 1) := by decide +kernel
set_option maxRecDepth 20000 in
theorem ggX0_dueIn_X0_shareIn : GoodIn wsX0_dueIn wsX0_shareIn := goodIn_r _ [5, 6, 7, 8, 9, 10, 11, 12, 13, 14, 4, 15, 16, 41, 42, 43, 44, 45, 46, 47, 48, 49, 50, 51, 52, 53] (by decide +kernel) (by decide +kernel)
set_option maxRecDepth 20000 in
theorem gX0_dueIn_X0_shareIn : GoodIn wsX0_dueIn (wsV RX0 70 RX0 yX0_shareIn wsX0_shareIn) := goodIn_app (goodIn_of _ (by decide +kernel)) ggX0_dueIn_X0_shareIn
set_option maxRecDepth 20000 in
theorem ggX0_dueIn_X0_protectionMonth : GoodIn wsX0_dueIn wsX0_protectionMonth := goodIn_r _ [20, 7, 21, 22, 23, 24, 8, 25, 26, 27, 41, 42, 43, 44, 45, 46, 47, 48, 49, 50, 51, 52, 53] (by decide +kernel) (by decide +kernel)
set_option maxRecDepth 20000 in
theorem gX0_dueIn_X0_protectionMonth : GoodIn wsX0_dueIn (wsV RX0 74 RX0 yX0_protectionMonth wsX0_protectionMonth) := goodIn_app (goodIn_of _ (by decide +kernel)) ggX0_dueIn_X0_protectionMonth
set_option maxRecDepth 20000 in
theorem ggX0_dueIn_X0_protectionSum : GoodIn wsX0_dueIn wsX0_protectionSum := goodIn_r _ [31, 32, 33, 11, 34, 35, 23, 36, 17, 18, 19, 4, 20, 7, 21, 22, 24, 8, 25, 26, 27, 37, 38, 39, 40, 6, 1, 2, 3, 5, 9, 10, 12, 13, 14, 15, 16, 41, 42, 43, 44, 45, 46, 47, 48, 49, 50, 51, 52, 53] (by decide +kernel) (by decide +kernel)
set_option maxRecDepth 20000 in
theorem gX0_dueIn_X0_protectionSum : GoodIn wsX0_dueIn (wsV RX0 84 RX0 yX0_protectionSum wsX0_protectionSum) := goodIn_app (goodIn_of _ (by decide +kernel)) ggX0_dueIn_X0_protectionSum
theorem dX0_dueIn_0 : decode cX0_dueIn 0 = .ok (.aload_n 0, 1) := by decide +kernel
theorem dX0_dueIn_1 : decode cX0_dueIn 1 = .ok (.iload_n 1, 1) := by decide +kernel
theorem dX0_dueIn_2 : decode cX0_dueIn 2 = .ok (.invokevirtual 70, 3) := by decide +kernel
theorem dX0_dueIn_5 : decode cX0_dueIn 5 = .ok (.lstore_n 2, 1) := by decide +kernel
theorem dX0_dueIn_6 : decode cX0_dueIn 6 = .ok (.iload_n 1, 1) := by decide +kernel
theorem dX0_dueIn_7 : decode cX0_dueIn 7 = .ok (.aload_n 0, 1) := by decide +kernel
theorem dX0_dueIn_8 : decode cX0_dueIn 8 = .ok (.invokevirtual 74, 3) := by decide +kernel
theorem dX0_dueIn_11 : decode cX0_dueIn 11 = .ok (.if_icmp .ne 12, 3) := by decide +kernel
theorem dX0_dueIn_14 : decode cX0_dueIn 14 = .ok (.lload_n 2, 1) := by decide +kernel
theorem dX0_dueIn_15 : decode cX0_dueIn 15 = .ok (.aload_n 0, 1) := by decide +kernel
theorem dX0_dueIn_16 : decode cX0_dueIn 16 = .ok (.invokevirtual 84, 3) := by decide +kernel
theorem dX0_dueIn_19 : decode cX0_dueIn 19 = .ok (.ladd, 1) := by decide +kernel
theorem dX0_dueIn_20 : decode cX0_dueIn 20 = .ok (.goto 4, 3) := by decide +kernel
theorem dX0_dueIn_23 : decode cX0_dueIn 23 = .ok (.lload_n 2, 1) := by decide +kernel
theorem dX0_dueIn_24 : decode cX0_dueIn 24 = .ok (.lreturn, 1) := by decide +kernel
set_option maxRecDepth 20000 in
theorem ggX0_dueAhead_X0_sharesAhead : GoodIn wsX0_dueAhead wsX0_sharesAhead := goodIn_r _ [5, 6, 7, 8, 9, 4, 10, 11, 12, 13, 14, 15, 16, 17, 18, 19, 20, 41, 42, 43, 44, 45, 46, 47, 48, 49, 50, 51, 52, 53] (by decide +kernel) (by decide +kernel)
set_option maxRecDepth 20000 in
theorem gX0_dueAhead_X0_sharesAhead : GoodIn wsX0_dueAhead (wsV RX0 78 RX0 yX0_sharesAhead wsX0_sharesAhead) := goodIn_app (goodIn_of _ (by decide +kernel)) ggX0_dueAhead_X0_sharesAhead
set_option maxRecDepth 20000 in
theorem ggX0_dueAhead_X0_protectionMonth : GoodIn wsX0_dueAhead wsX0_protectionMonth := goodIn_r _ [24, 11, 25, 26, 27, 28, 12, 29, 30, 31, 41, 42, 43, 44, 45, 46, 47, 48, 49, 50, 51, 52, 53] (by decide +kernel) (by decide +kernel)
set_option maxRecDepth 20000 in
theorem gX0_dueAhead_X0_protectionMonth : GoodIn wsX0_dueAhead (wsV RX0 74 RX0 yX0_protectionMonth wsX0_protectionMonth) := goodIn_app (goodIn_of _ (by decide +kernel)) ggX0_dueAhead_X0_protectionMonth
set_option maxRecDepth 20000 in
theorem ggX0_dueAhead_X0_protectionSum : GoodIn wsX0_dueAhead wsX0_protectionSum := goodIn_r _ [35, 36, 37, 15, 38, 39, 27, 40, 21, 22, 23, 4, 24, 11, 25, 26, 28, 12, 29, 30, 31, 1, 2, 3, 5, 6, 7, 8, 9, 10, 13, 14, 16, 17, 18, 19, 20, 41, 42, 43, 44, 45, 46, 47, 48, 49, 50, 51, 52, 53] (by decide +kernel) (by decide +kernel)
set_option maxRecDepth 20000 in
theorem gX0_dueAhead_X0_protectionSum : GoodIn wsX0_dueAhead (wsV RX0 84 RX0 yX0_protectionSum wsX0_protectionSum) := goodIn_app (goodIn_of _ (by decide +kernel)) ggX0_dueAhead_X0_protectionSum
theorem dX0_dueAhead_0 : decode cX0_dueAhead 0 = .ok (.aload_n 0, 1) := by decide +kernel
theorem dX0_dueAhead_1 : decode cX0_dueAhead 1 = .ok (.iload_n 1, 1) := by decide +kernel
theorem dX0_dueAhead_2 : decode cX0_dueAhead 2 = .ok (.invokevirtual 78, 3) := by decide +kernel
theorem dX0_dueAhead_5 : decode cX0_dueAhead 5 = .ok (.lstore_n 2, 1) := by decide +kernel
theorem dX0_dueAhead_6 : decode cX0_dueAhead 6 = .ok (.aload_n 0, 1) := by decide +kernel
theorem dX0_dueAhead_7 : decode cX0_dueAhead 7 = .ok (.invokevirtual 74, 3) := by decide +kernel
theorem dX0_dueAhead_10 : decode cX0_dueAhead 10 = .ok (.iload_n 1, 1) := by decide +kernel
theorem dX0_dueAhead_11 : decode cX0_dueAhead 11 = .ok (.if_icmp .ge 12, 3) := by decide +kernel
theorem dX0_dueAhead_14 : decode cX0_dueAhead 14 = .ok (.lload_n 2, 1) := by decide +kernel
theorem dX0_dueAhead_15 : decode cX0_dueAhead 15 = .ok (.aload_n 0, 1) := by decide +kernel
theorem dX0_dueAhead_16 : decode cX0_dueAhead 16 = .ok (.invokevirtual 84, 3) := by decide +kernel
theorem dX0_dueAhead_19 : decode cX0_dueAhead 19 = .ok (.ladd, 1) := by decide +kernel
theorem dX0_dueAhead_20 : decode cX0_dueAhead 20 = .ok (.goto 4, 3) := by decide +kernel
theorem dX0_dueAhead_23 : decode cX0_dueAhead 23 = .ok (.lload_n 2, 1) := by decide +kernel
theorem dX0_dueAhead_24 : decode cX0_dueAhead 24 = .ok (.lreturn, 1) := by decide +kernel
set_option maxRecDepth 20000 in
theorem ggX0_payIn_X0_dueAhead : GoodIn wsX0_payIn wsX0_dueAhead := goodIn_r _ [11, 12, 13, 14, 10, 15, 16, 17, 18, 19, 20, 21, 22, 23, 24, 25, 26, 27, 28, 29, 30, 31, 32, 33, 34, 35, 36, 4, 37, 38, 39, 40, 41, 42, 43, 44, 45, 46, 2, 3, 5, 47, 48, 49, 50, 51, 52, 53, 54, 55, 56, 57, 58, 59] (by decide +kernel) (by decide +kernel)
set_option maxRecDepth 20000 in
theorem gX0_payIn_X0_dueAhead : GoodIn wsX0_payIn (wsV RX0 88 RX0 yX0_dueAhead wsX0_dueAhead) := goodIn_app (goodIn_of _ (by decide +kernel)) ggX0_payIn_X0_dueAhead
theorem dX0_payIn_0 : decode cX0_payIn 0 = .ok (.lconst 0, 1) := by decide +kernel
theorem dX0_payIn_1 : decode cX0_payIn 1 = .ok (.aload_n 0, 1) := by decide +kernel
theorem dX0_payIn_2 : decode cX0_payIn 2 = .ok (.iload_n 1, 1) := by decide +kernel
theorem dX0_payIn_3 : decode cX0_payIn 3 = .ok (.iconst 1, 1) := by decide +kernel
theorem dX0_payIn_4 : decode cX0_payIn 4 = .ok (.iadd, 1) := by decide +kernel
theorem dX0_payIn_5 : decode cX0_payIn 5 = .ok (.invokevirtual 88, 3) := by decide +kernel
theorem dX0_payIn_8 : decode cX0_payIn 8 = .ok (.aload_n 0, 1) := by decide +kernel
theorem dX0_payIn_9 : decode cX0_payIn 9 = .ok (.getfield 51, 3) := by decide +kernel
theorem dX0_payIn_12 : decode cX0_payIn 12 = .ok (.lsub, 1) := by decide +kernel
theorem dX0_payIn_13 : decode cX0_payIn 13 = .ok (.invokestatic 81, 3) := by decide +kernel
theorem dX0_payIn_16 : decode cX0_payIn 16 = .ok (.lstore_n 2, 1) := by decide +kernel
theorem dX0_payIn_17 : decode cX0_payIn 17 = .ok (.aload_n 0, 1) := by decide +kernel
theorem dX0_payIn_18 : decode cX0_payIn 18 = .ok (.getfield 47, 3) := by decide +kernel
theorem dX0_payIn_21 : decode cX0_payIn 21 = .ok (.iload_n 1, 1) := by decide +kernel
theorem dX0_payIn_22 : decode cX0_payIn 22 = .ok (.lload_n 2, 1) := by decide +kernel
theorem dX0_payIn_23 : decode cX0_payIn 23 = .ok (.lastore, 1) := by decide +kernel
theorem dX0_payIn_24 : decode cX0_payIn 24 = .ok (.aload_n 0, 1) := by decide +kernel
theorem dX0_payIn_25 : decode cX0_payIn 25 = .ok (.dup, 1) := by decide +kernel
theorem dX0_payIn_26 : decode cX0_payIn 26 = .ok (.getfield 51, 3) := by decide +kernel
theorem dX0_payIn_29 : decode cX0_payIn 29 = .ok (.lload_n 2, 1) := by decide +kernel
theorem dX0_payIn_30 : decode cX0_payIn 30 = .ok (.ladd, 1) := by decide +kernel
theorem dX0_payIn_31 : decode cX0_payIn 31 = .ok (.putfield 51, 3) := by decide +kernel
theorem dX0_payIn_34 : decode cX0_payIn 34 = .ok (.lload_n 2, 1) := by decide +kernel
theorem dX0_payIn_35 : decode cX0_payIn 35 = .ok (.lreturn, 1) := by decide +kernel
set_option maxRecDepth 20000 in
theorem ggX0_debtAhead_X0_dueAhead : GoodIn wsX0_debtAhead wsX0_dueAhead := goodIn_r _ [10, 11, 12, 13, 9, 14, 15, 16, 17, 18, 19, 20, 21, 22, 23, 24, 25, 26, 27, 28, 29, 30, 31, 32, 33, 34, 35, 4, 36, 37, 38, 39, 40, 41, 42, 43, 44, 45, 2, 3, 5, 46, 47, 48, 49, 50, 51, 52, 53, 54, 55, 56, 57, 58] (by decide +kernel) (by decide +kernel)
set_option maxRecDepth 20000 in
theorem gX0_debtAhead_X0_dueAhead : GoodIn wsX0_debtAhead (wsV RX0 88 RX0 yX0_dueAhead wsX0_dueAhead) := goodIn_app (goodIn_of _ (by decide +kernel)) ggX0_debtAhead_X0_dueAhead
theorem dX0_debtAhead_0 : decode cX0_debtAhead 0 = .ok (.lconst 0, 1) := by decide +kernel
theorem dX0_debtAhead_1 : decode cX0_debtAhead 1 = .ok (.aload_n 0, 1) := by decide +kernel
theorem dX0_debtAhead_2 : decode cX0_debtAhead 2 = .ok (.getfield 51, 3) := by decide +kernel
theorem dX0_debtAhead_5 : decode cX0_debtAhead 5 = .ok (.aload_n 0, 1) := by decide +kernel
theorem dX0_debtAhead_6 : decode cX0_debtAhead 6 = .ok (.iload_n 1, 1) := by decide +kernel
theorem dX0_debtAhead_7 : decode cX0_debtAhead 7 = .ok (.invokevirtual 88, 3) := by decide +kernel
theorem dX0_debtAhead_10 : decode cX0_debtAhead 10 = .ok (.lsub, 1) := by decide +kernel
theorem dX0_debtAhead_11 : decode cX0_debtAhead 11 = .ok (.invokestatic 81, 3) := by decide +kernel
theorem dX0_debtAhead_14 : decode cX0_debtAhead 14 = .ok (.lreturn, 1) := by decide +kernel
