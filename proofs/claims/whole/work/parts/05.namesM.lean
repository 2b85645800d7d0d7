theorem dX2_init_0 : decode cX2_init 0 = .ok (.aload_n 0, 1) := by decide +kernel
theorem dX2_init_1 : decode cX2_init 1 = .ok (.invokespecial 1, 3) := by decide +kernel
theorem dX2_init_4 : decode cX2_init 4 = .ok (.aload_n 0, 1) := by decide +kernel
theorem dX2_init_5 : decode cX2_init 5 = .ok (.bipush 20, 2) := by decide +kernel
theorem dX2_init_7 : decode cX2_init 7 = .ok (.newarray .int, 2) := by decide +kernel
theorem dX2_init_9 : decode cX2_init 9 = .ok (.putfield 7, 3) := by decide +kernel
theorem dX2_init_12 : decode cX2_init 12 = .ok (.aload_n 0, 1) := by decide +kernel
theorem dX2_init_13 : decode cX2_init 13 = .ok (.bipush 20, 2) := by decide +kernel
theorem dX2_init_15 : decode cX2_init 15 = .ok (.newarray .int, 2) := by decide +kernel
theorem dX2_init_17 : decode cX2_init 17 = .ok (.putfield 13, 3) := by decide +kernel
theorem dX2_init_20 : decode cX2_init 20 = .ok (.aload_n 0, 1) := by decide +kernel
theorem dX2_init_21 : decode cX2_init 21 = .ok (.bipush 20, 2) := by decide +kernel
theorem dX2_init_23 : decode cX2_init 23 = .ok (.newarray .int, 2) := by decide +kernel
theorem dX2_init_25 : decode cX2_init 25 = .ok (.putfield 16, 3) := by decide +kernel
theorem dX2_init_28 : decode cX2_init 28 = .ok (.aload_n 0, 1) := by decide +kernel
theorem dX2_init_29 : decode cX2_init 29 = .ok (.bipush 20, 2) := by decide +kernel
theorem dX2_init_31 : decode cX2_init 31 = .ok (.newarray .int, 2) := by decide +kernel
theorem dX2_init_33 : decode cX2_init 33 = .ok (.putfield 19, 3) := by decide +kernel
theorem dX2_init_36 : decode cX2_init 36 = .ok (.aload_n 0, 1) := by decide +kernel
theorem dX2_init_37 : decode cX2_init 37 = .ok (.bipush 20, 2) := by decide +kernel
theorem dX2_init_39 : decode cX2_init 39 = .ok (.newarray .boolean, 2) := by decide +kernel
theorem dX2_init_41 : decode cX2_init 41 = .ok (.putfield 22, 3) := by decide +kernel
theorem dX2_init_44 : decode cX2_init 44 = .ok (.aload_n 0, 1) := by decide +kernel
theorem dX2_init_45 : decode cX2_init 45 = .ok (.bipush 20, 2) := by decide +kernel
theorem dX2_init_47 : decode cX2_init 47 = .ok (.newarray .int, 2) := by decide +kernel
theorem dX2_init_49 : decode cX2_init 49 = .ok (.putfield 26, 3) := by decide +kernel
theorem dX2_init_52 : decode cX2_init 52 = .ok (.aload_n 0, 1) := by decide +kernel
theorem dX2_init_53 : decode cX2_init 53 = .ok (.bipush 20, 2) := by decide +kernel
theorem dX2_init_55 : decode cX2_init 55 = .ok (.newarray .int, 2) := by decide +kernel
theorem dX2_init_57 : decode cX2_init 57 = .ok (.putfield 29, 3) := by decide +kernel
theorem dX2_init_60 : decode cX2_init 60 = .ok (.aload_n 0, 1) := by decide +kernel
theorem dX2_init_61 : decode cX2_init 61 = .ok (.bipush 20, 2) := by decide +kernel
theorem dX2_init_63 : decode cX2_init 63 = .ok (.newarray .int, 2) := by decide +kernel
theorem dX2_init_65 : decode cX2_init 65 = .ok (.putfield 32, 3) := by decide +kernel
theorem dX2_init_68 : decode cX2_init 68 = .ok (.aload_n 0, 1) := by decide +kernel
theorem dX2_init_69 : decode cX2_init 69 = .ok (.bipush 40, 2) := by decide +kernel
theorem dX2_init_71 : decode cX2_init 71 = .ok (.newarray .int, 2) := by decide +kernel
theorem dX2_init_73 : decode cX2_init 73 = .ok (.putfield 35, 3) := by decide +kernel
theorem dX2_init_76 : decode cX2_init 76 = .ok (.aload_n 0, 1) := by decide +kernel
theorem dX2_init_77 : decode cX2_init 77 = .ok (.bipush 20, 2) := by decide +kernel
theorem dX2_init_79 : decode cX2_init 79 = .ok (.newarray .long, 2) := by decide +kernel
theorem dX2_init_81 : decode cX2_init 81 = .ok (.putfield 38, 3) := by decide +kernel
theorem dX2_init_84 : decode cX2_init 84 = .ok (.aload_n 0, 1) := by decide +kernel
theorem dX2_init_85 : decode cX2_init 85 = .ok (.bipush 20, 2) := by decide +kernel
theorem dX2_init_87 : decode cX2_init 87 = .ok (.newarray .long, 2) := by decide +kernel
theorem dX2_init_89 : decode cX2_init 89 = .ok (.putfield 42, 3) := by decide +kernel
theorem dX2_init_92 : decode cX2_init 92 = .ok (.aload_n 0, 1) := by decide +kernel
theorem dX2_init_93 : decode cX2_init 93 = .ok (.sipush 4800, 3) := by decide +kernel
theorem dX2_init_96 : decode cX2_init 96 = .ok (.newarray .long, 2) := by decide +kernel
theorem dX2_init_98 : decode cX2_init 98 = .ok (.putfield 45, 3) := by decide +kernel
theorem dX2_init_101 : decode cX2_init 101 = .ok (.aload_n 0, 1) := by decide +kernel
theorem dX2_init_102 : decode cX2_init 102 = .ok (.bipush 20, 2) := by decide +kernel
theorem dX2_init_104 : decode cX2_init 104 = .ok (.newarray .int, 2) := by decide +kernel
theorem dX2_init_106 : decode cX2_init 106 = .ok (.putfield 48, 3) := by decide +kernel
theorem dX2_init_109 : decode cX2_init 109 = .ok (.return_, 1) := by decide +kernel
theorem dX2_thrown_0 : decode cX2_thrown 0 = .ok (.aload_n 0, 1) := by decide +kernel
theorem dX2_thrown_1 : decode cX2_thrown 1 = .ok (.getfield 51, 3) := by decide +kernel
theorem dX2_thrown_4 : decode cX2_thrown 4 = .ok (.ireturn, 1) := by decide +kernel
theorem dX2_goes_0 : decode cX2_goes 0 = .ok (.aload_n 0, 1) := by decide +kernel
theorem dX2_goes_1 : decode cX2_goes 1 = .ok (.iload_n 1, 1) := by decide +kernel
theorem dX2_goes_2 : decode cX2_goes 2 = .ok (.ifCond .ne 7, 3) := by decide +kernel
theorem dX2_goes_5 : decode cX2_goes 5 = .ok (.iconst 1, 1) := by decide +kernel
theorem dX2_goes_6 : decode cX2_goes 6 = .ok (.goto 20, 3) := by decide +kernel
theorem dX2_goes_9 : decode cX2_goes 9 = .ok (.iload_n 2, 1) := by decide +kernel
theorem dX2_goes_10 : decode cX2_goes 10 = .ok (.ifCond .ne 7, 3) := by decide +kernel
theorem dX2_goes_13 : decode cX2_goes 13 = .ok (.iconst 2, 1) := by decide +kernel
theorem dX2_goes_14 : decode cX2_goes 14 = .ok (.goto 12, 3) := by decide +kernel
theorem dX2_goes_17 : decode cX2_goes 17 = .ok (.iload_n 3, 1) := by decide +kernel
theorem dX2_goes_18 : decode cX2_goes 18 = .ok (.ifCond .ne 7, 3) := by decide +kernel
theorem dX2_goes_21 : decode cX2_goes 21 = .ok (.iconst 3, 1) := by decide +kernel
theorem dX2_goes_22 : decode cX2_goes 22 = .ok (.goto 4, 3) := by decide +kernel
theorem dX2_goes_25 : decode cX2_goes 25 = .ok (.iconst 0, 1) := by decide +kernel
theorem dX2_goes_26 : decode cX2_goes 26 = .ok (.putfield 51, 3) := by decide +kernel
theorem dX2_goes_29 : decode cX2_goes 29 = .ok (.aload_n 0, 1) := by decide +kernel
theorem dX2_goes_30 : decode cX2_goes 30 = .ok (.getfield 51, 3) := by decide +kernel
theorem dX2_goes_33 : decode cX2_goes 33 = .ok (.ifCond .ne 7, 3) := by decide +kernel
theorem dX2_goes_36 : decode cX2_goes 36 = .ok (.iconst 1, 1) := by decide +kernel
theorem dX2_goes_37 : decode cX2_goes 37 = .ok (.goto 4, 3) := by decide +kernel
theorem dX2_goes_40 : decode cX2_goes 40 = .ok (.iconst 0, 1) := by decide +kernel
theorem dX2_goes_41 : decode cX2_goes 41 = .ok (.ireturn, 1) := by decide +kernel
theorem dX2_isOne_0 : decode cX2_isOne 0 = .ok (.iload_n 1, 1) := by decide +kernel
theorem dX2_isOne_1 : decode cX2_isOne 1 = .ok (.ifCond .lt 15, 3) := by decide +kernel
theorem dX2_isOne_4 : decode cX2_isOne 4 = .ok (.iload_n 1, 1) := by decide +kernel
theorem dX2_isOne_5 : decode cX2_isOne 5 = .ok (.aload_n 0, 1) := by decide +kernel
theorem dX2_isOne_6 : decode cX2_isOne 6 = .ok (.getfield 55, 3) := by decide +kernel
theorem dX2_isOne_9 : decode cX2_isOne 9 = .ok (.if_icmp .ge 7, 3) := by decide +kernel
theorem dX2_isOne_12 : decode cX2_isOne 12 = .ok (.iconst 1, 1) := by decide +kernel
theorem dX2_isOne_13 : decode cX2_isOne 13 = .ok (.goto 4, 3) := by decide +kernel
theorem dX2_isOne_16 : decode cX2_isOne 16 = .ok (.iconst 0, 1) := by decide +kernel
theorem dX2_isOne_17 : decode cX2_isOne 17 = .ok (.ireturn, 1) := by decide +kernel
theorem dX2_isWithin_0 : decode cX2_isWithin 0 = .ok (.iload_n 0, 1) := by decide +kernel
theorem dX2_isWithin_1 : decode cX2_isWithin 1 = .ok (.iload_n 1, 1) := by decide +kernel
theorem dX2_isWithin_2 : decode cX2_isWithin 2 = .ok (.if_icmp .lt 12, 3) := by decide +kernel
theorem dX2_isWithin_5 : decode cX2_isWithin 5 = .ok (.iload_n 0, 1) := by decide +kernel
theorem dX2_isWithin_6 : decode cX2_isWithin 6 = .ok (.iload_n 2, 1) := by decide +kernel
theorem dX2_isWithin_7 : decode cX2_isWithin 7 = .ok (.if_icmp .gt 7, 3) := by decide +kernel
theorem dX2_isWithin_10 : decode cX2_isWithin 10 = .ok (.iconst 1, 1) := by decide +kernel
theorem dX2_isWithin_11 : decode cX2_isWithin 11 = .ok (.goto 4, 3) := by decide +kernel
theorem dX2_isWithin_14 : decode cX2_isWithin 14 = .ok (.iconst 0, 1) := by decide +kernel
theorem dX2_isWithin_15 : decode cX2_isWithin 15 = .ok (.ireturn, 1) := by decide +kernel
set_option maxRecDepth 20000 in
theorem ggX2_add_X2_isWithin : GoodIn wsX2_add wsX2_isWithin := goodIn_r _ [12] (by decide +kernel) (by decide +kernel)
set_option maxRecDepth 20000 in
theorem gX2_add_X2_isWithin : GoodIn wsX2_add (va_wsS RX2 61 yX2_isWithin wsX2_isWithin) := goodIn_app (goodIn_of _ (by decide +kernel)) ggX2_add_X2_isWithin
set_option maxRecDepth 20000 in
theorem ggX2_add_X2_goes : GoodIn wsX2_add wsX2_goes := goodIn_r _ [16, 17, 18, 19, 20, 21, 22, 23, 24, 25, 26, 27, 28, 29, 30, 31, 32, 33, 34, 35] (by decide +kernel) (by decide +kernel)
set_option maxRecDepth 20000 in
theorem gX2_add_X2_goes : GoodIn wsX2_add (wsV RX2 66 RX2 yX2_goes wsX2_goes) := goodIn_app (goodIn_of _ (by decide +kernel)) ggX2_add_X2_goes
theorem dX2_add_0 : decode cX2_add 0 = .ok (.iload_n 1, 1) := by decide +kernel
theorem dX2_add_1 : decode cX2_add 1 = .ok (.aload_n 0, 1) := by decide +kernel
theorem dX2_add_2 : decode cX2_add 2 = .ok (.getfield 58, 3) := by decide +kernel
theorem dX2_add_5 : decode cX2_add 5 = .ok (.sipush 239, 3) := by decide +kernel
theorem dX2_add_8 : decode cX2_add 8 = .ok (.invokestatic 61, 3) := by decide +kernel
theorem dX2_add_11 : decode cX2_add 11 = .ok (.ifCond .eq 28, 3) := by decide +kernel
theorem dX2_add_14 : decode cX2_add 14 = .ok (.iload_n 2, 1) := by decide +kernel
theorem dX2_add_15 : decode cX2_add 15 = .ok (.iconst 1, 1) := by decide +kernel
theorem dX2_add_16 : decode cX2_add 16 = .ok (.ldc 65, 2) := by decide +kernel
theorem dX2_add_18 : decode cX2_add 18 = .ok (.invokestatic 61, 3) := by decide +kernel
theorem dX2_add_21 : decode cX2_add 21 = .ok (.ifCond .eq 18, 3) := by decide +kernel
theorem dX2_add_24 : decode cX2_add 24 = .ok (.iload_n 3, 1) := by decide +kernel
theorem dX2_add_25 : decode cX2_add 25 = .ok (.iconst 0, 1) := by decide +kernel
theorem dX2_add_26 : decode cX2_add 26 = .ok (.sipush 240, 3) := by decide +kernel
theorem dX2_add_29 : decode cX2_add 29 = .ok (.invokestatic 61, 3) := by decide +kernel
theorem dX2_add_32 : decode cX2_add 32 = .ok (.ifCond .eq 7, 3) := by decide +kernel
theorem dX2_add_35 : decode cX2_add 35 = .ok (.iconst 1, 1) := by decide +kernel
theorem dX2_add_36 : decode cX2_add 36 = .ok (.goto 4, 3) := by decide +kernel
theorem dX2_add_39 : decode cX2_add 39 = .ok (.iconst 0, 1) := by decide +kernel
theorem dX2_add_40 : decode cX2_add 40 = .ok (.istore 4, 2) := by decide +kernel
theorem dX2_add_42 : decode cX2_add 42 = .ok (.aload_n 0, 1) := by decide +kernel
theorem dX2_add_43 : decode cX2_add 43 = .ok (.iload 4, 2) := by decide +kernel
theorem dX2_add_45 : decode cX2_add 45 = .ok (.aload_n 0, 1) := by decide +kernel
theorem dX2_add_46 : decode cX2_add 46 = .ok (.getfield 55, 3) := by decide +kernel
theorem dX2_add_49 : decode cX2_add 49 = .ok (.bipush 20, 2) := by decide +kernel
theorem dX2_add_51 : decode cX2_add 51 = .ok (.if_icmp .ge 7, 3) := by decide +kernel
theorem dX2_add_54 : decode cX2_add 54 = .ok (.iconst 1, 1) := by decide +kernel
theorem dX2_add_55 : decode cX2_add 55 = .ok (.goto 4, 3) := by decide +kernel
theorem dX2_add_58 : decode cX2_add 58 = .ok (.iconst 0, 1) := by decide +kernel
theorem dX2_add_59 : decode cX2_add 59 = .ok (.iconst 1, 1) := by decide +kernel
theorem dX2_add_60 : decode cX2_add 60 = .ok (.invokevirtual 66, 3) := by decide +kernel
theorem dX2_add_63 : decode cX2_add 63 = .ok (.ifCond .ne 5, 3) := by decide +kernel
theorem dX2_add_66 : decode cX2_add 66 = .ok (.iconst 0, 1) := by decide +kernel
theorem dX2_add_67 : decode cX2_add 67 = .ok (.ireturn, 1) := by decide +kernel
theorem dX2_add_68 : decode cX2_add 68 = .ok (.aload_n 0, 1) := by decide +kernel
theorem dX2_add_69 : decode cX2_add 69 = .ok (.getfield 7, 3) := by decide +kernel
theorem dX2_add_72 : decode cX2_add 72 = .ok (.aload_n 0, 1) := by decide +kernel
theorem dX2_add_73 : decode cX2_add 73 = .ok (.getfield 55, 3) := by decide +kernel
theorem dX2_add_76 : decode cX2_add 76 = .ok (.iload_n 1, 1) := by decide +kernel
theorem dX2_add_77 : decode cX2_add 77 = .ok (.iastore, 1) := by decide +kernel
theorem dX2_add_78 : decode cX2_add 78 = .ok (.aload_n 0, 1) := by decide +kernel
theorem dX2_add_79 : decode cX2_add 79 = .ok (.getfield 13, 3) := by decide +kernel
theorem dX2_add_82 : decode cX2_add 82 = .ok (.aload_n 0, 1) := by decide +kernel
theorem dX2_add_83 : decode cX2_add 83 = .ok (.getfield 55, 3) := by decide +kernel
theorem dX2_add_86 : decode cX2_add 86 = .ok (.iload_n 2, 1) := by decide +kernel
theorem dX2_add_87 : decode cX2_add 87 = .ok (.iastore, 1) := by decide +kernel
theorem dX2_add_88 : decode cX2_add 88 = .ok (.aload_n 0, 1) := by decide +kernel
theorem dX2_add_89 : decode cX2_add 89 = .ok (.getfield 16, 3) := by decide +kernel
theorem dX2_add_92 : decode cX2_add 92 = .ok (.aload_n 0, 1) := by decide +kernel
theorem dX2_add_93 : decode cX2_add 93 = .ok (.getfield 55, 3) := by decide +kernel
theorem dX2_add_96 : decode cX2_add 96 = .ok (.iload_n 3, 1) := by decide +kernel
theorem dX2_add_97 : decode cX2_add 97 = .ok (.iastore, 1) := by decide +kernel
theorem dX2_add_98 : decode cX2_add 98 = .ok (.aload_n 0, 1) := by decide +kernel
theorem dX2_add_99 : decode cX2_add 99 = .ok (.getfield 19, 3) := by decide +kernel
theorem dX2_add_102 : decode cX2_add 102 = .ok (.aload_n 0, 1) := by decide +kernel
theorem dX2_add_103 : decode cX2_add 103 = .ok (.getfield 55, 3) := by decide +kernel
theorem dX2_add_106 : decode cX2_add 106 = .ok (.bipush 100, 2) := by decide +kernel
theorem dX2_add_108 : decode cX2_add 108 = .ok (.iastore, 1) := by decide +kernel
theorem dX2_add_109 : decode cX2_add 109 = .ok (.aload_n 0, 1) := by decide +kernel
theorem dX2_add_110 : decode cX2_add 110 = .ok (.getfield 35, 3) := by decide +kernel
theorem dX2_add_113 : decode cX2_add 113 = .ok (.iconst 2, 1) := by decide +kernel
theorem dX2_add_114 : decode cX2_add 114 = .ok (.aload_n 0, 1) := by decide +kernel
theorem dX2_add_115 : decode cX2_add 115 = .ok (.getfield 55, 3) := by decide +kernel
theorem dX2_add_118 : decode cX2_add 118 = .ok (.imul, 1) := by decide +kernel
theorem dX2_add_119 : decode cX2_add 119 = .ok (.iconst (-1), 1) := by decide +kernel
theorem dX2_add_120 : decode cX2_add 120 = .ok (.iastore, 1) := by decide +kernel
theorem dX2_add_121 : decode cX2_add 121 = .ok (.aload_n 0, 1) := by decide +kernel
theorem dX2_add_122 : decode cX2_add 122 = .ok (.getfield 35, 3) := by decide +kernel
theorem dX2_add_125 : decode cX2_add 125 = .ok (.iconst 2, 1) := by decide +kernel
theorem dX2_add_126 : decode cX2_add 126 = .ok (.aload_n 0, 1) := by decide +kernel
theorem dX2_add_127 : decode cX2_add 127 = .ok (.getfield 55, 3) := by decide +kernel
theorem dX2_add_130 : decode cX2_add 130 = .ok (.imul, 1) := by decide +kernel
theorem dX2_add_131 : decode cX2_add 131 = .ok (.iconst 1, 1) := by decide +kernel
theorem dX2_add_132 : decode cX2_add 132 = .ok (.iadd, 1) := by decide +kernel
theorem dX2_add_133 : decode cX2_add 133 = .ok (.iconst (-1), 1) := by decide +kernel
theorem dX2_add_134 : decode cX2_add 134 = .ok (.iastore, 1) := by decide +kernel
theorem dX2_add_135 : decode cX2_add 135 = .ok (.aload_n 0, 1) := by decide +kernel
theorem dX2_add_136 : decode cX2_add 136 = .ok (.dup, 1) := by decide +kernel
theorem dX2_add_137 : decode cX2_add 137 = .ok (.getfield 55, 3) := by decide +kernel
theorem dX2_add_140 : decode cX2_add 140 = .ok (.iconst 1, 1) := by decide +kernel
theorem dX2_add_141 : decode cX2_add 141 = .ok (.iadd, 1) := by decide +kernel
theorem dX2_add_142 : decode cX2_add 142 = .ok (.putfield 55, 3) := by decide +kernel
theorem dX2_add_145 : decode cX2_add 145 = .ok (.aload_n 0, 1) := by decide +kernel
theorem dX2_add_146 : decode cX2_add 146 = .ok (.getfield 55, 3) := by decide +kernel
theorem dX2_add_149 : decode cX2_add 149 = .ok (.iconst 1, 1) := by decide +kernel
theorem dX2_add_150 : decode cX2_add 150 = .ok (.isub, 1) := by decide +kernel
theorem dX2_add_151 : decode cX2_add 151 = .ok (.ireturn, 1) := by decide +kernel
set_option maxRecDepth 20000 in
theorem ggX2_isAhead_X2_isOne : GoodIn wsX2_isAhead wsX2_isOne := goodIn_r _ [7, 8, 9, 10, 11, 12, 13, 14, 15, 16, 17, 18, 19, 20, 21, 22, 23, 24, 25, 26] (by decide +kernel) (by decide +kernel)
set_option maxRecDepth 20000 in
theorem gX2_isAhead_X2_isOne : GoodIn wsX2_isAhead (wsV RX2 70 RX2 yX2_isOne wsX2_isOne) := goodIn_app (goodIn_of _ (by decide +kernel)) ggX2_isAhead_X2_isOne
theorem dX2_isAhead_0 : decode cX2_isAhead 0 = .ok (.aload_n 0, 1) := by decide +kernel
theorem dX2_isAhead_1 : decode cX2_isAhead 1 = .ok (.iload_n 1, 1) := by decide +kernel
theorem dX2_isAhead_2 : decode cX2_isAhead 2 = .ok (.invokevirtual 70, 3) := by decide +kernel
theorem dX2_isAhead_5 : decode cX2_isAhead 5 = .ok (.ifCond .eq 20, 3) := by decide +kernel
theorem dX2_isAhead_8 : decode cX2_isAhead 8 = .ok (.aload_n 0, 1) := by decide +kernel
theorem dX2_isAhead_9 : decode cX2_isAhead 9 = .ok (.getfield 58, 3) := by decide +kernel
theorem dX2_isAhead_12 : decode cX2_isAhead 12 = .ok (.aload_n 0, 1) := by decide +kernel
theorem dX2_isAhead_13 : decode cX2_isAhead 13 = .ok (.getfield 7, 3) := by decide +kernel
theorem dX2_isAhead_16 : decode cX2_isAhead 16 = .ok (.iload_n 1, 1) := by decide +kernel
theorem dX2_isAhead_17 : decode cX2_isAhead 17 = .ok (.iaload, 1) := by decide +kernel
theorem dX2_isAhead_18 : decode cX2_isAhead 18 = .ok (.if_icmp .gt 7, 3) := by decide +kernel
theorem dX2_isAhead_21 : decode cX2_isAhead 21 = .ok (.iconst 1, 1) := by decide +kernel
theorem dX2_isAhead_22 : decode cX2_isAhead 22 = .ok (.goto 4, 3) := by decide +kernel
theorem dX2_isAhead_25 : decode cX2_isAhead 25 = .ok (.iconst 0, 1) := by decide +kernel
theorem dX2_isAhead_26 : decode cX2_isAhead 26 = .ok (.ireturn, 1) := by decide +kernel
set_option maxRecDepth 20000 in
theorem ggX2_setSurvivor_X2_isOne : GoodIn wsX2_setSurvivor wsX2_isOne := goodIn_r _ [7, 8, 23, 24, 25, 26, 27, 28, 29, 30, 31, 32, 33, 34, 35, 36, 37, 38, 39, 40] (by decide +kernel) (by decide +kernel)
set_option maxRecDepth 20000 in
theorem gX2_setSurvivor_X2_isOne : GoodIn wsX2_setSurvivor (wsV RX2 70 RX2 yX2_isOne wsX2_isOne) := goodIn_app (goodIn_of _ (by decide +kernel)) ggX2_setSurvivor_X2_isOne
set_option maxRecDepth 20000 in
theorem ggX2_setSurvivor_X2_isWithin : GoodIn wsX2_setSurvivor wsX2_isWithin := goodIn_r _ [11] (by decide +kernel) (by decide +kernel)
set_option maxRecDepth 20000 in
theorem gX2_setSurvivor_X2_isWithin : GoodIn wsX2_setSurvivor (va_wsS RX2 61 yX2_isWithin wsX2_isWithin) := goodIn_app (goodIn_of _ (by decide +kernel)) ggX2_setSurvivor_X2_isWithin
set_option maxRecDepth 20000 in
theorem ggX2_setSurvivor_X2_isAhead : GoodIn wsX2_setSurvivor wsX2_isAhead := goodIn_r _ [15, 16, 17, 3, 4, 5, 6, 7, 8, 23, 24, 25, 26, 27, 28, 29, 30, 31, 32, 33, 34, 35, 36, 37, 38, 39, 40] (by decide +kernel) (by decide +kernel)
set_option maxRecDepth 20000 in
theorem gX2_setSurvivor_X2_isAhead : GoodIn wsX2_setSurvivor (wsV RX2 74 RX2 yX2_isAhead wsX2_isAhead) := goodIn_app (goodIn_of _ (by decide +kernel)) ggX2_setSurvivor_X2_isAhead
set_option maxRecDepth 20000 in
theorem ggX2_setSurvivor_X2_goes : GoodIn wsX2_setSurvivor wsX2_goes := goodIn_r _ [21, 22, 23, 24, 25, 26, 27, 28, 29, 30, 31, 32, 33, 34, 35, 36, 37, 38, 39, 40] (by decide +kernel) (by decide +kernel)
set_option maxRecDepth 20000 in
theorem gX2_setSurvivor_X2_goes : GoodIn wsX2_setSurvivor (wsV RX2 66 RX2 yX2_goes wsX2_goes) := goodIn_app (goodIn_of _ (by decide +kernel)) ggX2_setSurvivor_X2_goes
theorem dX2_setSurvivor_0 : decode cX2_setSurvivor 0 = .ok (.aload_n 0, 1) := by decide +kernel
theorem dX2_setSurvivor_1 : decode cX2_setSurvivor 1 = .ok (.aload_n 0, 1) := by decide +kernel
theorem dX2_setSurvivor_2 : decode cX2_setSurvivor 2 = .ok (.iload_n 1, 1) := by decide +kernel
theorem dX2_setSurvivor_3 : decode cX2_setSurvivor 3 = .ok (.invokevirtual 70, 3) := by decide +kernel
theorem dX2_setSurvivor_6 : decode cX2_setSurvivor 6 = .ok (.iload_n 2, 1) := by decide +kernel
theorem dX2_setSurvivor_7 : decode cX2_setSurvivor 7 = .ok (.iconst 0, 1) := by decide +kernel
theorem dX2_setSurvivor_8 : decode cX2_setSurvivor 8 = .ok (.bipush 100, 2) := by decide +kernel
theorem dX2_setSurvivor_10 : decode cX2_setSurvivor 10 = .ok (.invokestatic 61, 3) := by decide +kernel
theorem dX2_setSurvivor_13 : decode cX2_setSurvivor 13 = .ok (.aload_n 0, 1) := by decide +kernel
theorem dX2_setSurvivor_14 : decode cX2_setSurvivor 14 = .ok (.iload_n 1, 1) := by decide +kernel
theorem dX2_setSurvivor_15 : decode cX2_setSurvivor 15 = .ok (.invokevirtual 74, 3) := by decide +kernel
theorem dX2_setSurvivor_18 : decode cX2_setSurvivor 18 = .ok (.invokevirtual 66, 3) := by decide +kernel
theorem dX2_setSurvivor_21 : decode cX2_setSurvivor 21 = .ok (.ifCond .eq 17, 3) := by decide +kernel
theorem dX2_setSurvivor_24 : decode cX2_setSurvivor 24 = .ok (.aload_n 0, 1) := by decide +kernel
theorem dX2_setSurvivor_25 : decode cX2_setSurvivor 25 = .ok (.getfield 19, 3) := by decide +kernel
theorem dX2_setSurvivor_28 : decode cX2_setSurvivor 28 = .ok (.iload_n 1, 1) := by decide +kernel
theorem dX2_setSurvivor_29 : decode cX2_setSurvivor 29 = .ok (.iload_n 2, 1) := by decide +kernel
theorem dX2_setSurvivor_30 : decode cX2_setSurvivor 30 = .ok (.iastore, 1) := by decide +kernel
theorem dX2_setSurvivor_31 : decode cX2_setSurvivor 31 = .ok (.aload_n 0, 1) := by decide +kernel
theorem dX2_setSurvivor_32 : decode cX2_setSurvivor 32 = .ok (.getfield 22, 3) := by decide +kernel
theorem dX2_setSurvivor_35 : decode cX2_setSurvivor 35 = .ok (.iload_n 1, 1) := by decide +kernel
theorem dX2_setSurvivor_36 : decode cX2_setSurvivor 36 = .ok (.iload_n 3, 1) := by decide +kernel
theorem dX2_setSurvivor_37 : decode cX2_setSurvivor 37 = .ok (.bastore, 1) := by decide +kernel
theorem dX2_setSurvivor_38 : decode cX2_setSurvivor 38 = .ok (.return_, 1) := by decide +kernel
set_option maxRecDepth 20000 in
theorem ggX2_setCap_X2_isOne : GoodIn wsX2_setCap wsX2_isOne := goodIn_r _ [6, 7, 22, 23, 24, 25, 26, 27, 28, 29, 30, 31, 32, 33, 34, 35, 36, 37, 38, 39] (by decide +kernel) (by decide +kernel)
set_option maxRecDepth 20000 in
theorem gX2_setCap_X2_isOne : GoodIn wsX2_setCap (wsV RX2 70 RX2 yX2_isOne wsX2_isOne) := goodIn_app (goodIn_of _ (by decide +kernel)) ggX2_setCap_X2_isOne
set_option maxRecDepth 20000 in
theorem ggX2_setCap_X2_isWithin : GoodIn wsX2_setCap wsX2_isWithin := goodIn_r _ [10] (by decide +kernel) (by decide +kernel)
set_option maxRecDepth 20000 in
theorem gX2_setCap_X2_isWithin : GoodIn wsX2_setCap (va_wsS RX2 61 yX2_isWithin wsX2_isWithin) := goodIn_app (goodIn_of _ (by decide +kernel)) ggX2_setCap_X2_isWithin
set_option maxRecDepth 20000 in
theorem ggX2_setCap_X2_isAhead : GoodIn wsX2_setCap wsX2_isAhead := goodIn_r _ [14, 15, 16, 2, 3, 4, 5, 6, 7, 22, 23, 24, 25, 26, 27, 28, 29, 30, 31, 32, 33, 34, 35, 36, 37, 38, 39] (by decide +kernel) (by decide +kernel)
set_option maxRecDepth 20000 in
theorem gX2_setCap_X2_isAhead : GoodIn wsX2_setCap (wsV RX2 74 RX2 yX2_isAhead wsX2_isAhead) := goodIn_app (goodIn_of _ (by decide +kernel)) ggX2_setCap_X2_isAhead
set_option maxRecDepth 20000 in
theorem ggX2_setCap_X2_goes : GoodIn wsX2_setCap wsX2_goes := goodIn_r _ [20, 21, 22, 23, 24, 25, 26, 27, 28, 29, 30, 31, 32, 33, 34, 35, 36, 37, 38, 39] (by decide +kernel) (by decide +kernel)
set_option maxRecDepth 20000 in
theorem gX2_setCap_X2_goes : GoodIn wsX2_setCap (wsV RX2 66 RX2 yX2_goes wsX2_goes) := goodIn_app (goodIn_of _ (by decide +kernel)) ggX2_setCap_X2_goes
theorem dX2_setCap_0 : decode cX2_setCap 0 = .ok (.aload_n 0, 1) := by decide +kernel
theorem dX2_setCap_1 : decode cX2_setCap 1 = .ok (.aload_n 0, 1) := by decide +kernel
theorem dX2_setCap_2 : decode cX2_setCap 2 = .ok (.iload_n 1, 1) := by decide +kernel
theorem dX2_setCap_3 : decode cX2_setCap 3 = .ok (.invokevirtual 70, 3) := by decide +kernel
theorem dX2_setCap_6 : decode cX2_setCap 6 = .ok (.iload_n 2, 1) := by decide +kernel
theorem dX2_setCap_7 : decode cX2_setCap 7 = .ok (.iconst 0, 1) := by decide +kernel
theorem dX2_setCap_8 : decode cX2_setCap 8 = .ok (.sipush 200, 3) := by decide +kernel
theorem dX2_setCap_11 : decode cX2_setCap 11 = .ok (.invokestatic 61, 3) := by decide +kernel
theorem dX2_setCap_14 : decode cX2_setCap 14 = .ok (.aload_n 0, 1) := by decide +kernel
theorem dX2_setCap_15 : decode cX2_setCap 15 = .ok (.iload_n 1, 1) := by decide +kernel
theorem dX2_setCap_16 : decode cX2_setCap 16 = .ok (.invokevirtual 74, 3) := by decide +kernel
theorem dX2_setCap_19 : decode cX2_setCap 19 = .ok (.invokevirtual 66, 3) := by decide +kernel
theorem dX2_setCap_22 : decode cX2_setCap 22 = .ok (.ifCond .eq 10, 3) := by decide +kernel
theorem dX2_setCap_25 : decode cX2_setCap 25 = .ok (.aload_n 0, 1) := by decide +kernel
theorem dX2_setCap_26 : decode cX2_setCap 26 = .ok (.getfield 26, 3) := by decide +kernel
theorem dX2_setCap_29 : decode cX2_setCap 29 = .ok (.iload_n 1, 1) := by decide +kernel
theorem dX2_setCap_30 : decode cX2_setCap 30 = .ok (.iload_n 2, 1) := by decide +kernel
theorem dX2_setCap_31 : decode cX2_setCap 31 = .ok (.iastore, 1) := by decide +kernel
theorem dX2_setCap_32 : decode cX2_setCap 32 = .ok (.return_, 1) := by decide +kernel
set_option maxRecDepth 20000 in
theorem ggX2_protect_X2_isOne : GoodIn wsX2_protect wsX2_isOne := goodIn_r _ [8, 9, 24, 25, 26, 27, 28, 29, 30, 31, 32, 33, 34, 35, 36, 37, 38, 39, 40, 41] (by decide +kernel) (by decide +kernel)
set_option maxRecDepth 20000 in
theorem gX2_protect_X2_isOne : GoodIn wsX2_protect (wsV RX2 70 RX2 yX2_isOne wsX2_isOne) := goodIn_app (goodIn_of _ (by decide +kernel)) ggX2_protect_X2_isOne
set_option maxRecDepth 20000 in
theorem ggX2_protect_X2_isWithin : GoodIn wsX2_protect wsX2_isWithin := goodIn_r _ [12] (by decide +kernel) (by decide +kernel)
set_option maxRecDepth 20000 in
theorem gX2_protect_X2_isWithin : GoodIn wsX2_protect (va_wsS RX2 61 yX2_isWithin wsX2_isWithin) := goodIn_app (goodIn_of _ (by decide +kernel)) ggX2_protect_X2_isWithin
set_option maxRecDepth 20000 in
theorem ggX2_protect_X2_isAhead : GoodIn wsX2_protect wsX2_isAhead := goodIn_r _ [16, 17, 18, 4, 5, 6, 7, 8, 9, 24, 25, 26, 27, 28, 29, 30, 31, 32, 33, 34, 35, 36, 37, 38, 39, 40, 41] (by decide +kernel) (by decide +kernel)
set_option maxRecDepth 20000 in
theorem gX2_protect_X2_isAhead : GoodIn wsX2_protect (wsV RX2 74 RX2 yX2_isAhead wsX2_isAhead) := goodIn_app (goodIn_of _ (by decide +kernel)) ggX2_protect_X2_isAhead
set_option maxRecDepth 20000 in
theorem ggX2_protect_X2_goes : GoodIn wsX2_protect wsX2_goes := goodIn_r _ [22, 23, 24, 25, 26, 27, 28, 29, 30, 31, 32, 33, 34, 35, 36, 37, 38, 39, 40, 41] (by decide +kernel) (by decide +kernel)
set_option maxRecDepth 20000 in
theorem gX2_protect_X2_goes : GoodIn wsX2_protect (wsV RX2 66 RX2 yX2_goes wsX2_goes) := goodIn_app (goodIn_of _ (by decide +kernel)) ggX2_protect_X2_goes
theorem dX2_protect_0 : decode cX2_protect 0 = .ok (.aload_n 0, 1) := by decide +kernel
theorem dX2_protect_1 : decode cX2_protect 1 = .ok (.aload_n 0, 1) := by decide +kernel
theorem dX2_protect_2 : decode cX2_protect 2 = .ok (.iload_n 1, 1) := by decide +kernel
theorem dX2_protect_3 : decode cX2_protect 3 = .ok (.invokevirtual 70, 3) := by decide +kernel
theorem dX2_protect_6 : decode cX2_protect 6 = .ok (.iload_n 2, 1) := by decide +kernel
theorem dX2_protect_7 : decode cX2_protect 7 = .ok (.iconst 0, 1) := by decide +kernel
theorem dX2_protect_8 : decode cX2_protect 8 = .ok (.ldc 77, 2) := by decide +kernel
theorem dX2_protect_10 : decode cX2_protect 10 = .ok (.invokestatic 61, 3) := by decide +kernel
theorem dX2_protect_13 : decode cX2_protect 13 = .ok (.ifCond .eq 17, 3) := by decide +kernel
theorem dX2_protect_16 : decode cX2_protect 16 = .ok (.iload_n 3, 1) := by decide +kernel
theorem dX2_protect_17 : decode cX2_protect 17 = .ok (.iconst 0, 1) := by decide +kernel
theorem dX2_protect_18 : decode cX2_protect 18 = .ok (.bipush 100, 2) := by decide +kernel
theorem dX2_protect_20 : decode cX2_protect 20 = .ok (.invokestatic 61, 3) := by decide +kernel
theorem dX2_protect_23 : decode cX2_protect 23 = .ok (.ifCond .eq 7, 3) := by decide +kernel
theorem dX2_protect_26 : decode cX2_protect 26 = .ok (.iconst 1, 1) := by decide +kernel
theorem dX2_protect_27 : decode cX2_protect 27 = .ok (.goto 4, 3) := by decide +kernel
theorem dX2_protect_30 : decode cX2_protect 30 = .ok (.iconst 0, 1) := by decide +kernel
theorem dX2_protect_31 : decode cX2_protect 31 = .ok (.aload_n 0, 1) := by decide +kernel
theorem dX2_protect_32 : decode cX2_protect 32 = .ok (.iload_n 1, 1) := by decide +kernel
theorem dX2_protect_33 : decode cX2_protect 33 = .ok (.invokevirtual 74, 3) := by decide +kernel
theorem dX2_protect_36 : decode cX2_protect 36 = .ok (.invokevirtual 66, 3) := by decide +kernel
theorem dX2_protect_39 : decode cX2_protect 39 = .ok (.ifCond .eq 17, 3) := by decide +kernel
theorem dX2_protect_42 : decode cX2_protect 42 = .ok (.aload_n 0, 1) := by decide +kernel
theorem dX2_protect_43 : decode cX2_protect 43 = .ok (.getfield 29, 3) := by decide +kernel
theorem dX2_protect_46 : decode cX2_protect 46 = .ok (.iload_n 1, 1) := by decide +kernel
theorem dX2_protect_47 : decode cX2_protect 47 = .ok (.iload_n 2, 1) := by decide +kernel
theorem dX2_protect_48 : decode cX2_protect 48 = .ok (.iastore, 1) := by decide +kernel
theorem dX2_protect_49 : decode cX2_protect 49 = .ok (.aload_n 0, 1) := by decide +kernel
theorem dX2_protect_50 : decode cX2_protect 50 = .ok (.getfield 32, 3) := by decide +kernel
theorem dX2_protect_53 : decode cX2_protect 53 = .ok (.iload_n 1, 1) := by decide +kernel
theorem dX2_protect_54 : decode cX2_protect 54 = .ok (.iload_n 3, 1) := by decide +kernel
theorem dX2_protect_55 : decode cX2_protect 55 = .ok (.iastore, 1) := by decide +kernel
theorem dX2_protect_56 : decode cX2_protect 56 = .ok (.return_, 1) := by decide +kernel
set_option maxRecDepth 20000 in
theorem ggX2_setInflation_X2_isWithin : GoodIn wsX2_setInflation wsX2_isWithin := goodIn_r _ [5] (by decide +kernel) (by decide +kernel)
set_option maxRecDepth 20000 in
theorem gX2_setInflation_X2_isWithin : GoodIn wsX2_setInflation (va_wsS RX2 61 yX2_isWithin wsX2_isWithin) := goodIn_app (goodIn_of _ (by decide +kernel)) ggX2_setInflation_X2_isWithin
set_option maxRecDepth 20000 in
theorem ggX2_setInflation_X2_goes : GoodIn wsX2_setInflation wsX2_goes := goodIn_r _ [9, 10, 11, 12, 13, 14, 15, 16, 17, 18, 19, 20, 21, 22, 23, 24, 25, 26, 27, 28] (by decide +kernel) (by decide +kernel)
set_option maxRecDepth 20000 in
theorem gX2_setInflation_X2_goes : GoodIn wsX2_setInflation (wsV RX2 66 RX2 yX2_goes wsX2_goes) := goodIn_app (goodIn_of _ (by decide +kernel)) ggX2_setInflation_X2_goes
theorem dX2_setInflation_0 : decode cX2_setInflation 0 = .ok (.aload_n 0, 1) := by decide +kernel
theorem dX2_setInflation_1 : decode cX2_setInflation 1 = .ok (.iload_n 1, 1) := by decide +kernel
theorem dX2_setInflation_2 : decode cX2_setInflation 2 = .ok (.iconst 0, 1) := by decide +kernel
theorem dX2_setInflation_3 : decode cX2_setInflation 3 = .ok (.bipush 19, 2) := by decide +kernel
theorem dX2_setInflation_5 : decode cX2_setInflation 5 = .ok (.invokestatic 61, 3) := by decide +kernel
theorem dX2_setInflation_8 : decode cX2_setInflation 8 = .ok (.ifCond .eq 19, 3) := by decide +kernel
theorem dX2_setInflation_11 : decode cX2_setInflation 11 = .ok (.iload_n 2, 1) := by decide +kernel
theorem dX2_setInflation_12 : decode cX2_setInflation 12 = .ok (.bipush (-100), 2) := by decide +kernel
theorem dX2_setInflation_14 : decode cX2_setInflation 14 = .ok (.sipush 300, 3) := by decide +kernel
theorem dX2_setInflation_17 : decode cX2_setInflation 17 = .ok (.invokestatic 61, 3) := by decide +kernel
theorem dX2_setInflation_20 : decode cX2_setInflation 20 = .ok (.ifCond .eq 7, 3) := by decide +kernel
theorem dX2_setInflation_23 : decode cX2_setInflation 23 = .ok (.iconst 1, 1) := by decide +kernel
theorem dX2_setInflation_24 : decode cX2_setInflation 24 = .ok (.goto 4, 3) := by decide +kernel
theorem dX2_setInflation_27 : decode cX2_setInflation 27 = .ok (.iconst 0, 1) := by decide +kernel
theorem dX2_setInflation_28 : decode cX2_setInflation 28 = .ok (.iconst 1, 1) := by decide +kernel
theorem dX2_setInflation_29 : decode cX2_setInflation 29 = .ok (.iconst 1, 1) := by decide +kernel
theorem dX2_setInflation_30 : decode cX2_setInflation 30 = .ok (.invokevirtual 66, 3) := by decide +kernel
theorem dX2_setInflation_33 : decode cX2_setInflation 33 = .ok (.ifCond .ne 5, 3) := by decide +kernel
theorem dX2_setInflation_36 : decode cX2_setInflation 36 = .ok (.iconst 0, 1) := by decide +kernel
theorem dX2_setInflation_37 : decode cX2_setInflation 37 = .ok (.ireturn, 1) := by decide +kernel
theorem dX2_setInflation_38 : decode cX2_setInflation 38 = .ok (.aload_n 0, 1) := by decide +kernel
theorem dX2_setInflation_39 : decode cX2_setInflation 39 = .ok (.getfield 48, 3) := by decide +kernel
theorem dX2_setInflation_42 : decode cX2_setInflation 42 = .ok (.iload_n 1, 1) := by decide +kernel
theorem dX2_setInflation_43 : decode cX2_setInflation 43 = .ok (.iaload, 1) := by decide +kernel
theorem dX2_setInflation_44 : decode cX2_setInflation 44 = .ok (.istore_n 3, 1) := by decide +kernel
theorem dX2_setInflation_45 : decode cX2_setInflation 45 = .ok (.aload_n 0, 1) := by decide +kernel
theorem dX2_setInflation_46 : decode cX2_setInflation 46 = .ok (.getfield 48, 3) := by decide +kernel
theorem dX2_setInflation_49 : decode cX2_setInflation 49 = .ok (.iload_n 1, 1) := by decide +kernel
theorem dX2_setInflation_50 : decode cX2_setInflation 50 = .ok (.iload_n 2, 1) := by decide +kernel
theorem dX2_setInflation_51 : decode cX2_setInflation 51 = .ok (.iastore, 1) := by decide +kernel
theorem dX2_setInflation_52 : decode cX2_setInflation 52 = .ok (.iload_n 3, 1) := by decide +kernel
theorem dX2_setInflation_53 : decode cX2_setInflation 53 = .ok (.ireturn, 1) := by decide +kernel
theorem dX2_isLife_0 : decode cX2_isLife 0 = .ok (.iload_n 0, 1) := by decide +kernel
theorem dX2_isLife_1 : decode cX2_isLife 1 = .ok (.ifCond .eq 8, 3) := by decide +kernel
theorem dX2_isLife_4 : decode cX2_isLife 4 = .ok (.iload_n 0, 1) := by decide +kernel
theorem dX2_isLife_5 : decode cX2_isLife 5 = .ok (.iconst 1, 1) := by decide +kernel
theorem dX2_isLife_6 : decode cX2_isLife 6 = .ok (.if_icmp .ne 7, 3) := by decide +kernel
theorem dX2_isLife_9 : decode cX2_isLife 9 = .ok (.iconst 1, 1) := by decide +kernel
theorem dX2_isLife_10 : decode cX2_isLife 10 = .ok (.goto 4, 3) := by decide +kernel
theorem dX2_isLife_13 : decode cX2_isLife 13 = .ok (.iconst 0, 1) := by decide +kernel
theorem dX2_isLife_14 : decode cX2_isLife 14 = .ok (.ireturn, 1) := by decide +kernel
set_option maxRecDepth 20000 in
theorem ggX2_die_X2_isOne : GoodIn wsX2_die wsX2_isOne := goodIn_r _ [7, 8, 20, 21, 22, 23, 24, 25, 26, 27, 28, 29, 30, 31, 32, 33, 34, 35, 36, 37] (by decide +kernel) (by decide +kernel)
set_option maxRecDepth 20000 in
theorem gX2_die_X2_isOne : GoodIn wsX2_die (wsV RX2 70 RX2 yX2_isOne wsX2_isOne) := goodIn_app (goodIn_of _ (by decide +kernel)) ggX2_die_X2_isOne
set_option maxRecDepth 20000 in
theorem ggX2_die_X2_isLife : GoodIn wsX2_die wsX2_isLife := goodIn_r _ [11] (by decide +kernel) (by decide +kernel)
set_option maxRecDepth 20000 in
theorem gX2_die_X2_isLife : GoodIn wsX2_die (va_wsS RX2 78 yX2_isLife wsX2_isLife) := goodIn_app (goodIn_of _ (by decide +kernel)) ggX2_die_X2_isLife
set_option maxRecDepth 20000 in
theorem ggX2_die_X2_isWithin : GoodIn wsX2_die wsX2_isWithin := goodIn_r _ [14] (by decide +kernel) (by decide +kernel)
set_option maxRecDepth 20000 in
theorem gX2_die_X2_isWithin : GoodIn wsX2_die (va_wsS RX2 61 yX2_isWithin wsX2_isWithin) := goodIn_app (goodIn_of _ (by decide +kernel)) ggX2_die_X2_isWithin
set_option maxRecDepth 20000 in
theorem ggX2_die_X2_goes : GoodIn wsX2_die wsX2_goes := goodIn_r _ [18, 19, 20, 21, 22, 23, 24, 25, 26, 27, 28, 29, 30, 31, 32, 33, 34, 35, 36, 37] (by decide +kernel) (by decide +kernel)
set_option maxRecDepth 20000 in
theorem gX2_die_X2_goes : GoodIn wsX2_die (wsV RX2 66 RX2 yX2_goes wsX2_goes) := goodIn_app (goodIn_of _ (by decide +kernel)) ggX2_die_X2_goes
theorem dX2_die_0 : decode cX2_die 0 = .ok (.aload_n 0, 1) := by decide +kernel
theorem dX2_die_1 : decode cX2_die 1 = .ok (.iload_n 1, 1) := by decide +kernel
theorem dX2_die_2 : decode cX2_die 2 = .ok (.invokevirtual 70, 3) := by decide +kernel
theorem dX2_die_5 : decode cX2_die 5 = .ok (.istore 4, 2) := by decide +kernel
theorem dX2_die_7 : decode cX2_die 7 = .ok (.iload_n 2, 1) := by decide +kernel
theorem dX2_die_8 : decode cX2_die 8 = .ok (.invokestatic 78, 3) := by decide +kernel
theorem dX2_die_11 : decode cX2_die 11 = .ok (.ifCond .eq 35, 3) := by decide +kernel
theorem dX2_die_14 : decode cX2_die 14 = .ok (.iload_n 3, 1) := by decide +kernel
theorem dX2_die_15 : decode cX2_die 15 = .ok (.iconst 0, 1) := by decide +kernel
theorem dX2_die_16 : decode cX2_die 16 = .ok (.aload_n 0, 1) := by decide +kernel
theorem dX2_die_17 : decode cX2_die 17 = .ok (.getfield 58, 3) := by decide +kernel
theorem dX2_die_20 : decode cX2_die 20 = .ok (.sipush 240, 3) := by decide +kernel
theorem dX2_die_23 : decode cX2_die 23 = .ok (.if_icmp .ge 10, 3) := by decide +kernel
theorem dX2_die_26 : decode cX2_die 26 = .ok (.aload_n 0, 1) := by decide +kernel
theorem dX2_die_27 : decode cX2_die 27 = .ok (.getfield 58, 3) := by decide +kernel
theorem dX2_die_30 : decode cX2_die 30 = .ok (.goto 6, 3) := by decide +kernel
theorem dX2_die_33 : decode cX2_die 33 = .ok (.sipush 239, 3) := by decide +kernel
theorem dX2_die_36 : decode cX2_die 36 = .ok (.invokestatic 61, 3) := by decide +kernel
theorem dX2_die_39 : decode cX2_die 39 = .ok (.ifCond .eq 7, 3) := by decide +kernel
theorem dX2_die_42 : decode cX2_die 42 = .ok (.iconst 1, 1) := by decide +kernel
theorem dX2_die_43 : decode cX2_die 43 = .ok (.goto 4, 3) := by decide +kernel
theorem dX2_die_46 : decode cX2_die 46 = .ok (.iconst 0, 1) := by decide +kernel
theorem dX2_die_47 : decode cX2_die 47 = .ok (.istore 5, 2) := by decide +kernel
theorem dX2_die_49 : decode cX2_die 49 = .ok (.aload_n 0, 1) := by decide +kernel
theorem dX2_die_50 : decode cX2_die 50 = .ok (.iload 4, 2) := by decide +kernel
theorem dX2_die_52 : decode cX2_die 52 = .ok (.iload 5, 2) := by decide +kernel
theorem dX2_die_54 : decode cX2_die 54 = .ok (.iload 4, 2) := by decide +kernel
theorem dX2_die_56 : decode cX2_die 56 = .ok (.ifCond .eq 25, 3) := by decide +kernel
theorem dX2_die_59 : decode cX2_die 59 = .ok (.iload 5, 2) := by decide +kernel
theorem dX2_die_61 : decode cX2_die 61 = .ok (.ifCond .eq 20, 3) := by decide +kernel
theorem dX2_die_64 : decode cX2_die 64 = .ok (.aload_n 0, 1) := by decide +kernel
theorem dX2_die_65 : decode cX2_die 65 = .ok (.getfield 35, 3) := by decide +kernel
theorem dX2_die_68 : decode cX2_die 68 = .ok (.iconst 2, 1) := by decide +kernel
theorem dX2_die_69 : decode cX2_die 69 = .ok (.iload_n 1, 1) := by decide +kernel
theorem dX2_die_70 : decode cX2_die 70 = .ok (.imul, 1) := by decide +kernel
theorem dX2_die_71 : decode cX2_die 71 = .ok (.iload_n 2, 1) := by decide +kernel
theorem dX2_die_72 : decode cX2_die 72 = .ok (.iadd, 1) := by decide +kernel
theorem dX2_die_73 : decode cX2_die 73 = .ok (.iaload, 1) := by decide +kernel
theorem dX2_die_74 : decode cX2_die 74 = .ok (.ifCond .ge 7, 3) := by decide +kernel
theorem dX2_die_77 : decode cX2_die 77 = .ok (.iconst 1, 1) := by decide +kernel
theorem dX2_die_78 : decode cX2_die 78 = .ok (.goto 4, 3) := by decide +kernel
theorem dX2_die_81 : decode cX2_die 81 = .ok (.iconst 0, 1) := by decide +kernel
theorem dX2_die_82 : decode cX2_die 82 = .ok (.invokevirtual 66, 3) := by decide +kernel
theorem dX2_die_85 : decode cX2_die 85 = .ok (.ifCond .eq 14, 3) := by decide +kernel
theorem dX2_die_88 : decode cX2_die 88 = .ok (.aload_n 0, 1) := by decide +kernel
theorem dX2_die_89 : decode cX2_die 89 = .ok (.getfield 35, 3) := by decide +kernel
theorem dX2_die_92 : decode cX2_die 92 = .ok (.iconst 2, 1) := by decide +kernel
theorem dX2_die_93 : decode cX2_die 93 = .ok (.iload_n 1, 1) := by decide +kernel
theorem dX2_die_94 : decode cX2_die 94 = .ok (.imul, 1) := by decide +kernel
theorem dX2_die_95 : decode cX2_die 95 = .ok (.iload_n 2, 1) := by decide +kernel
theorem dX2_die_96 : decode cX2_die 96 = .ok (.iadd, 1) := by decide +kernel
theorem dX2_die_97 : decode cX2_die 97 = .ok (.iload_n 3, 1) := by decide +kernel
theorem dX2_die_98 : decode cX2_die 98 = .ok (.iastore, 1) := by decide +kernel
theorem dX2_die_99 : decode cX2_die 99 = .ok (.return_, 1) := by decide +kernel
set_option maxRecDepth 20000 in
theorem ggX2_takeBack_X2_isOne : GoodIn wsX2_takeBack wsX2_isOne := goodIn_r _ [6, 7, 16, 17, 18, 19, 20, 21, 22, 23, 24, 25, 26, 27, 28, 29, 30, 31, 32, 33] (by decide +kernel) (by decide +kernel)
set_option maxRecDepth 20000 in
theorem gX2_takeBack_X2_isOne : GoodIn wsX2_takeBack (wsV RX2 70 RX2 yX2_isOne wsX2_isOne) := goodIn_app (goodIn_of _ (by decide +kernel)) ggX2_takeBack_X2_isOne
set_option maxRecDepth 20000 in
theorem ggX2_takeBack_X2_isLife : GoodIn wsX2_takeBack wsX2_isLife := goodIn_r _ [10] (by decide +kernel) (by decide +kernel)
set_option maxRecDepth 20000 in
theorem gX2_takeBack_X2_isLife : GoodIn wsX2_takeBack (va_wsS RX2 78 yX2_isLife wsX2_isLife) := goodIn_app (goodIn_of _ (by decide +kernel)) ggX2_takeBack_X2_isLife
set_option maxRecDepth 20000 in
theorem ggX2_takeBack_X2_goes : GoodIn wsX2_takeBack wsX2_goes := goodIn_r _ [14, 15, 16, 17, 18, 19, 20, 21, 22, 23, 24, 25, 26, 27, 28, 29, 30, 31, 32, 33] (by decide +kernel) (by decide +kernel)
set_option maxRecDepth 20000 in
theorem gX2_takeBack_X2_goes : GoodIn wsX2_takeBack (wsV RX2 66 RX2 yX2_goes wsX2_goes) := goodIn_app (goodIn_of _ (by decide +kernel)) ggX2_takeBack_X2_goes
theorem dX2_takeBack_0 : decode cX2_takeBack 0 = .ok (.aload_n 0, 1) := by decide +kernel
theorem dX2_takeBack_1 : decode cX2_takeBack 1 = .ok (.iload_n 1, 1) := by decide +kernel
theorem dX2_takeBack_2 : decode cX2_takeBack 2 = .ok (.invokevirtual 70, 3) := by decide +kernel
theorem dX2_takeBack_5 : decode cX2_takeBack 5 = .ok (.istore_n 3, 1) := by decide +kernel
theorem dX2_takeBack_6 : decode cX2_takeBack 6 = .ok (.aload_n 0, 1) := by decide +kernel
theorem dX2_takeBack_7 : decode cX2_takeBack 7 = .ok (.iload_n 3, 1) := by decide +kernel
theorem dX2_takeBack_8 : decode cX2_takeBack 8 = .ok (.iload_n 2, 1) := by decide +kernel
theorem dX2_takeBack_9 : decode cX2_takeBack 9 = .ok (.invokestatic 78, 3) := by decide +kernel
theorem dX2_takeBack_12 : decode cX2_takeBack 12 = .ok (.iload_n 3, 1) := by decide +kernel
theorem dX2_takeBack_13 : decode cX2_takeBack 13 = .ok (.ifCond .eq 27, 3) := by decide +kernel
theorem dX2_takeBack_16 : decode cX2_takeBack 16 = .ok (.iload_n 2, 1) := by decide +kernel
theorem dX2_takeBack_17 : decode cX2_takeBack 17 = .ok (.invokestatic 78, 3) := by decide +kernel
theorem dX2_takeBack_20 : decode cX2_takeBack 20 = .ok (.ifCond .eq 20, 3) := by decide +kernel
theorem dX2_takeBack_23 : decode cX2_takeBack 23 = .ok (.aload_n 0, 1) := by decide +kernel
theorem dX2_takeBack_24 : decode cX2_takeBack 24 = .ok (.getfield 35, 3) := by decide +kernel
theorem dX2_takeBack_27 : decode cX2_takeBack 27 = .ok (.iconst 2, 1) := by decide +kernel
theorem dX2_takeBack_28 : decode cX2_takeBack 28 = .ok (.iload_n 1, 1) := by decide +kernel
theorem dX2_takeBack_29 : decode cX2_takeBack 29 = .ok (.imul, 1) := by decide +kernel
theorem dX2_takeBack_30 : decode cX2_takeBack 30 = .ok (.iload_n 2, 1) := by decide +kernel
theorem dX2_takeBack_31 : decode cX2_takeBack 31 = .ok (.iadd, 1) := by decide +kernel
theorem dX2_takeBack_32 : decode cX2_takeBack 32 = .ok (.iaload, 1) := by decide +kernel
theorem dX2_takeBack_33 : decode cX2_takeBack 33 = .ok (.ifCond .lt 7, 3) := by decide +kernel
theorem dX2_takeBack_36 : decode cX2_takeBack 36 = .ok (.iconst 1, 1) := by decide +kernel
theorem dX2_takeBack_37 : decode cX2_takeBack 37 = .ok (.goto 4, 3) := by decide +kernel
theorem dX2_takeBack_40 : decode cX2_takeBack 40 = .ok (.iconst 0, 1) := by decide +kernel
theorem dX2_takeBack_41 : decode cX2_takeBack 41 = .ok (.invokevirtual 66, 3) := by decide +kernel
theorem dX2_takeBack_44 : decode cX2_takeBack 44 = .ok (.ifCond .ne 5, 3) := by decide +kernel
theorem dX2_takeBack_47 : decode cX2_takeBack 47 = .ok (.iconst 0, 1) := by decide +kernel
theorem dX2_takeBack_48 : decode cX2_takeBack 48 = .ok (.ireturn, 1) := by decide +kernel
theorem dX2_takeBack_49 : decode cX2_takeBack 49 = .ok (.aload_n 0, 1) := by decide +kernel
theorem dX2_takeBack_50 : decode cX2_takeBack 50 = .ok (.getfield 35, 3) := by decide +kernel
theorem dX2_takeBack_53 : decode cX2_takeBack 53 = .ok (.iconst 2, 1) := by decide +kernel
theorem dX2_takeBack_54 : decode cX2_takeBack 54 = .ok (.iload_n 1, 1) := by decide +kernel
theorem dX2_takeBack_55 : decode cX2_takeBack 55 = .ok (.imul, 1) := by decide +kernel
theorem dX2_takeBack_56 : decode cX2_takeBack 56 = .ok (.iload_n 2, 1) := by decide +kernel
theorem dX2_takeBack_57 : decode cX2_takeBack 57 = .ok (.iadd, 1) := by decide +kernel
theorem dX2_takeBack_58 : decode cX2_takeBack 58 = .ok (.iaload, 1) := by decide +kernel
theorem dX2_takeBack_59 : decode cX2_takeBack 59 = .ok (.istore 4, 2) := by decide +kernel
theorem dX2_takeBack_61 : decode cX2_takeBack 61 = .ok (.aload_n 0, 1) := by decide +kernel
theorem dX2_takeBack_62 : decode cX2_takeBack 62 = .ok (.getfield 35, 3) := by decide +kernel
theorem dX2_takeBack_65 : decode cX2_takeBack 65 = .ok (.iconst 2, 1) := by decide +kernel
theorem dX2_takeBack_66 : decode cX2_takeBack 66 = .ok (.iload_n 1, 1) := by decide +kernel
theorem dX2_takeBack_67 : decode cX2_takeBack 67 = .ok (.imul, 1) := by decide +kernel
theorem dX2_takeBack_68 : decode cX2_takeBack 68 = .ok (.iload_n 2, 1) := by decide +kernel
theorem dX2_takeBack_69 : decode cX2_takeBack 69 = .ok (.iadd, 1) := by decide +kernel
theorem dX2_takeBack_70 : decode cX2_takeBack 70 = .ok (.iconst (-1), 1) := by decide +kernel
theorem dX2_takeBack_71 : decode cX2_takeBack 71 = .ok (.iastore, 1) := by decide +kernel
theorem dX2_takeBack_72 : decode cX2_takeBack 72 = .ok (.iload 4, 2) := by decide +kernel
theorem dX2_takeBack_74 : decode cX2_takeBack 74 = .ok (.ireturn, 1) := by decide +kernel
theorem dX2_begins_0 : decode cX2_begins 0 = .ok (.aload_n 0, 1) := by decide +kernel
theorem dX2_begins_1 : decode cX2_begins 1 = .ok (.aload_n 0, 1) := by decide +kernel
theorem dX2_begins_2 : decode cX2_begins 2 = .ok (.getfield 13, 3) := by decide +kernel
theorem dX2_begins_5 : decode cX2_begins 5 = .ok (.iload_n 1, 1) := by decide +kernel
theorem dX2_begins_6 : decode cX2_begins 6 = .ok (.iaload, 1) := by decide +kernel
theorem dX2_begins_7 : decode cX2_begins 7 = .ok (.putfield 81, 3) := by decide +kernel
theorem dX2_begins_10 : decode cX2_begins 10 = .ok (.aload_n 0, 1) := by decide +kernel
theorem dX2_begins_11 : decode cX2_begins 11 = .ok (.iconst 0, 1) := by decide +kernel
theorem dX2_begins_12 : decode cX2_begins 12 = .ok (.putfield 84, 3) := by decide +kernel
theorem dX2_begins_15 : decode cX2_begins 15 = .ok (.return_, 1) := by decide +kernel
theorem dX2_grows_0 : decode cX2_grows 0 = .ok (.iload_n 2, 1) := by decide +kernel
theorem dX2_grows_1 : decode cX2_grows 1 = .ok (.aload_n 0, 1) := by decide +kernel
theorem dX2_grows_2 : decode cX2_grows 2 = .ok (.getfield 7, 3) := by decide +kernel
theorem dX2_grows_5 : decode cX2_grows 5 = .ok (.iload_n 1, 1) := by decide +kernel
theorem dX2_grows_6 : decode cX2_grows 6 = .ok (.iaload, 1) := by decide +kernel
theorem dX2_grows_7 : decode cX2_grows 7 = .ok (.if_icmp .le 92, 3) := by decide +kernel
theorem dX2_grows_10 : decode cX2_grows 10 = .ok (.iload_n 2, 1) := by decide +kernel
theorem dX2_grows_11 : decode cX2_grows 11 = .ok (.aload_n 0, 1) := by decide +kernel
theorem dX2_grows_12 : decode cX2_grows 12 = .ok (.getfield 7, 3) := by decide +kernel
theorem dX2_grows_15 : decode cX2_grows 15 = .ok (.iload_n 1, 1) := by decide +kernel
theorem dX2_grows_16 : decode cX2_grows 16 = .ok (.iaload, 1) := by decide +kernel
theorem dX2_grows_17 : decode cX2_grows 17 = .ok (.isub, 1) := by decide +kernel
theorem dX2_grows_18 : decode cX2_grows 18 = .ok (.bipush 12, 2) := by decide +kernel
theorem dX2_grows_20 : decode cX2_grows 20 = .ok (.irem, 1) := by decide +kernel
theorem dX2_grows_21 : decode cX2_grows 21 = .ok (.ifCond .ne 78, 3) := by decide +kernel
theorem dX2_grows_24 : decode cX2_grows 24 = .ok (.aload_n 0, 1) := by decide +kernel
theorem dX2_grows_25 : decode cX2_grows 25 = .ok (.getfield 84, 3) := by decide +kernel
theorem dX2_grows_28 : decode cX2_grows 28 = .ok (.aload_n 0, 1) := by decide +kernel
theorem dX2_grows_29 : decode cX2_grows 29 = .ok (.getfield 48, 3) := by decide +kernel
theorem dX2_grows_32 : decode cX2_grows 32 = .ok (.iload_n 2, 1) := by decide +kernel
theorem dX2_grows_33 : decode cX2_grows 33 = .ok (.bipush 12, 2) := by decide +kernel
theorem dX2_grows_35 : decode cX2_grows 35 = .ok (.idiv, 1) := by decide +kernel
theorem dX2_grows_36 : decode cX2_grows 36 = .ok (.iconst 1, 1) := by decide +kernel
theorem dX2_grows_37 : decode cX2_grows 37 = .ok (.isub, 1) := by decide +kernel
theorem dX2_grows_38 : decode cX2_grows 38 = .ok (.iaload, 1) := by decide +kernel
theorem dX2_grows_39 : decode cX2_grows 39 = .ok (.iadd, 1) := by decide +kernel
theorem dX2_grows_40 : decode cX2_grows 40 = .ok (.istore_n 3, 1) := by decide +kernel
theorem dX2_grows_41 : decode cX2_grows 41 = .ok (.iload_n 3, 1) := by decide +kernel
theorem dX2_grows_42 : decode cX2_grows 42 = .ok (.aload_n 0, 1) := by decide +kernel
theorem dX2_grows_43 : decode cX2_grows 43 = .ok (.getfield 26, 3) := by decide +kernel
theorem dX2_grows_46 : decode cX2_grows 46 = .ok (.iload_n 1, 1) := by decide +kernel
theorem dX2_grows_47 : decode cX2_grows 47 = .ok (.iaload, 1) := by decide +kernel
theorem dX2_grows_48 : decode cX2_grows 48 = .ok (.if_icmp .le 12, 3) := by decide +kernel
theorem dX2_grows_51 : decode cX2_grows 51 = .ok (.aload_n 0, 1) := by decide +kernel
theorem dX2_grows_52 : decode cX2_grows 52 = .ok (.getfield 26, 3) := by decide +kernel
theorem dX2_grows_55 : decode cX2_grows 55 = .ok (.iload_n 1, 1) := by decide +kernel
theorem dX2_grows_56 : decode cX2_grows 56 = .ok (.iaload, 1) := by decide +kernel
theorem dX2_grows_57 : decode cX2_grows 57 = .ok (.goto 12, 3) := by decide +kernel
theorem dX2_grows_60 : decode cX2_grows 60 = .ok (.iload_n 3, 1) := by decide +kernel
theorem dX2_grows_61 : decode cX2_grows 61 = .ok (.ifCond .ge 7, 3) := by decide +kernel
theorem dX2_grows_64 : decode cX2_grows 64 = .ok (.iconst 0, 1) := by decide +kernel
theorem dX2_grows_65 : decode cX2_grows 65 = .ok (.goto 4, 3) := by decide +kernel
theorem dX2_grows_68 : decode cX2_grows 68 = .ok (.iload_n 3, 1) := by decide +kernel
theorem dX2_grows_69 : decode cX2_grows 69 = .ok (.istore 4, 2) := by decide +kernel
theorem dX2_grows_71 : decode cX2_grows 71 = .ok (.aload_n 0, 1) := by decide +kernel
theorem dX2_grows_72 : decode cX2_grows 72 = .ok (.iload_n 3, 1) := by decide +kernel
theorem dX2_grows_73 : decode cX2_grows 73 = .ok (.iload 4, 2) := by decide +kernel
theorem dX2_grows_75 : decode cX2_grows 75 = .ok (.isub, 1) := by decide +kernel
theorem dX2_grows_76 : decode cX2_grows 76 = .ok (.putfield 84, 3) := by decide +kernel
theorem dX2_grows_79 : decode cX2_grows 79 = .ok (.aload_n 0, 1) := by decide +kernel
theorem dX2_grows_80 : decode cX2_grows 80 = .ok (.dup, 1) := by decide +kernel
theorem dX2_grows_81 : decode cX2_grows 81 = .ok (.getfield 81, 3) := by decide +kernel
theorem dX2_grows_84 : decode cX2_grows 84 = .ok (.aload_n 0, 1) := by decide +kernel
theorem dX2_grows_85 : decode cX2_grows 85 = .ok (.getfield 81, 3) := by decide +kernel
theorem dX2_grows_88 : decode cX2_grows 88 = .ok (.iload 4, 2) := by decide +kernel
theorem dX2_grows_90 : decode cX2_grows 90 = .ok (.imul, 1) := by decide +kernel
theorem dX2_grows_91 : decode cX2_grows 91 = .ok (.sipush 1000, 3) := by decide +kernel
theorem dX2_grows_94 : decode cX2_grows 94 = .ok (.idiv, 1) := by decide +kernel
theorem dX2_grows_95 : decode cX2_grows 95 = .ok (.iadd, 1) := by decide +kernel
theorem dX2_grows_96 : decode cX2_grows 96 = .ok (.putfield 81, 3) := by decide +kernel
theorem dX2_grows_99 : decode cX2_grows 99 = .ok (.return_, 1) := by decide +kernel
set_option maxRecDepth 20000 in
theorem ggX2_stands_X2_begins : GoodIn wsX2_stands wsX2_begins := goodIn_r _ [6, 7, 8, 9, 16, 17, 18, 19, 20, 21, 22, 23, 24, 25, 26, 27, 28, 29, 30, 31, 32, 33] (by decide +kernel) (by decide +kernel)
set_option maxRecDepth 20000 in
theorem gX2_stands_X2_begins : GoodIn wsX2_stands (wsV RX2 87 RX2 yX2_begins wsX2_begins) := goodIn_app (goodIn_of _ (by decide +kernel)) ggX2_stands_X2_begins
set_option maxRecDepth 20000 in
theorem ggX2_stands_X2_grows : GoodIn wsX2_stands wsX2_grows := goodIn_r _ [13, 1, 9, 14, 15, 8, 16, 17, 18, 19, 20, 21, 22, 23, 24, 25, 26, 27, 28, 29, 30, 31, 32, 33] (by decide +kernel) (by decide +kernel)
set_option maxRecDepth 20000 in
theorem gX2_stands_X2_grows : GoodIn wsX2_stands (wsV RX2 91 RX2 yX2_grows wsX2_grows) := goodIn_app (goodIn_of _ (by decide +kernel)) ggX2_stands_X2_grows
theorem dX2_stands_0 : decode cX2_stands 0 = .ok (.aload_n 0, 1) := by decide +kernel
theorem dX2_stands_1 : decode cX2_stands 1 = .ok (.iload_n 1, 1) := by decide +kernel
theorem dX2_stands_2 : decode cX2_stands 2 = .ok (.invokevirtual 87, 3) := by decide +kernel
theorem dX2_stands_5 : decode cX2_stands 5 = .ok (.aload_n 0, 1) := by decide +kernel
theorem dX2_stands_6 : decode cX2_stands 6 = .ok (.getfield 7, 3) := by decide +kernel
theorem dX2_stands_9 : decode cX2_stands 9 = .ok (.iload_n 1, 1) := by decide +kernel
theorem dX2_stands_10 : decode cX2_stands 10 = .ok (.iaload, 1) := by decide +kernel
theorem dX2_stands_11 : decode cX2_stands 11 = .ok (.istore_n 3, 1) := by decide +kernel
theorem dX2_stands_12 : decode cX2_stands 12 = .ok (.iload_n 3, 1) := by decide +kernel
theorem dX2_stands_13 : decode cX2_stands 13 = .ok (.iload_n 2, 1) := by decide +kernel
theorem dX2_stands_14 : decode cX2_stands 14 = .ok (.if_icmp .gt 15, 3) := by decide +kernel
theorem dX2_stands_17 : decode cX2_stands 17 = .ok (.aload_n 0, 1) := by decide +kernel
theorem dX2_stands_18 : decode cX2_stands 18 = .ok (.iload_n 1, 1) := by decide +kernel
theorem dX2_stands_19 : decode cX2_stands 19 = .ok (.iload_n 3, 1) := by decide +kernel
theorem dX2_stands_20 : decode cX2_stands 20 = .ok (.invokevirtual 91, 3) := by decide +kernel
theorem dX2_stands_23 : decode cX2_stands 23 = .ok (.iinc 3 1, 3) := by decide +kernel
theorem dX2_stands_26 : decode cX2_stands 26 = .ok (.goto (-14), 3) := by decide +kernel
theorem dX2_stands_29 : decode cX2_stands 29 = .ok (.iload_n 2, 1) := by decide +kernel
theorem dX2_stands_30 : decode cX2_stands 30 = .ok (.aload_n 0, 1) := by decide +kernel
theorem dX2_stands_31 : decode cX2_stands 31 = .ok (.getfield 7, 3) := by decide +kernel
theorem dX2_stands_34 : decode cX2_stands 34 = .ok (.iload_n 1, 1) := by decide +kernel
theorem dX2_stands_35 : decode cX2_stands 35 = .ok (.iaload, 1) := by decide +kernel
theorem dX2_stands_36 : decode cX2_stands 36 = .ok (.if_icmp .lt 7, 3) := by decide +kernel
theorem dX2_stands_39 : decode cX2_stands 39 = .ok (.iconst 1, 1) := by decide +kernel
theorem dX2_stands_40 : decode cX2_stands 40 = .ok (.goto 4, 3) := by decide +kernel
theorem dX2_stands_43 : decode cX2_stands 43 = .ok (.iconst 0, 1) := by decide +kernel
theorem dX2_stands_44 : decode cX2_stands 44 = .ok (.ireturn, 1) := by decide +kernel
set_option maxRecDepth 20000 in
theorem ggX2_fullAmount_X2_isOne : GoodIn wsX2_fullAmount wsX2_isOne := goodIn_r _ [6, 7, 33, 34, 35, 36, 37, 38, 39, 40, 41, 42, 43, 44, 45, 46, 47, 48, 49, 50] (by decide +kernel) (by decide +kernel)
set_option maxRecDepth 20000 in
theorem gX2_fullAmount_X2_isOne : GoodIn wsX2_fullAmount (wsV RX2 70 RX2 yX2_isOne wsX2_isOne) := goodIn_app (goodIn_of _ (by decide +kernel)) ggX2_fullAmount_X2_isOne
set_option maxRecDepth 20000 in
theorem ggX2_fullAmount_X2_isWithin : GoodIn wsX2_fullAmount wsX2_isWithin := goodIn_r _ [10] (by decide +kernel) (by decide +kernel)
set_option maxRecDepth 20000 in
theorem gX2_fullAmount_X2_isWithin : GoodIn wsX2_fullAmount (va_wsS RX2 61 yX2_isWithin wsX2_isWithin) := goodIn_app (goodIn_of _ (by decide +kernel)) ggX2_fullAmount_X2_isWithin
set_option maxRecDepth 20000 in
theorem ggX2_fullAmount_X2_goes : GoodIn wsX2_fullAmount wsX2_goes := goodIn_r _ [14, 15, 33, 34, 35, 36, 37, 38, 39, 40, 41, 42, 43, 44, 45, 46, 47, 48, 49, 50] (by decide +kernel) (by decide +kernel)
set_option maxRecDepth 20000 in
theorem gX2_fullAmount_X2_goes : GoodIn wsX2_fullAmount (wsV RX2 66 RX2 yX2_goes wsX2_goes) := goodIn_app (goodIn_of _ (by decide +kernel)) ggX2_fullAmount_X2_goes
set_option maxRecDepth 20000 in
theorem ggX2_fullAmount_X2_stands : GoodIn wsX2_fullAmount wsX2_stands := goodIn_r _ [19, 20, 21, 22, 23, 5, 24, 25, 1, 26, 27, 28, 29, 30, 31, 32, 33, 34, 35, 36, 37, 38, 39, 40, 41, 42, 43, 44, 45, 46, 47, 48, 49, 50] (by decide +kernel) (by decide +kernel)
set_option maxRecDepth 20000 in
theorem gX2_fullAmount_X2_stands : GoodIn wsX2_fullAmount (wsV RX2 95 RX2 yX2_stands wsX2_stands) := goodIn_app (goodIn_of _ (by decide +kernel)) ggX2_fullAmount_X2_stands
theorem dX2_fullAmount_0 : decode cX2_fullAmount 0 = .ok (.aload_n 0, 1) := by decide +kernel
theorem dX2_fullAmount_1 : decode cX2_fullAmount 1 = .ok (.aload_n 0, 1) := by decide +kernel
theorem dX2_fullAmount_2 : decode cX2_fullAmount 2 = .ok (.iload_n 1, 1) := by decide +kernel
theorem dX2_fullAmount_3 : decode cX2_fullAmount 3 = .ok (.invokevirtual 70, 3) := by decide +kernel
theorem dX2_fullAmount_6 : decode cX2_fullAmount 6 = .ok (.iload_n 2, 1) := by decide +kernel
theorem dX2_fullAmount_7 : decode cX2_fullAmount 7 = .ok (.iconst 0, 1) := by decide +kernel
theorem dX2_fullAmount_8 : decode cX2_fullAmount 8 = .ok (.sipush 239, 3) := by decide +kernel
theorem dX2_fullAmount_11 : decode cX2_fullAmount 11 = .ok (.invokestatic 61, 3) := by decide +kernel
theorem dX2_fullAmount_14 : decode cX2_fullAmount 14 = .ok (.iconst 1, 1) := by decide +kernel
theorem dX2_fullAmount_15 : decode cX2_fullAmount 15 = .ok (.invokevirtual 66, 3) := by decide +kernel
theorem dX2_fullAmount_18 : decode cX2_fullAmount 18 = .ok (.istore_n 3, 1) := by decide +kernel
theorem dX2_fullAmount_19 : decode cX2_fullAmount 19 = .ok (.iload_n 3, 1) := by decide +kernel
theorem dX2_fullAmount_20 : decode cX2_fullAmount 20 = .ok (.ifCond .eq 19, 3) := by decide +kernel
theorem dX2_fullAmount_23 : decode cX2_fullAmount 23 = .ok (.aload_n 0, 1) := by decide +kernel
theorem dX2_fullAmount_24 : decode cX2_fullAmount 24 = .ok (.iload_n 1, 1) := by decide +kernel
theorem dX2_fullAmount_25 : decode cX2_fullAmount 25 = .ok (.iload_n 2, 1) := by decide +kernel
theorem dX2_fullAmount_26 : decode cX2_fullAmount 26 = .ok (.invokevirtual 95, 3) := by decide +kernel
theorem dX2_fullAmount_29 : decode cX2_fullAmount 29 = .ok (.ifCond .eq 10, 3) := by decide +kernel
theorem dX2_fullAmount_32 : decode cX2_fullAmount 32 = .ok (.aload_n 0, 1) := by decide +kernel
theorem dX2_fullAmount_33 : decode cX2_fullAmount 33 = .ok (.getfield 81, 3) := by decide +kernel
theorem dX2_fullAmount_36 : decode cX2_fullAmount 36 = .ok (.goto 4, 3) := by decide +kernel
theorem dX2_fullAmount_39 : decode cX2_fullAmount 39 = .ok (.iconst 0, 1) := by decide +kernel
theorem dX2_fullAmount_40 : decode cX2_fullAmount 40 = .ok (.ireturn, 1) := by decide +kernel
set_option maxRecDepth 20000 in
theorem ggX2_carry_X2_isOne : GoodIn wsX2_carry wsX2_isOne := goodIn_r _ [6, 7, 33, 34, 35, 36, 37, 38, 39, 40, 41, 42, 43, 44, 45, 46, 47, 48, 49, 50] (by decide +kernel) (by decide +kernel)
set_option maxRecDepth 20000 in
theorem gX2_carry_X2_isOne : GoodIn wsX2_carry (wsV RX2 70 RX2 yX2_isOne wsX2_isOne) := goodIn_app (goodIn_of _ (by decide +kernel)) ggX2_carry_X2_isOne
set_option maxRecDepth 20000 in
theorem ggX2_carry_X2_isWithin : GoodIn wsX2_carry wsX2_isWithin := goodIn_r _ [10] (by decide +kernel) (by decide +kernel)
set_option maxRecDepth 20000 in
theorem gX2_carry_X2_isWithin : GoodIn wsX2_carry (va_wsS RX2 61 yX2_isWithin wsX2_isWithin) := goodIn_app (goodIn_of _ (by decide +kernel)) ggX2_carry_X2_isWithin
set_option maxRecDepth 20000 in
theorem ggX2_carry_X2_goes : GoodIn wsX2_carry wsX2_goes := goodIn_r _ [14, 15, 33, 34, 35, 36, 37, 38, 39, 40, 41, 42, 43, 44, 45, 46, 47, 48, 49, 50] (by decide +kernel) (by decide +kernel)
set_option maxRecDepth 20000 in
theorem gX2_carry_X2_goes : GoodIn wsX2_carry (wsV RX2 66 RX2 yX2_goes wsX2_goes) := goodIn_app (goodIn_of _ (by decide +kernel)) ggX2_carry_X2_goes
set_option maxRecDepth 20000 in
theorem ggX2_carry_X2_stands : GoodIn wsX2_carry wsX2_stands := goodIn_r _ [19, 20, 21, 22, 23, 5, 24, 25, 26, 1, 27, 28, 29, 30, 31, 32, 33, 34, 35, 36, 37, 38, 39, 40, 41, 42, 43, 44, 45, 46, 47, 48, 49, 50] (by decide +kernel) (by decide +kernel)
set_option maxRecDepth 20000 in
theorem gX2_carry_X2_stands : GoodIn wsX2_carry (wsV RX2 95 RX2 yX2_stands wsX2_stands) := goodIn_app (goodIn_of _ (by decide +kernel)) ggX2_carry_X2_stands
theorem dX2_carry_0 : decode cX2_carry 0 = .ok (.aload_n 0, 1) := by decide +kernel
theorem dX2_carry_1 : decode cX2_carry 1 = .ok (.aload_n 0, 1) := by decide +kernel
theorem dX2_carry_2 : decode cX2_carry 2 = .ok (.iload_n 1, 1) := by decide +kernel
theorem dX2_carry_3 : decode cX2_carry 3 = .ok (.invokevirtual 70, 3) := by decide +kernel
theorem dX2_carry_6 : decode cX2_carry 6 = .ok (.iload_n 2, 1) := by decide +kernel
theorem dX2_carry_7 : decode cX2_carry 7 = .ok (.iconst 0, 1) := by decide +kernel
theorem dX2_carry_8 : decode cX2_carry 8 = .ok (.sipush 239, 3) := by decide +kernel
theorem dX2_carry_11 : decode cX2_carry 11 = .ok (.invokestatic 61, 3) := by decide +kernel
theorem dX2_carry_14 : decode cX2_carry 14 = .ok (.iconst 1, 1) := by decide +kernel
theorem dX2_carry_15 : decode cX2_carry 15 = .ok (.invokevirtual 66, 3) := by decide +kernel
theorem dX2_carry_18 : decode cX2_carry 18 = .ok (.istore_n 3, 1) := by decide +kernel
theorem dX2_carry_19 : decode cX2_carry 19 = .ok (.iload_n 3, 1) := by decide +kernel
theorem dX2_carry_20 : decode cX2_carry 20 = .ok (.ifCond .eq 19, 3) := by decide +kernel
theorem dX2_carry_23 : decode cX2_carry 23 = .ok (.aload_n 0, 1) := by decide +kernel
theorem dX2_carry_24 : decode cX2_carry 24 = .ok (.iload_n 1, 1) := by decide +kernel
theorem dX2_carry_25 : decode cX2_carry 25 = .ok (.iload_n 2, 1) := by decide +kernel
theorem dX2_carry_26 : decode cX2_carry 26 = .ok (.invokevirtual 95, 3) := by decide +kernel
theorem dX2_carry_29 : decode cX2_carry 29 = .ok (.ifCond .eq 10, 3) := by decide +kernel
theorem dX2_carry_32 : decode cX2_carry 32 = .ok (.aload_n 0, 1) := by decide +kernel
theorem dX2_carry_33 : decode cX2_carry 33 = .ok (.getfield 84, 3) := by decide +kernel
theorem dX2_carry_36 : decode cX2_carry 36 = .ok (.goto 4, 3) := by decide +kernel
theorem dX2_carry_39 : decode cX2_carry 39 = .ok (.iconst 0, 1) := by decide +kernel
theorem dX2_carry_40 : decode cX2_carry 40 = .ok (.ireturn, 1) := by decide +kernel
theorem dX2_isAlive_0 : decode cX2_isAlive 0 = .ok (.aload_n 0, 1) := by decide +kernel
theorem dX2_isAlive_1 : decode cX2_isAlive 1 = .ok (.getfield 35, 3) := by decide +kernel
theorem dX2_isAlive_4 : decode cX2_isAlive 4 = .ok (.iconst 2, 1) := by decide +kernel
theorem dX2_isAlive_5 : decode cX2_isAlive 5 = .ok (.iload_n 1, 1) := by decide +kernel
theorem dX2_isAlive_6 : decode cX2_isAlive 6 = .ok (.imul, 1) := by decide +kernel
theorem dX2_isAlive_7 : decode cX2_isAlive 7 = .ok (.iload_n 2, 1) := by decide +kernel
theorem dX2_isAlive_8 : decode cX2_isAlive 8 = .ok (.iadd, 1) := by decide +kernel
theorem dX2_isAlive_9 : decode cX2_isAlive 9 = .ok (.iaload, 1) := by decide +kernel
theorem dX2_isAlive_10 : decode cX2_isAlive 10 = .ok (.ifCond .lt 17, 3) := by decide +kernel
theorem dX2_isAlive_13 : decode cX2_isAlive 13 = .ok (.iload_n 3, 1) := by decide +kernel
theorem dX2_isAlive_14 : decode cX2_isAlive 14 = .ok (.aload_n 0, 1) := by decide +kernel
theorem dX2_isAlive_15 : decode cX2_isAlive 15 = .ok (.getfield 35, 3) := by decide +kernel
theorem dX2_isAlive_18 : decode cX2_isAlive 18 = .ok (.iconst 2, 1) := by decide +kernel
theorem dX2_isAlive_19 : decode cX2_isAlive 19 = .ok (.iload_n 1, 1) := by decide +kernel
theorem dX2_isAlive_20 : decode cX2_isAlive 20 = .ok (.imul, 1) := by decide +kernel
theorem dX2_isAlive_21 : decode cX2_isAlive 21 = .ok (.iload_n 2, 1) := by decide +kernel
theorem dX2_isAlive_22 : decode cX2_isAlive 22 = .ok (.iadd, 1) := by decide +kernel
theorem dX2_isAlive_23 : decode cX2_isAlive 23 = .ok (.iaload, 1) := by decide +kernel
theorem dX2_isAlive_24 : decode cX2_isAlive 24 = .ok (.if_icmp .gt 7, 3) := by decide +kernel
theorem dX2_isAlive_27 : decode cX2_isAlive 27 = .ok (.iconst 1, 1) := by decide +kernel
theorem dX2_isAlive_28 : decode cX2_isAlive 28 = .ok (.goto 4, 3) := by decide +kernel
theorem dX2_isAlive_31 : decode cX2_isAlive 31 = .ok (.iconst 0, 1) := by decide +kernel
theorem dX2_isAlive_32 : decode cX2_isAlive 32 = .ok (.ireturn, 1) := by decide +kernel
set_option maxRecDepth 20000 in
theorem ggX2_share_X2_isAlive : GoodIn wsX2_share wsX2_isAlive := goodIn_r _ [10, 11, 12, 13, 14, 15, 16, 17, 18, 19, 20, 21, 22, 23, 24, 25, 26, 27, 28, 29] (by decide +kernel) (by decide +kernel)
set_option maxRecDepth 20000 in
theorem gX2_share_X2_isAlive : GoodIn wsX2_share (wsV RX2 99 RX2 yX2_isAlive wsX2_isAlive) := goodIn_app (goodIn_of _ (by decide +kernel)) ggX2_share_X2_isAlive
theorem dX2_share_0 : decode cX2_share 0 = .ok (.aload_n 0, 1) := by decide +kernel
theorem dX2_share_1 : decode cX2_share 1 = .ok (.iload_n 1, 1) := by decide +kernel
theorem dX2_share_2 : decode cX2_share 2 = .ok (.iconst 0, 1) := by decide +kernel
theorem dX2_share_3 : decode cX2_share 3 = .ok (.iload_n 2, 1) := by decide +kernel
theorem dX2_share_4 : decode cX2_share 4 = .ok (.invokevirtual 99, 3) := by decide +kernel
theorem dX2_share_7 : decode cX2_share 7 = .ok (.istore_n 3, 1) := by decide +kernel
theorem dX2_share_8 : decode cX2_share 8 = .ok (.aload_n 0, 1) := by decide +kernel
theorem dX2_share_9 : decode cX2_share 9 = .ok (.iload_n 1, 1) := by decide +kernel
theorem dX2_share_10 : decode cX2_share 10 = .ok (.iconst 1, 1) := by decide +kernel
theorem dX2_share_11 : decode cX2_share 11 = .ok (.iload_n 2, 1) := by decide +kernel
theorem dX2_share_12 : decode cX2_share 12 = .ok (.invokevirtual 99, 3) := by decide +kernel
theorem dX2_share_15 : decode cX2_share 15 = .ok (.istore 4, 2) := by decide +kernel
theorem dX2_share_17 : decode cX2_share 17 = .ok (.iload_n 2, 1) := by decide +kernel
theorem dX2_share_18 : decode cX2_share 18 = .ok (.aload_n 0, 1) := by decide +kernel
theorem dX2_share_19 : decode cX2_share 19 = .ok (.getfield 7, 3) := by decide +kernel
theorem dX2_share_22 : decode cX2_share 22 = .ok (.iload_n 1, 1) := by decide +kernel
theorem dX2_share_23 : decode cX2_share 23 = .ok (.iaload, 1) := by decide +kernel
theorem dX2_share_24 : decode cX2_share 24 = .ok (.aload_n 0, 1) := by decide +kernel
theorem dX2_share_25 : decode cX2_share 25 = .ok (.getfield 16, 3) := by decide +kernel
theorem dX2_share_28 : decode cX2_share 28 = .ok (.iload_n 1, 1) := by decide +kernel
theorem dX2_share_29 : decode cX2_share 29 = .ok (.iaload, 1) := by decide +kernel
theorem dX2_share_30 : decode cX2_share 30 = .ok (.iadd, 1) := by decide +kernel
theorem dX2_share_31 : decode cX2_share 31 = .ok (.if_icmp .lt 25, 3) := by decide +kernel
theorem dX2_share_34 : decode cX2_share 34 = .ok (.iload_n 3, 1) := by decide +kernel
theorem dX2_share_35 : decode cX2_share 35 = .ok (.ifCond .eq 8, 3) := by decide +kernel
theorem dX2_share_38 : decode cX2_share 38 = .ok (.iload 4, 2) := by decide +kernel
theorem dX2_share_40 : decode cX2_share 40 = .ok (.ifCond .ne 16, 3) := by decide +kernel
theorem dX2_share_43 : decode cX2_share 43 = .ok (.iload_n 3, 1) := by decide +kernel
theorem dX2_share_44 : decode cX2_share 44 = .ok (.ifCond .eq 17, 3) := by decide +kernel
theorem dX2_share_47 : decode cX2_share 47 = .ok (.aload_n 0, 1) := by decide +kernel
theorem dX2_share_48 : decode cX2_share 48 = .ok (.getfield 22, 3) := by decide +kernel
theorem dX2_share_51 : decode cX2_share 51 = .ok (.iload_n 1, 1) := by decide +kernel
theorem dX2_share_52 : decode cX2_share 52 = .ok (.baload, 1) := by decide +kernel
theorem dX2_share_53 : decode cX2_share 53 = .ok (.ifCond .ne 8, 3) := by decide +kernel
theorem dX2_share_56 : decode cX2_share 56 = .ok (.aload_n 0, 1) := by decide +kernel
theorem dX2_share_57 : decode cX2_share 57 = .ok (.getfield 81, 3) := by decide +kernel
theorem dX2_share_60 : decode cX2_share 60 = .ok (.ireturn, 1) := by decide +kernel
theorem dX2_share_61 : decode cX2_share 61 = .ok (.iload_n 3, 1) := by decide +kernel
theorem dX2_share_62 : decode cX2_share 62 = .ok (.ifCond .ne 8, 3) := by decide +kernel
theorem dX2_share_65 : decode cX2_share 65 = .ok (.iload 4, 2) := by decide +kernel
theorem dX2_share_67 : decode cX2_share 67 = .ok (.ifCond .eq 20, 3) := by decide +kernel
theorem dX2_share_70 : decode cX2_share 70 = .ok (.aload_n 0, 1) := by decide +kernel
theorem dX2_share_71 : decode cX2_share 71 = .ok (.getfield 81, 3) := by decide +kernel
theorem dX2_share_74 : decode cX2_share 74 = .ok (.aload_n 0, 1) := by decide +kernel
theorem dX2_share_75 : decode cX2_share 75 = .ok (.getfield 19, 3) := by decide +kernel
theorem dX2_share_78 : decode cX2_share 78 = .ok (.iload_n 1, 1) := by decide +kernel
theorem dX2_share_79 : decode cX2_share 79 = .ok (.iaload, 1) := by decide +kernel
theorem dX2_share_80 : decode cX2_share 80 = .ok (.imul, 1) := by decide +kernel
theorem dX2_share_81 : decode cX2_share 81 = .ok (.bipush 100, 2) := by decide +kernel
theorem dX2_share_83 : decode cX2_share 83 = .ok (.idiv, 1) := by decide +kernel
theorem dX2_share_84 : decode cX2_share 84 = .ok (.goto 4, 3) := by decide +kernel
theorem dX2_share_87 : decode cX2_share 87 = .ok (.iconst 0, 1) := by decide +kernel
theorem dX2_share_88 : decode cX2_share 88 = .ok (.ireturn, 1) := by decide +kernel
theorem dX2_protectedAt_0 : decode cX2_protectedAt 0 = .ok (.aload_n 0, 1) := by decide +kernel
theorem dX2_protectedAt_1 : decode cX2_protectedAt 1 = .ok (.getfield 35, 3) := by decide +kernel
theorem dX2_protectedAt_4 : decode cX2_protectedAt 4 = .ok (.iconst 2, 1) := by decide +kernel
theorem dX2_protectedAt_5 : decode cX2_protectedAt 5 = .ok (.iload_n 1, 1) := by decide +kernel
theorem dX2_protectedAt_6 : decode cX2_protectedAt 6 = .ok (.imul, 1) := by decide +kernel
theorem dX2_protectedAt_7 : decode cX2_protectedAt 7 = .ok (.iaload, 1) := by decide +kernel
theorem dX2_protectedAt_8 : decode cX2_protectedAt 8 = .ok (.istore_n 2, 1) := by decide +kernel
theorem dX2_protectedAt_9 : decode cX2_protectedAt 9 = .ok (.aload_n 0, 1) := by decide +kernel
theorem dX2_protectedAt_10 : decode cX2_protectedAt 10 = .ok (.getfield 35, 3) := by decide +kernel
theorem dX2_protectedAt_13 : decode cX2_protectedAt 13 = .ok (.iconst 2, 1) := by decide +kernel
theorem dX2_protectedAt_14 : decode cX2_protectedAt 14 = .ok (.iload_n 1, 1) := by decide +kernel
theorem dX2_protectedAt_15 : decode cX2_protectedAt 15 = .ok (.imul, 1) := by decide +kernel
theorem dX2_protectedAt_16 : decode cX2_protectedAt 16 = .ok (.iconst 1, 1) := by decide +kernel
theorem dX2_protectedAt_17 : decode cX2_protectedAt 17 = .ok (.iadd, 1) := by decide +kernel
theorem dX2_protectedAt_18 : decode cX2_protectedAt 18 = .ok (.iaload, 1) := by decide +kernel
theorem dX2_protectedAt_19 : decode cX2_protectedAt 19 = .ok (.istore_n 3, 1) := by decide +kernel
theorem dX2_protectedAt_20 : decode cX2_protectedAt 20 = .ok (.iload_n 2, 1) := by decide +kernel
theorem dX2_protectedAt_21 : decode cX2_protectedAt 21 = .ok (.iload_n 3, 1) := by decide +kernel
theorem dX2_protectedAt_22 : decode cX2_protectedAt 22 = .ok (.if_icmp .le 7, 3) := by decide +kernel
theorem dX2_protectedAt_25 : decode cX2_protectedAt 25 = .ok (.iload_n 2, 1) := by decide +kernel
theorem dX2_protectedAt_26 : decode cX2_protectedAt 26 = .ok (.goto 4, 3) := by decide +kernel
theorem dX2_protectedAt_29 : decode cX2_protectedAt 29 = .ok (.iload_n 3, 1) := by decide +kernel
theorem dX2_protectedAt_30 : decode cX2_protectedAt 30 = .ok (.iconst 1, 1) := by decide +kernel
theorem dX2_protectedAt_31 : decode cX2_protectedAt 31 = .ok (.iadd, 1) := by decide +kernel
theorem dX2_protectedAt_32 : decode cX2_protectedAt 32 = .ok (.istore 4, 2) := by decide +kernel
theorem dX2_protectedAt_34 : decode cX2_protectedAt 34 = .ok (.aload_n 0, 1) := by decide +kernel
theorem dX2_protectedAt_35 : decode cX2_protectedAt 35 = .ok (.getfield 7, 3) := by decide +kernel
theorem dX2_protectedAt_38 : decode cX2_protectedAt 38 = .ok (.iload_n 1, 1) := by decide +kernel
theorem dX2_protectedAt_39 : decode cX2_protectedAt 39 = .ok (.iaload, 1) := by decide +kernel
theorem dX2_protectedAt_40 : decode cX2_protectedAt 40 = .ok (.aload_n 0, 1) := by decide +kernel
theorem dX2_protectedAt_41 : decode cX2_protectedAt 41 = .ok (.getfield 16, 3) := by decide +kernel
theorem dX2_protectedAt_44 : decode cX2_protectedAt 44 = .ok (.iload_n 1, 1) := by decide +kernel
theorem dX2_protectedAt_45 : decode cX2_protectedAt 45 = .ok (.iaload, 1) := by decide +kernel
theorem dX2_protectedAt_46 : decode cX2_protectedAt 46 = .ok (.iadd, 1) := by decide +kernel
theorem dX2_protectedAt_47 : decode cX2_protectedAt 47 = .ok (.istore 5, 2) := by decide +kernel
theorem dX2_protectedAt_49 : decode cX2_protectedAt 49 = .ok (.iload 4, 2) := by decide +kernel
theorem dX2_protectedAt_51 : decode cX2_protectedAt 51 = .ok (.iload 5, 2) := by decide +kernel
theorem dX2_protectedAt_53 : decode cX2_protectedAt 53 = .ok (.if_icmp .le 8, 3) := by decide +kernel
theorem dX2_protectedAt_56 : decode cX2_protectedAt 56 = .ok (.iload 4, 2) := by decide +kernel
theorem dX2_protectedAt_58 : decode cX2_protectedAt 58 = .ok (.goto 5, 3) := by decide +kernel
theorem dX2_protectedAt_61 : decode cX2_protectedAt 61 = .ok (.iload 5, 2) := by decide +kernel
theorem dX2_protectedAt_63 : decode cX2_protectedAt 63 = .ok (.istore 4, 2) := by decide +kernel
theorem dX2_protectedAt_65 : decode cX2_protectedAt 65 = .ok (.iload_n 2, 1) := by decide +kernel
theorem dX2_protectedAt_66 : decode cX2_protectedAt 66 = .ok (.ifCond .lt 15, 3) := by decide +kernel
theorem dX2_protectedAt_69 : decode cX2_protectedAt 69 = .ok (.iload_n 3, 1) := by decide +kernel
theorem dX2_protectedAt_70 : decode cX2_protectedAt 70 = .ok (.ifCond .lt 11, 3) := by decide +kernel
theorem dX2_protectedAt_73 : decode cX2_protectedAt 73 = .ok (.iload 4, 2) := by decide +kernel
theorem dX2_protectedAt_75 : decode cX2_protectedAt 75 = .ok (.sipush 240, 3) := by decide +kernel
theorem dX2_protectedAt_78 : decode cX2_protectedAt 78 = .ok (.if_icmp .le 9, 3) := by decide +kernel
theorem dX2_protectedAt_81 : decode cX2_protectedAt 81 = .ok (.sipush 240, 3) := by decide +kernel
theorem dX2_protectedAt_84 : decode cX2_protectedAt 84 = .ok (.goto 5, 3) := by decide +kernel
theorem dX2_protectedAt_87 : decode cX2_protectedAt 87 = .ok (.iload 4, 2) := by decide +kernel
theorem dX2_protectedAt_89 : decode cX2_protectedAt 89 = .ok (.ireturn, 1) := by decide +kernel
set_option maxRecDepth 20000 in
theorem ggX2_upTo_X2_protectedAt : GoodIn wsX2_upTo wsX2_protectedAt := goodIn_r _ [8, 9, 1, 10, 34, 35, 36, 37, 38, 39, 40, 41, 42, 43, 44, 45, 46, 47, 48, 49, 50, 51] (by decide +kernel) (by decide +kernel)
set_option maxRecDepth 20000 in
theorem gX2_upTo_X2_protectedAt : GoodIn wsX2_upTo (wsV RX2 102 RX2 yX2_protectedAt wsX2_protectedAt) := goodIn_app (goodIn_of _ (by decide +kernel)) ggX2_upTo_X2_protectedAt
set_option maxRecDepth 20000 in
theorem ggX2_upTo_X2_begins : GoodIn wsX2_upTo wsX2_begins := goodIn_r _ [14, 15, 16, 17, 34, 35, 36, 37, 38, 39, 40, 41, 42, 43, 44, 45, 46, 47, 48, 49, 50, 51] (by decide +kernel) (by decide +kernel)
set_option maxRecDepth 20000 in
theorem gX2_upTo_X2_begins : GoodIn wsX2_upTo (wsV RX2 87 RX2 yX2_begins wsX2_begins) := goodIn_app (goodIn_of _ (by decide +kernel)) ggX2_upTo_X2_begins
set_option maxRecDepth 20000 in
theorem ggX2_upTo_X2_grows : GoodIn wsX2_upTo wsX2_grows := goodIn_r _ [21, 1, 17, 22, 23, 16, 34, 35, 36, 37, 38, 39, 40, 41, 42, 43, 44, 45, 46, 47, 48, 49, 50, 51] (by decide +kernel) (by decide +kernel)
set_option maxRecDepth 20000 in
theorem gX2_upTo_X2_grows : GoodIn wsX2_upTo (wsV RX2 91 RX2 yX2_grows wsX2_grows) := goodIn_app (goodIn_of _ (by decide +kernel)) ggX2_upTo_X2_grows
set_option maxRecDepth 20000 in
theorem ggX2_upTo_X2_share : GoodIn wsX2_upTo wsX2_share := goodIn_r _ [27, 1, 10, 28, 16, 29, 30, 31, 32, 7, 33, 9, 34, 35, 36, 37, 38, 39, 40, 41, 42, 43, 44, 45, 46, 47, 48, 49, 50, 51] (by decide +kernel) (by decide +kernel)
set_option maxRecDepth 20000 in
theorem gX2_upTo_X2_share : GoodIn wsX2_upTo (wsV RX2 106 RX2 yX2_share wsX2_share) := goodIn_app (goodIn_of _ (by decide +kernel)) ggX2_upTo_X2_share
theorem dX2_upTo_0 : decode cX2_upTo 0 = .ok (.lconst 0, 1) := by decide +kernel
theorem dX2_upTo_1 : decode cX2_upTo 1 = .ok (.lstore_n 3, 1) := by decide +kernel
theorem dX2_upTo_2 : decode cX2_upTo 2 = .ok (.aload_n 0, 1) := by decide +kernel
theorem dX2_upTo_3 : decode cX2_upTo 3 = .ok (.iload_n 1, 1) := by decide +kernel
theorem dX2_upTo_4 : decode cX2_upTo 4 = .ok (.invokevirtual 102, 3) := by decide +kernel
theorem dX2_upTo_7 : decode cX2_upTo 7 = .ok (.istore 5, 2) := by decide +kernel
theorem dX2_upTo_9 : decode cX2_upTo 9 = .ok (.aload_n 0, 1) := by decide +kernel
theorem dX2_upTo_10 : decode cX2_upTo 10 = .ok (.iload_n 1, 1) := by decide +kernel
theorem dX2_upTo_11 : decode cX2_upTo 11 = .ok (.invokevirtual 87, 3) := by decide +kernel
theorem dX2_upTo_14 : decode cX2_upTo 14 = .ok (.aload_n 0, 1) := by decide +kernel
theorem dX2_upTo_15 : decode cX2_upTo 15 = .ok (.getfield 7, 3) := by decide +kernel
theorem dX2_upTo_18 : decode cX2_upTo 18 = .ok (.iload_n 1, 1) := by decide +kernel
theorem dX2_upTo_19 : decode cX2_upTo 19 = .ok (.iaload, 1) := by decide +kernel
theorem dX2_upTo_20 : decode cX2_upTo 20 = .ok (.istore 6, 2) := by decide +kernel
theorem dX2_upTo_22 : decode cX2_upTo 22 = .ok (.iload 6, 2) := by decide +kernel
theorem dX2_upTo_24 : decode cX2_upTo 24 = .ok (.iload_n 2, 1) := by decide +kernel
theorem dX2_upTo_25 : decode cX2_upTo 25 = .ok (.if_icmp .gt 67, 3) := by decide +kernel
theorem dX2_upTo_28 : decode cX2_upTo 28 = .ok (.aload_n 0, 1) := by decide +kernel
theorem dX2_upTo_29 : decode cX2_upTo 29 = .ok (.iload_n 1, 1) := by decide +kernel
theorem dX2_upTo_30 : decode cX2_upTo 30 = .ok (.iload 6, 2) := by decide +kernel
theorem dX2_upTo_32 : decode cX2_upTo 32 = .ok (.invokevirtual 91, 3) := by decide +kernel
theorem dX2_upTo_35 : decode cX2_upTo 35 = .ok (.aload_n 0, 1) := by decide +kernel
theorem dX2_upTo_36 : decode cX2_upTo 36 = .ok (.getfield 29, 3) := by decide +kernel
theorem dX2_upTo_39 : decode cX2_upTo 39 = .ok (.iload_n 1, 1) := by decide +kernel
theorem dX2_upTo_40 : decode cX2_upTo 40 = .ok (.iaload, 1) := by decide +kernel
theorem dX2_upTo_41 : decode cX2_upTo 41 = .ok (.aload_n 0, 1) := by decide +kernel
theorem dX2_upTo_42 : decode cX2_upTo 42 = .ok (.getfield 32, 3) := by decide +kernel
theorem dX2_upTo_45 : decode cX2_upTo 45 = .ok (.iload_n 1, 1) := by decide +kernel
theorem dX2_upTo_46 : decode cX2_upTo 46 = .ok (.iaload, 1) := by decide +kernel
theorem dX2_upTo_47 : decode cX2_upTo 47 = .ok (.imul, 1) := by decide +kernel
theorem dX2_upTo_48 : decode cX2_upTo 48 = .ok (.bipush 100, 2) := by decide +kernel
theorem dX2_upTo_50 : decode cX2_upTo 50 = .ok (.idiv, 1) := by decide +kernel
theorem dX2_upTo_51 : decode cX2_upTo 51 = .ok (.i2l, 1) := by decide +kernel
theorem dX2_upTo_52 : decode cX2_upTo 52 = .ok (.lstore 7, 2) := by decide +kernel
theorem dX2_upTo_54 : decode cX2_upTo 54 = .ok (.iload 6, 2) := by decide +kernel
theorem dX2_upTo_56 : decode cX2_upTo 56 = .ok (.iload 5, 2) := by decide +kernel
theorem dX2_upTo_58 : decode cX2_upTo 58 = .ok (.if_icmp .ne 15, 3) := by decide +kernel
theorem dX2_upTo_61 : decode cX2_upTo 61 = .ok (.lload 7, 2) := by decide +kernel
theorem dX2_upTo_63 : decode cX2_upTo 63 = .ok (.lload_n 3, 1) := by decide +kernel
theorem dX2_upTo_64 : decode cX2_upTo 64 = .ok (.lcmp, 1) := by decide +kernel
theorem dX2_upTo_65 : decode cX2_upTo 65 = .ok (.ifCond .le 8, 3) := by decide +kernel
theorem dX2_upTo_68 : decode cX2_upTo 68 = .ok (.lload 7, 2) := by decide +kernel
theorem dX2_upTo_70 : decode cX2_upTo 70 = .ok (.goto 4, 3) := by decide +kernel
theorem dX2_upTo_73 : decode cX2_upTo 73 = .ok (.lload_n 3, 1) := by decide +kernel
theorem dX2_upTo_74 : decode cX2_upTo 74 = .ok (.lstore_n 3, 1) := by decide +kernel
theorem dX2_upTo_75 : decode cX2_upTo 75 = .ok (.lload_n 3, 1) := by decide +kernel
theorem dX2_upTo_76 : decode cX2_upTo 76 = .ok (.aload_n 0, 1) := by decide +kernel
theorem dX2_upTo_77 : decode cX2_upTo 77 = .ok (.iload_n 1, 1) := by decide +kernel
theorem dX2_upTo_78 : decode cX2_upTo 78 = .ok (.iload 6, 2) := by decide +kernel
theorem dX2_upTo_80 : decode cX2_upTo 80 = .ok (.invokevirtual 106, 3) := by decide +kernel
theorem dX2_upTo_83 : decode cX2_upTo 83 = .ok (.i2l, 1) := by decide +kernel
theorem dX2_upTo_84 : decode cX2_upTo 84 = .ok (.ladd, 1) := by decide +kernel
theorem dX2_upTo_85 : decode cX2_upTo 85 = .ok (.lstore_n 3, 1) := by decide +kernel
theorem dX2_upTo_86 : decode cX2_upTo 86 = .ok (.iinc 6 1, 3) := by decide +kernel
theorem dX2_upTo_89 : decode cX2_upTo 89 = .ok (.goto (-67), 3) := by decide +kernel
theorem dX2_upTo_92 : decode cX2_upTo 92 = .ok (.lload_n 3, 1) := by decide +kernel
theorem dX2_upTo_93 : decode cX2_upTo 93 = .ok (.lreturn, 1) := by decide +kernel
set_option maxRecDepth 20000 in
theorem ggX2_entitled_X2_isOne : GoodIn wsX2_entitled wsX2_isOne := goodIn_r _ [5, 6, 51, 52, 53, 54, 55, 56, 57, 58, 59, 60, 61, 62, 63, 64, 65, 66, 67, 68] (by decide +kernel) (by decide +kernel)
set_option maxRecDepth 20000 in
theorem gX2_entitled_X2_isOne : GoodIn wsX2_entitled (wsV RX2 70 RX2 yX2_isOne wsX2_isOne) := goodIn_app (goodIn_of _ (by decide +kernel)) ggX2_entitled_X2_isOne
set_option maxRecDepth 20000 in
theorem ggX2_entitled_X2_isWithin : GoodIn wsX2_entitled wsX2_isWithin := goodIn_r _ [9] (by decide +kernel) (by decide +kernel)
set_option maxRecDepth 20000 in
theorem gX2_entitled_X2_isWithin : GoodIn wsX2_entitled (va_wsS RX2 61 yX2_isWithin wsX2_isWithin) := goodIn_app (goodIn_of _ (by decide +kernel)) ggX2_entitled_X2_isWithin
set_option maxRecDepth 20000 in
theorem ggX2_entitled_X2_goes : GoodIn wsX2_entitled wsX2_goes := goodIn_r _ [13, 14, 51, 52, 53, 54, 55, 56, 57, 58, 59, 60, 61, 62, 63, 64, 65, 66, 67, 68] (by decide +kernel) (by decide +kernel)
set_option maxRecDepth 20000 in
theorem gX2_entitled_X2_goes : GoodIn wsX2_entitled (wsV RX2 66 RX2 yX2_goes wsX2_goes) := goodIn_app (goodIn_of _ (by decide +kernel)) ggX2_entitled_X2_goes
set_option maxRecDepth 20000 in
theorem ggX2_entitled_X2_upTo : GoodIn wsX2_entitled wsX2_upTo := goodIn_r _ [18, 19, 20, 21, 22, 23, 24, 4, 25, 26, 27, 28, 29, 30, 31, 32, 33, 34, 35, 36, 37, 38, 39, 40, 41, 42, 43, 44, 45, 46, 47, 48, 49, 50, 51, 52, 53, 54, 55, 56, 57, 58, 59, 60, 61, 62, 63, 64, 65, 66, 67, 68] (by decide +kernel) (by decide +kernel)
set_option maxRecDepth 20000 in
theorem gX2_entitled_X2_upTo : GoodIn wsX2_entitled (wsV RX2 109 RX2 yX2_upTo wsX2_upTo) := goodIn_app (goodIn_of _ (by decide +kernel)) ggX2_entitled_X2_upTo
theorem dX2_entitled_0 : decode cX2_entitled 0 = .ok (.aload_n 0, 1) := by decide +kernel
theorem dX2_entitled_1 : decode cX2_entitled 1 = .ok (.aload_n 0, 1) := by decide +kernel
theorem dX2_entitled_2 : decode cX2_entitled 2 = .ok (.iload_n 1, 1) := by decide +kernel
theorem dX2_entitled_3 : decode cX2_entitled 3 = .ok (.invokevirtual 70, 3) := by decide +kernel
theorem dX2_entitled_6 : decode cX2_entitled 6 = .ok (.iload_n 2, 1) := by decide +kernel
theorem dX2_entitled_7 : decode cX2_entitled 7 = .ok (.iconst 0, 1) := by decide +kernel
theorem dX2_entitled_8 : decode cX2_entitled 8 = .ok (.sipush 239, 3) := by decide +kernel
theorem dX2_entitled_11 : decode cX2_entitled 11 = .ok (.invokestatic 61, 3) := by decide +kernel
theorem dX2_entitled_14 : decode cX2_entitled 14 = .ok (.iconst 1, 1) := by decide +kernel
theorem dX2_entitled_15 : decode cX2_entitled 15 = .ok (.invokevirtual 66, 3) := by decide +kernel
theorem dX2_entitled_18 : decode cX2_entitled 18 = .ok (.istore_n 3, 1) := by decide +kernel
theorem dX2_entitled_19 : decode cX2_entitled 19 = .ok (.iload_n 3, 1) := by decide +kernel
theorem dX2_entitled_20 : decode cX2_entitled 20 = .ok (.ifCond .eq 21, 3) := by decide +kernel
theorem dX2_entitled_23 : decode cX2_entitled 23 = .ok (.aload_n 0, 1) := by decide +kernel
theorem dX2_entitled_24 : decode cX2_entitled 24 = .ok (.iload_n 1, 1) := by decide +kernel
theorem dX2_entitled_25 : decode cX2_entitled 25 = .ok (.iload_n 2, 1) := by decide +kernel
theorem dX2_entitled_26 : decode cX2_entitled 26 = .ok (.invokevirtual 109, 3) := by decide +kernel
theorem dX2_entitled_29 : decode cX2_entitled 29 = .ok (.aload_n 0, 1) := by decide +kernel
theorem dX2_entitled_30 : decode cX2_entitled 30 = .ok (.iload_n 1, 1) := by decide +kernel
theorem dX2_entitled_31 : decode cX2_entitled 31 = .ok (.iload_n 2, 1) := by decide +kernel
theorem dX2_entitled_32 : decode cX2_entitled 32 = .ok (.iconst 1, 1) := by decide +kernel
theorem dX2_entitled_33 : decode cX2_entitled 33 = .ok (.isub, 1) := by decide +kernel
theorem dX2_entitled_34 : decode cX2_entitled 34 = .ok (.invokevirtual 109, 3) := by decide +kernel
theorem dX2_entitled_37 : decode cX2_entitled 37 = .ok (.lsub, 1) := by decide +kernel
theorem dX2_entitled_38 : decode cX2_entitled 38 = .ok (.goto 4, 3) := by decide +kernel
theorem dX2_entitled_41 : decode cX2_entitled 41 = .ok (.lconst 0, 1) := by decide +kernel
theorem dX2_entitled_42 : decode cX2_entitled 42 = .ok (.lreturn, 1) := by decide +kernel
set_option maxRecDepth 20000 in
theorem ggX2_entitledUpTo_X2_isOne : GoodIn wsX2_entitledUpTo wsX2_isOne := goodIn_r _ [5, 6, 51, 52, 53, 54, 55, 56, 57, 58, 59, 60, 61, 62, 63, 64, 65, 66, 67, 68] (by decide +kernel) (by decide +kernel)
set_option maxRecDepth 20000 in
theorem gX2_entitledUpTo_X2_isOne : GoodIn wsX2_entitledUpTo (wsV RX2 70 RX2 yX2_isOne wsX2_isOne) := goodIn_app (goodIn_of _ (by decide +kernel)) ggX2_entitledUpTo_X2_isOne
set_option maxRecDepth 20000 in
theorem ggX2_entitledUpTo_X2_isWithin : GoodIn wsX2_entitledUpTo wsX2_isWithin := goodIn_r _ [9] (by decide +kernel) (by decide +kernel)
set_option maxRecDepth 20000 in
theorem gX2_entitledUpTo_X2_isWithin : GoodIn wsX2_entitledUpTo (va_wsS RX2 61 yX2_isWithin wsX2_isWithin) := goodIn_app (goodIn_of _ (by decide +kernel)) ggX2_entitledUpTo_X2_isWithin
set_option maxRecDepth 20000 in
theorem ggX2_entitledUpTo_X2_goes : GoodIn wsX2_entitledUpTo wsX2_goes := goodIn_r _ [13, 14, 51, 52, 53, 54, 55, 56, 57, 58, 59, 60, 61, 62, 63, 64, 65, 66, 67, 68] (by decide +kernel) (by decide +kernel)
set_option maxRecDepth 20000 in
theorem gX2_entitledUpTo_X2_goes : GoodIn wsX2_entitledUpTo (wsV RX2 66 RX2 yX2_goes wsX2_goes) := goodIn_app (goodIn_of _ (by decide +kernel)) ggX2_entitledUpTo_X2_goes
set_option maxRecDepth 20000 in
theorem ggX2_entitledUpTo_X2_upTo : GoodIn wsX2_entitledUpTo wsX2_upTo := goodIn_r _ [18, 19, 20, 21, 22, 23, 24, 4, 25, 26, 27, 28, 29, 30, 31, 32, 33, 34, 35, 36, 37, 38, 39, 40, 41, 42, 43, 44, 45, 46, 47, 48, 49, 50, 51, 52, 53, 54, 55, 56, 57, 58, 59, 60, 61, 62, 63, 64, 65, 66, 67, 68] (by decide +kernel) (by decide +kernel)
set_option maxRecDepth 20000 in
theorem gX2_entitledUpTo_X2_upTo : GoodIn wsX2_entitledUpTo (wsV RX2 109 RX2 yX2_upTo wsX2_upTo) := goodIn_app (goodIn_of _ (by decide +kernel)) ggX2_entitledUpTo_X2_upTo
theorem dX2_entitledUpTo_0 : decode cX2_entitledUpTo 0 = .ok (.aload_n 0, 1) := by decide +kernel
theorem dX2_entitledUpTo_1 : decode cX2_entitledUpTo 1 = .ok (.aload_n 0, 1) := by decide +kernel
theorem dX2_entitledUpTo_2 : decode cX2_entitledUpTo 2 = .ok (.iload_n 1, 1) := by decide +kernel
theorem dX2_entitledUpTo_3 : decode cX2_entitledUpTo 3 = .ok (.invokevirtual 70, 3) := by decide +kernel
theorem dX2_entitledUpTo_6 : decode cX2_entitledUpTo 6 = .ok (.iload_n 2, 1) := by decide +kernel
theorem dX2_entitledUpTo_7 : decode cX2_entitledUpTo 7 = .ok (.iconst 0, 1) := by decide +kernel
theorem dX2_entitledUpTo_8 : decode cX2_entitledUpTo 8 = .ok (.sipush 239, 3) := by decide +kernel
theorem dX2_entitledUpTo_11 : decode cX2_entitledUpTo 11 = .ok (.invokestatic 61, 3) := by decide +kernel
theorem dX2_entitledUpTo_14 : decode cX2_entitledUpTo 14 = .ok (.iconst 1, 1) := by decide +kernel
theorem dX2_entitledUpTo_15 : decode cX2_entitledUpTo 15 = .ok (.invokevirtual 66, 3) := by decide +kernel
theorem dX2_entitledUpTo_18 : decode cX2_entitledUpTo 18 = .ok (.istore_n 3, 1) := by decide +kernel
theorem dX2_entitledUpTo_19 : decode cX2_entitledUpTo 19 = .ok (.iload_n 3, 1) := by decide +kernel
theorem dX2_entitledUpTo_20 : decode cX2_entitledUpTo 20 = .ok (.ifCond .eq 12, 3) := by decide +kernel
theorem dX2_entitledUpTo_23 : decode cX2_entitledUpTo 23 = .ok (.aload_n 0, 1) := by decide +kernel
theorem dX2_entitledUpTo_24 : decode cX2_entitledUpTo 24 = .ok (.iload_n 1, 1) := by decide +kernel
theorem dX2_entitledUpTo_25 : decode cX2_entitledUpTo 25 = .ok (.iload_n 2, 1) := by decide +kernel
theorem dX2_entitledUpTo_26 : decode cX2_entitledUpTo 26 = .ok (.invokevirtual 109, 3) := by decide +kernel
theorem dX2_entitledUpTo_29 : decode cX2_entitledUpTo 29 = .ok (.goto 4, 3) := by decide +kernel
theorem dX2_entitledUpTo_32 : decode cX2_entitledUpTo 32 = .ok (.lconst 0, 1) := by decide +kernel
theorem dX2_entitledUpTo_33 : decode cX2_entitledUpTo 33 = .ok (.lreturn, 1) := by decide +kernel
set_option maxRecDepth 20000 in
theorem ggX2_protection_X2_isOne : GoodIn wsX2_protection wsX2_isOne := goodIn_r _ [7, 8, 48, 49, 50, 51, 52, 53, 54, 55, 56, 57, 58, 59, 60, 61, 62, 63, 64, 65] (by decide +kernel) (by decide +kernel)
set_option maxRecDepth 20000 in
theorem gX2_protection_X2_isOne : GoodIn wsX2_protection (wsV RX2 70 RX2 yX2_isOne wsX2_isOne) := goodIn_app (goodIn_of _ (by decide +kernel)) ggX2_protection_X2_isOne
set_option maxRecDepth 20000 in
theorem ggX2_protection_X2_goes : GoodIn wsX2_protection wsX2_goes := goodIn_r _ [12, 13, 48, 49, 50, 51, 52, 53, 54, 55, 56, 57, 58, 59, 60, 61, 62, 63, 64, 65] (by decide +kernel) (by decide +kernel)
set_option maxRecDepth 20000 in
theorem gX2_protection_X2_goes : GoodIn wsX2_protection (wsV RX2 66 RX2 yX2_goes wsX2_goes) := goodIn_app (goodIn_of _ (by decide +kernel)) ggX2_protection_X2_goes
set_option maxRecDepth 20000 in
theorem ggX2_protection_X2_protectedAt : GoodIn wsX2_protection wsX2_protectedAt := goodIn_r _ [17, 18, 19, 20, 48, 49, 50, 51, 52, 53, 54, 55, 56, 57, 58, 59, 60, 61, 62, 63, 64, 65] (by decide +kernel) (by decide +kernel)
set_option maxRecDepth 20000 in
theorem gX2_protection_X2_protectedAt : GoodIn wsX2_protection (wsV RX2 102 RX2 yX2_protectedAt wsX2_protectedAt) := goodIn_app (goodIn_of _ (by decide +kernel)) ggX2_protection_X2_protectedAt
set_option maxRecDepth 20000 in
theorem ggX2_protection_X2_upTo : GoodIn wsX2_protection wsX2_upTo := goodIn_r _ [24, 19, 1, 2, 14, 15, 16, 6, 17, 18, 20, 25, 26, 27, 28, 29, 30, 31, 32, 33, 34, 35, 36, 37, 38, 39, 40, 41, 42, 43, 44, 45, 46, 47, 48, 49, 50, 51, 52, 53, 54, 55, 56, 57, 58, 59, 60, 61, 62, 63, 64, 65] (by decide +kernel) (by decide +kernel)
set_option maxRecDepth 20000 in
theorem gX2_protection_X2_upTo : GoodIn wsX2_protection (wsV RX2 109 RX2 yX2_upTo wsX2_upTo) := goodIn_app (goodIn_of _ (by decide +kernel)) ggX2_protection_X2_upTo
theorem dX2_protection_0 : decode cX2_protection 0 = .ok (.aload_n 0, 1) := by decide +kernel
theorem dX2_protection_1 : decode cX2_protection 1 = .ok (.aload_n 0, 1) := by decide +kernel
theorem dX2_protection_2 : decode cX2_protection 2 = .ok (.iload_n 1, 1) := by decide +kernel
theorem dX2_protection_3 : decode cX2_protection 3 = .ok (.invokevirtual 70, 3) := by decide +kernel
theorem dX2_protection_6 : decode cX2_protection 6 = .ok (.iconst 1, 1) := by decide +kernel
theorem dX2_protection_7 : decode cX2_protection 7 = .ok (.iconst 1, 1) := by decide +kernel
theorem dX2_protection_8 : decode cX2_protection 8 = .ok (.invokevirtual 66, 3) := by decide +kernel
theorem dX2_protection_11 : decode cX2_protection 11 = .ok (.ifCond .ne 5, 3) := by decide +kernel
theorem dX2_protection_14 : decode cX2_protection 14 = .ok (.lconst 0, 1) := by decide +kernel
theorem dX2_protection_15 : decode cX2_protection 15 = .ok (.lreturn, 1) := by decide +kernel
theorem dX2_protection_16 : decode cX2_protection 16 = .ok (.aload_n 0, 1) := by decide +kernel
theorem dX2_protection_17 : decode cX2_protection 17 = .ok (.iload_n 1, 1) := by decide +kernel
theorem dX2_protection_18 : decode cX2_protection 18 = .ok (.invokevirtual 102, 3) := by decide +kernel
theorem dX2_protection_21 : decode cX2_protection 21 = .ok (.istore_n 2, 1) := by decide +kernel
theorem dX2_protection_22 : decode cX2_protection 22 = .ok (.aload_n 0, 1) := by decide +kernel
theorem dX2_protection_23 : decode cX2_protection 23 = .ok (.getfield 29, 3) := by decide +kernel
theorem dX2_protection_26 : decode cX2_protection 26 = .ok (.iload_n 1, 1) := by decide +kernel
theorem dX2_protection_27 : decode cX2_protection 27 = .ok (.iaload, 1) := by decide +kernel
theorem dX2_protection_28 : decode cX2_protection 28 = .ok (.aload_n 0, 1) := by decide +kernel
theorem dX2_protection_29 : decode cX2_protection 29 = .ok (.getfield 32, 3) := by decide +kernel
theorem dX2_protection_32 : decode cX2_protection 32 = .ok (.iload_n 1, 1) := by decide +kernel
theorem dX2_protection_33 : decode cX2_protection 33 = .ok (.iaload, 1) := by decide +kernel
theorem dX2_protection_34 : decode cX2_protection 34 = .ok (.imul, 1) := by decide +kernel
theorem dX2_protection_35 : decode cX2_protection 35 = .ok (.bipush 100, 2) := by decide +kernel
theorem dX2_protection_37 : decode cX2_protection 37 = .ok (.idiv, 1) := by decide +kernel
theorem dX2_protection_38 : decode cX2_protection 38 = .ok (.i2l, 1) := by decide +kernel
theorem dX2_protection_39 : decode cX2_protection 39 = .ok (.lstore_n 3, 1) := by decide +kernel
theorem dX2_protection_40 : decode cX2_protection 40 = .ok (.aload_n 0, 1) := by decide +kernel
theorem dX2_protection_41 : decode cX2_protection 41 = .ok (.iload_n 1, 1) := by decide +kernel
theorem dX2_protection_42 : decode cX2_protection 42 = .ok (.iload_n 2, 1) := by decide +kernel
theorem dX2_protection_43 : decode cX2_protection 43 = .ok (.iconst 1, 1) := by decide +kernel
theorem dX2_protection_44 : decode cX2_protection 44 = .ok (.isub, 1) := by decide +kernel
theorem dX2_protection_45 : decode cX2_protection 45 = .ok (.invokevirtual 109, 3) := by decide +kernel
theorem dX2_protection_48 : decode cX2_protection 48 = .ok (.lstore 5, 2) := by decide +kernel
theorem dX2_protection_50 : decode cX2_protection 50 = .ok (.iload_n 2, 1) := by decide +kernel
theorem dX2_protection_51 : decode cX2_protection 51 = .ok (.sipush 240, 3) := by decide +kernel
theorem dX2_protection_54 : decode cX2_protection 54 = .ok (.if_icmp .ge 10, 3) := by decide +kernel
theorem dX2_protection_57 : decode cX2_protection 57 = .ok (.lload_n 3, 1) := by decide +kernel
theorem dX2_protection_58 : decode cX2_protection 58 = .ok (.lload 5, 2) := by decide +kernel
theorem dX2_protection_60 : decode cX2_protection 60 = .ok (.lcmp, 1) := by decide +kernel
theorem dX2_protection_61 : decode cX2_protection 61 = .ok (.ifCond .ge 7, 3) := by decide +kernel
theorem dX2_protection_64 : decode cX2_protection 64 = .ok (.lconst 0, 1) := by decide +kernel
theorem dX2_protection_65 : decode cX2_protection 65 = .ok (.goto 7, 3) := by decide +kernel
theorem dX2_protection_68 : decode cX2_protection 68 = .ok (.lload_n 3, 1) := by decide +kernel
theorem dX2_protection_69 : decode cX2_protection 69 = .ok (.lload 5, 2) := by decide +kernel
theorem dX2_protection_71 : decode cX2_protection 71 = .ok (.lsub, 1) := by decide +kernel
theorem dX2_protection_72 : decode cX2_protection 72 = .ok (.lreturn, 1) := by decide +kernel
set_option maxRecDepth 20000 in
theorem ggX2_run_X2_goes : GoodIn wsX2_run wsX2_goes := goodIn_r _ [10, 11, 48, 49, 50, 51, 52, 53, 54, 55, 56, 57, 58, 59, 60, 61, 62, 63, 64, 65] (by decide +kernel) (by decide +kernel)
set_option maxRecDepth 20000 in
theorem gX2_run_X2_goes : GoodIn wsX2_run (wsV RX2 66 RX2 yX2_goes wsX2_goes) := goodIn_app (goodIn_of _ (by decide +kernel)) ggX2_run_X2_goes
set_option maxRecDepth 20000 in
theorem ggX2_run_X2_upTo : GoodIn wsX2_run wsX2_upTo := goodIn_r _ [15, 16, 17, 18, 19, 20, 21, 9, 22, 23, 24, 25, 26, 27, 28, 29, 30, 31, 32, 33, 34, 35, 36, 37, 38, 39, 40, 41, 42, 43, 44, 45, 46, 47, 48, 49, 50, 51, 52, 53, 54, 55, 56, 57, 58, 59, 60, 61, 62, 63, 64, 65] (by decide +kernel) (by decide +kernel)
set_option maxRecDepth 20000 in
theorem gX2_run_X2_upTo : GoodIn wsX2_run (wsV RX2 109 RX2 yX2_upTo wsX2_upTo) := goodIn_app (goodIn_of _ (by decide +kernel)) ggX2_run_X2_upTo
theorem dX2_run_0 : decode cX2_run 0 = .ok (.aload_n 0, 1) := by decide +kernel
theorem dX2_run_1 : decode cX2_run 1 = .ok (.aload_n 0, 1) := by decide +kernel
theorem dX2_run_2 : decode cX2_run 2 = .ok (.getfield 58, 3) := by decide +kernel
theorem dX2_run_5 : decode cX2_run 5 = .ok (.sipush 240, 3) := by decide +kernel
theorem dX2_run_8 : decode cX2_run 8 = .ok (.if_icmp .ge 7, 3) := by decide +kernel
theorem dX2_run_11 : decode cX2_run 11 = .ok (.iconst 1, 1) := by decide +kernel
theorem dX2_run_12 : decode cX2_run 12 = .ok (.goto 4, 3) := by decide +kernel
theorem dX2_run_15 : decode cX2_run 15 = .ok (.iconst 0, 1) := by decide +kernel
theorem dX2_run_16 : decode cX2_run 16 = .ok (.iconst 1, 1) := by decide +kernel
theorem dX2_run_17 : decode cX2_run 17 = .ok (.iconst 1, 1) := by decide +kernel
theorem dX2_run_18 : decode cX2_run 18 = .ok (.invokevirtual 66, 3) := by decide +kernel
theorem dX2_run_21 : decode cX2_run 21 = .ok (.ifCond .ne 5, 3) := by decide +kernel
theorem dX2_run_24 : decode cX2_run 24 = .ok (.lconst 0, 1) := by decide +kernel
theorem dX2_run_25 : decode cX2_run 25 = .ok (.lreturn, 1) := by decide +kernel
theorem dX2_run_26 : decode cX2_run 26 = .ok (.lconst 0, 1) := by decide +kernel
theorem dX2_run_27 : decode cX2_run 27 = .ok (.lstore_n 1, 1) := by decide +kernel
theorem dX2_run_28 : decode cX2_run 28 = .ok (.iconst 0, 1) := by decide +kernel
theorem dX2_run_29 : decode cX2_run 29 = .ok (.istore_n 3, 1) := by decide +kernel
theorem dX2_run_30 : decode cX2_run 30 = .ok (.iload_n 3, 1) := by decide +kernel
theorem dX2_run_31 : decode cX2_run 31 = .ok (.aload_n 0, 1) := by decide +kernel
theorem dX2_run_32 : decode cX2_run 32 = .ok (.getfield 55, 3) := by decide +kernel
theorem dX2_run_35 : decode cX2_run 35 = .ok (.if_icmp .ge 82, 3) := by decide +kernel
theorem dX2_run_38 : decode cX2_run 38 = .ok (.aload_n 0, 1) := by decide +kernel
theorem dX2_run_39 : decode cX2_run 39 = .ok (.iload_n 3, 1) := by decide +kernel
theorem dX2_run_40 : decode cX2_run 40 = .ok (.aload_n 0, 1) := by decide +kernel
theorem dX2_run_41 : decode cX2_run 41 = .ok (.getfield 58, 3) := by decide +kernel
theorem dX2_run_44 : decode cX2_run 44 = .ok (.invokevirtual 109, 3) := by decide +kernel
theorem dX2_run_47 : decode cX2_run 47 = .ok (.aload_n 0, 1) := by decide +kernel
theorem dX2_run_48 : decode cX2_run 48 = .ok (.getfield 38, 3) := by decide +kernel
theorem dX2_run_51 : decode cX2_run 51 = .ok (.iload_n 3, 1) := by decide +kernel
theorem dX2_run_52 : decode cX2_run 52 = .ok (.laload, 1) := by decide +kernel
theorem dX2_run_53 : decode cX2_run 53 = .ok (.lsub, 1) := by decide +kernel
theorem dX2_run_54 : decode cX2_run 54 = .ok (.aload_n 0, 1) := by decide +kernel
theorem dX2_run_55 : decode cX2_run 55 = .ok (.getfield 42, 3) := by decide +kernel
theorem dX2_run_58 : decode cX2_run 58 = .ok (.iload_n 3, 1) := by decide +kernel
theorem dX2_run_59 : decode cX2_run 59 = .ok (.laload, 1) := by decide +kernel
theorem dX2_run_60 : decode cX2_run 60 = .ok (.ladd, 1) := by decide +kernel
theorem dX2_run_61 : decode cX2_run 61 = .ok (.lstore 4, 2) := by decide +kernel
theorem dX2_run_63 : decode cX2_run 63 = .ok (.lload 4, 2) := by decide +kernel
theorem dX2_run_65 : decode cX2_run 65 = .ok (.lconst 0, 1) := by decide +kernel
theorem dX2_run_66 : decode cX2_run 66 = .ok (.lcmp, 1) := by decide +kernel
theorem dX2_run_67 : decode cX2_run 67 = .ok (.ifCond .ge 7, 3) := by decide +kernel
theorem dX2_run_70 : decode cX2_run 70 = .ok (.lconst 0, 1) := by decide +kernel
theorem dX2_run_71 : decode cX2_run 71 = .ok (.goto 5, 3) := by decide +kernel
theorem dX2_run_74 : decode cX2_run 74 = .ok (.lload 4, 2) := by decide +kernel
theorem dX2_run_76 : decode cX2_run 76 = .ok (.lstore 4, 2) := by decide +kernel
theorem dX2_run_78 : decode cX2_run 78 = .ok (.aload_n 0, 1) := by decide +kernel
theorem dX2_run_79 : decode cX2_run 79 = .ok (.getfield 45, 3) := by decide +kernel
theorem dX2_run_82 : decode cX2_run 82 = .ok (.sipush 240, 3) := by decide +kernel
theorem dX2_run_85 : decode cX2_run 85 = .ok (.iload_n 3, 1) := by decide +kernel
theorem dX2_run_86 : decode cX2_run 86 = .ok (.imul, 1) := by decide +kernel
theorem dX2_run_87 : decode cX2_run 87 = .ok (.aload_n 0, 1) := by decide +kernel
theorem dX2_run_88 : decode cX2_run 88 = .ok (.getfield 58, 3) := by decide +kernel
theorem dX2_run_91 : decode cX2_run 91 = .ok (.iadd, 1) := by decide +kernel
theorem dX2_run_92 : decode cX2_run 92 = .ok (.lload 4, 2) := by decide +kernel
theorem dX2_run_94 : decode cX2_run 94 = .ok (.lastore, 1) := by decide +kernel
theorem dX2_run_95 : decode cX2_run 95 = .ok (.aload_n 0, 1) := by decide +kernel
theorem dX2_run_96 : decode cX2_run 96 = .ok (.getfield 38, 3) := by decide +kernel
theorem dX2_run_99 : decode cX2_run 99 = .ok (.iload_n 3, 1) := by decide +kernel
theorem dX2_run_100 : decode cX2_run 100 = .ok (.dup2, 1) := by decide +kernel
theorem dX2_run_101 : decode cX2_run 101 = .ok (.laload, 1) := by decide +kernel
theorem dX2_run_102 : decode cX2_run 102 = .ok (.lload 4, 2) := by decide +kernel
theorem dX2_run_104 : decode cX2_run 104 = .ok (.ladd, 1) := by decide +kernel
theorem dX2_run_105 : decode cX2_run 105 = .ok (.lastore, 1) := by decide +kernel
theorem dX2_run_106 : decode cX2_run 106 = .ok (.lload_n 1, 1) := by decide +kernel
theorem dX2_run_107 : decode cX2_run 107 = .ok (.lload 4, 2) := by decide +kernel
theorem dX2_run_109 : decode cX2_run 109 = .ok (.ladd, 1) := by decide +kernel
theorem dX2_run_110 : decode cX2_run 110 = .ok (.lstore_n 1, 1) := by decide +kernel
theorem dX2_run_111 : decode cX2_run 111 = .ok (.iinc 3 1, 3) := by decide +kernel
theorem dX2_run_114 : decode cX2_run 114 = .ok (.goto (-84), 3) := by decide +kernel
theorem dX2_run_117 : decode cX2_run 117 = .ok (.aload_n 0, 1) := by decide +kernel
theorem dX2_run_118 : decode cX2_run 118 = .ok (.dup, 1) := by decide +kernel
theorem dX2_run_119 : decode cX2_run 119 = .ok (.getfield 58, 3) := by decide +kernel
theorem dX2_run_122 : decode cX2_run 122 = .ok (.iconst 1, 1) := by decide +kernel
theorem dX2_run_123 : decode cX2_run 123 = .ok (.iadd, 1) := by decide +kernel
theorem dX2_run_124 : decode cX2_run 124 = .ok (.putfield 58, 3) := by decide +kernel
theorem dX2_run_127 : decode cX2_run 127 = .ok (.lload_n 1, 1) := by decide +kernel
theorem dX2_run_128 : decode cX2_run 128 = .ok (.lreturn, 1) := by decide +kernel
theorem dX2_month_0 : decode cX2_month 0 = .ok (.aload_n 0, 1) := by decide +kernel
theorem dX2_month_1 : decode cX2_month 1 = .ok (.iconst 0, 1) := by decide +kernel
theorem dX2_month_2 : decode cX2_month 2 = .ok (.putfield 51, 3) := by decide +kernel
theorem dX2_month_5 : decode cX2_month 5 = .ok (.aload_n 0, 1) := by decide +kernel
theorem dX2_month_6 : decode cX2_month 6 = .ok (.getfield 58, 3) := by decide +kernel
theorem dX2_month_9 : decode cX2_month 9 = .ok (.ireturn, 1) := by decide +kernel
set_option maxRecDepth 20000 in
theorem ggX2_owed_X2_upTo : GoodIn wsX2_owed wsX2_upTo := goodIn_r _ [8, 9, 10, 11, 12, 13, 14, 7, 15, 16, 17, 18, 19, 20, 21, 22, 23, 24, 25, 26, 27, 28, 29, 30, 31, 32, 33, 34, 35, 36, 37, 38, 39, 40, 41, 42, 43, 44, 45, 46, 47, 48, 49, 50, 51, 52, 53, 54, 55, 56, 57, 58] (by decide +kernel) (by decide +kernel)
set_option maxRecDepth 20000 in
theorem gX2_owed_X2_upTo : GoodIn wsX2_owed (wsV RX2 109 RX2 yX2_upTo wsX2_upTo) := goodIn_app (goodIn_of _ (by decide +kernel)) ggX2_owed_X2_upTo
theorem dX2_owed_0 : decode cX2_owed 0 = .ok (.aload_n 0, 1) := by decide +kernel
theorem dX2_owed_1 : decode cX2_owed 1 = .ok (.getfield 38, 3) := by decide +kernel
theorem dX2_owed_4 : decode cX2_owed 4 = .ok (.iload_n 1, 1) := by decide +kernel
theorem dX2_owed_5 : decode cX2_owed 5 = .ok (.laload, 1) := by decide +kernel
theorem dX2_owed_6 : decode cX2_owed 6 = .ok (.aload_n 0, 1) := by decide +kernel
theorem dX2_owed_7 : decode cX2_owed 7 = .ok (.getfield 42, 3) := by decide +kernel
theorem dX2_owed_10 : decode cX2_owed 10 = .ok (.iload_n 1, 1) := by decide +kernel
theorem dX2_owed_11 : decode cX2_owed 11 = .ok (.laload, 1) := by decide +kernel
theorem dX2_owed_12 : decode cX2_owed 12 = .ok (.lsub, 1) := by decide +kernel
theorem dX2_owed_13 : decode cX2_owed 13 = .ok (.aload_n 0, 1) := by decide +kernel
theorem dX2_owed_14 : decode cX2_owed 14 = .ok (.iload_n 1, 1) := by decide +kernel
theorem dX2_owed_15 : decode cX2_owed 15 = .ok (.aload_n 0, 1) := by decide +kernel
theorem dX2_owed_16 : decode cX2_owed 16 = .ok (.getfield 58, 3) := by decide +kernel
theorem dX2_owed_19 : decode cX2_owed 19 = .ok (.iconst 1, 1) := by decide +kernel
theorem dX2_owed_20 : decode cX2_owed 20 = .ok (.isub, 1) := by decide +kernel
theorem dX2_owed_21 : decode cX2_owed 21 = .ok (.invokevirtual 109, 3) := by decide +kernel
theorem dX2_owed_24 : decode cX2_owed 24 = .ok (.lsub, 1) := by decide +kernel
theorem dX2_owed_25 : decode cX2_owed 25 = .ok (.lstore_n 2, 1) := by decide +kernel
theorem dX2_owed_26 : decode cX2_owed 26 = .ok (.lload_n 2, 1) := by decide +kernel
theorem dX2_owed_27 : decode cX2_owed 27 = .ok (.lconst 0, 1) := by decide +kernel
theorem dX2_owed_28 : decode cX2_owed 28 = .ok (.lcmp, 1) := by decide +kernel
theorem dX2_owed_29 : decode cX2_owed 29 = .ok (.ifCond .ge 7, 3) := by decide +kernel
theorem dX2_owed_32 : decode cX2_owed 32 = .ok (.lconst 0, 1) := by decide +kernel
theorem dX2_owed_33 : decode cX2_owed 33 = .ok (.goto 4, 3) := by decide +kernel
theorem dX2_owed_36 : decode cX2_owed 36 = .ok (.lload_n 2, 1) := by decide +kernel
theorem dX2_owed_37 : decode cX2_owed 37 = .ok (.lreturn, 1) := by decide +kernel
set_option maxRecDepth 20000 in
theorem ggX2_giveBack_X2_isOne : GoodIn wsX2_giveBack wsX2_isOne := goodIn_r _ [7, 8, 59, 60, 61, 62, 63, 64, 65, 66, 67, 68, 69, 70, 71, 72, 73, 74, 75, 76] (by decide +kernel) (by decide +kernel)
set_option maxRecDepth 20000 in
theorem gX2_giveBack_X2_isOne : GoodIn wsX2_giveBack (wsV RX2 70 RX2 yX2_isOne wsX2_isOne) := goodIn_app (goodIn_of _ (by decide +kernel)) ggX2_giveBack_X2_isOne
set_option maxRecDepth 20000 in
theorem ggX2_giveBack_X2_isWithin : GoodIn wsX2_giveBack wsX2_isWithin := goodIn_r _ [11] (by decide +kernel) (by decide +kernel)
set_option maxRecDepth 20000 in
theorem gX2_giveBack_X2_isWithin : GoodIn wsX2_giveBack (va_wsS RX2 61 yX2_isWithin wsX2_isWithin) := goodIn_app (goodIn_of _ (by decide +kernel)) ggX2_giveBack_X2_isWithin
set_option maxRecDepth 20000 in
theorem ggX2_giveBack_X2_owed : GoodIn wsX2_giveBack wsX2_owed := goodIn_r _ [15, 16, 2, 17, 18, 19, 20, 6, 21, 22, 23, 24, 25, 26, 27, 28, 29, 30, 31, 32, 33, 34, 35, 36, 37, 38, 39, 40, 41, 42, 43, 44, 45, 46, 47, 48, 49, 50, 51, 52, 53, 59, 60, 61, 62, 63, 64, 65, 66, 67, 68, 69, 70, 71, 72, 73, 74, 75, 76] (by decide +kernel) (by decide +kernel)
set_option maxRecDepth 20000 in
theorem gX2_giveBack_X2_owed : GoodIn wsX2_giveBack (wsV RX2 114 RX2 yX2_owed wsX2_owed) := goodIn_app (goodIn_of _ (by decide +kernel)) ggX2_giveBack_X2_owed
set_option maxRecDepth 20000 in
theorem ggX2_giveBack_X2_goes : GoodIn wsX2_giveBack wsX2_goes := goodIn_r _ [57, 58, 59, 60, 61, 62, 63, 64, 65, 66, 67, 68, 69, 70, 71, 72, 73, 74, 75, 76] (by decide +kernel) (by decide +kernel)
set_option maxRecDepth 20000 in
theorem gX2_giveBack_X2_goes : GoodIn wsX2_giveBack (wsV RX2 66 RX2 yX2_goes wsX2_goes) := goodIn_app (goodIn_of _ (by decide +kernel)) ggX2_giveBack_X2_goes
theorem dX2_giveBack_0 : decode cX2_giveBack 0 = .ok (.aload_n 0, 1) := by decide +kernel
theorem dX2_giveBack_1 : decode cX2_giveBack 1 = .ok (.iload_n 1, 1) := by decide +kernel
theorem dX2_giveBack_2 : decode cX2_giveBack 2 = .ok (.invokevirtual 70, 3) := by decide +kernel
theorem dX2_giveBack_5 : decode cX2_giveBack 5 = .ok (.istore_n 3, 1) := by decide +kernel
theorem dX2_giveBack_6 : decode cX2_giveBack 6 = .ok (.iload_n 2, 1) := by decide +kernel
theorem dX2_giveBack_7 : decode cX2_giveBack 7 = .ok (.iconst 1, 1) := by decide +kernel
theorem dX2_giveBack_8 : decode cX2_giveBack 8 = .ok (.ldc 113, 2) := by decide +kernel
theorem dX2_giveBack_10 : decode cX2_giveBack 10 = .ok (.invokestatic 61, 3) := by decide +kernel
theorem dX2_giveBack_13 : decode cX2_giveBack 13 = .ok (.istore 4, 2) := by decide +kernel
theorem dX2_giveBack_15 : decode cX2_giveBack 15 = .ok (.aload_n 0, 1) := by decide +kernel
theorem dX2_giveBack_16 : decode cX2_giveBack 16 = .ok (.iload_n 3, 1) := by decide +kernel
theorem dX2_giveBack_17 : decode cX2_giveBack 17 = .ok (.iload 4, 2) := by decide +kernel
theorem dX2_giveBack_19 : decode cX2_giveBack 19 = .ok (.iload_n 3, 1) := by decide +kernel
theorem dX2_giveBack_20 : decode cX2_giveBack 20 = .ok (.ifCond .eq 23, 3) := by decide +kernel
theorem dX2_giveBack_23 : decode cX2_giveBack 23 = .ok (.iload 4, 2) := by decide +kernel
theorem dX2_giveBack_25 : decode cX2_giveBack 25 = .ok (.ifCond .eq 18, 3) := by decide +kernel
theorem dX2_giveBack_28 : decode cX2_giveBack 28 = .ok (.aload_n 0, 1) := by decide +kernel
theorem dX2_giveBack_29 : decode cX2_giveBack 29 = .ok (.iload_n 1, 1) := by decide +kernel
theorem dX2_giveBack_30 : decode cX2_giveBack 30 = .ok (.invokevirtual 114, 3) := by decide +kernel
theorem dX2_giveBack_33 : decode cX2_giveBack 33 = .ok (.iload_n 2, 1) := by decide +kernel
theorem dX2_giveBack_34 : decode cX2_giveBack 34 = .ok (.i2l, 1) := by decide +kernel
theorem dX2_giveBack_35 : decode cX2_giveBack 35 = .ok (.lcmp, 1) := by decide +kernel
theorem dX2_giveBack_36 : decode cX2_giveBack 36 = .ok (.ifCond .lt 7, 3) := by decide +kernel
theorem dX2_giveBack_39 : decode cX2_giveBack 39 = .ok (.iconst 1, 1) := by decide +kernel
theorem dX2_giveBack_40 : decode cX2_giveBack 40 = .ok (.goto 4, 3) := by decide +kernel
theorem dX2_giveBack_43 : decode cX2_giveBack 43 = .ok (.iconst 0, 1) := by decide +kernel
theorem dX2_giveBack_44 : decode cX2_giveBack 44 = .ok (.invokevirtual 66, 3) := by decide +kernel
theorem dX2_giveBack_47 : decode cX2_giveBack 47 = .ok (.ifCond .ne 5, 3) := by decide +kernel
theorem dX2_giveBack_50 : decode cX2_giveBack 50 = .ok (.lconst 0, 1) := by decide +kernel
theorem dX2_giveBack_51 : decode cX2_giveBack 51 = .ok (.lreturn, 1) := by decide +kernel
theorem dX2_giveBack_52 : decode cX2_giveBack 52 = .ok (.aload_n 0, 1) := by decide +kernel
theorem dX2_giveBack_53 : decode cX2_giveBack 53 = .ok (.getfield 42, 3) := by decide +kernel
theorem dX2_giveBack_56 : decode cX2_giveBack 56 = .ok (.iload_n 1, 1) := by decide +kernel
theorem dX2_giveBack_57 : decode cX2_giveBack 57 = .ok (.dup2, 1) := by decide +kernel
theorem dX2_giveBack_58 : decode cX2_giveBack 58 = .ok (.laload, 1) := by decide +kernel
theorem dX2_giveBack_59 : decode cX2_giveBack 59 = .ok (.iload_n 2, 1) := by decide +kernel
theorem dX2_giveBack_60 : decode cX2_giveBack 60 = .ok (.i2l, 1) := by decide +kernel
theorem dX2_giveBack_61 : decode cX2_giveBack 61 = .ok (.ladd, 1) := by decide +kernel
theorem dX2_giveBack_62 : decode cX2_giveBack 62 = .ok (.lastore, 1) := by decide +kernel
theorem dX2_giveBack_63 : decode cX2_giveBack 63 = .ok (.aload_n 0, 1) := by decide +kernel
theorem dX2_giveBack_64 : decode cX2_giveBack 64 = .ok (.iload_n 1, 1) := by decide +kernel
theorem dX2_giveBack_65 : decode cX2_giveBack 65 = .ok (.invokevirtual 114, 3) := by decide +kernel
theorem dX2_giveBack_68 : decode cX2_giveBack 68 = .ok (.lreturn, 1) := by decide +kernel
set_option maxRecDepth 20000 in
theorem ggX2_paid_X2_isOne : GoodIn wsX2_paid wsX2_isOne := goodIn_r _ [7, 8, 17, 18, 19, 20, 21, 22, 23, 24, 25, 26, 27, 28, 29, 30, 31, 32, 33, 34] (by decide +kernel) (by decide +kernel)
set_option maxRecDepth 20000 in
theorem gX2_paid_X2_isOne : GoodIn wsX2_paid (wsV RX2 70 RX2 yX2_isOne wsX2_isOne) := goodIn_app (goodIn_of _ (by decide +kernel)) ggX2_paid_X2_isOne
set_option maxRecDepth 20000 in
theorem ggX2_paid_X2_isWithin : GoodIn wsX2_paid wsX2_isWithin := goodIn_r _ [11] (by decide +kernel) (by decide +kernel)
set_option maxRecDepth 20000 in
theorem gX2_paid_X2_isWithin : GoodIn wsX2_paid (va_wsS RX2 61 yX2_isWithin wsX2_isWithin) := goodIn_app (goodIn_of _ (by decide +kernel)) ggX2_paid_X2_isWithin
set_option maxRecDepth 20000 in
theorem ggX2_paid_X2_goes : GoodIn wsX2_paid wsX2_goes := goodIn_r _ [15, 16, 17, 18, 19, 20, 21, 22, 23, 24, 25, 26, 27, 28, 29, 30, 31, 32, 33, 34] (by decide +kernel) (by decide +kernel)
set_option maxRecDepth 20000 in
theorem gX2_paid_X2_goes : GoodIn wsX2_paid (wsV RX2 66 RX2 yX2_goes wsX2_goes) := goodIn_app (goodIn_of _ (by decide +kernel)) ggX2_paid_X2_goes
theorem dX2_paid_0 : decode cX2_paid 0 = .ok (.aload_n 0, 1) := by decide +kernel
theorem dX2_paid_1 : decode cX2_paid 1 = .ok (.aload_n 0, 1) := by decide +kernel
theorem dX2_paid_2 : decode cX2_paid 2 = .ok (.iload_n 1, 1) := by decide +kernel
theorem dX2_paid_3 : decode cX2_paid 3 = .ok (.invokevirtual 70, 3) := by decide +kernel
theorem dX2_paid_6 : decode cX2_paid 6 = .ok (.iload_n 2, 1) := by decide +kernel
theorem dX2_paid_7 : decode cX2_paid 7 = .ok (.iconst 0, 1) := by decide +kernel
theorem dX2_paid_8 : decode cX2_paid 8 = .ok (.aload_n 0, 1) := by decide +kernel
theorem dX2_paid_9 : decode cX2_paid 9 = .ok (.getfield 58, 3) := by decide +kernel
theorem dX2_paid_12 : decode cX2_paid 12 = .ok (.iconst 1, 1) := by decide +kernel
theorem dX2_paid_13 : decode cX2_paid 13 = .ok (.isub, 1) := by decide +kernel
theorem dX2_paid_14 : decode cX2_paid 14 = .ok (.invokestatic 61, 3) := by decide +kernel
theorem dX2_paid_17 : decode cX2_paid 17 = .ok (.iconst 1, 1) := by decide +kernel
theorem dX2_paid_18 : decode cX2_paid 18 = .ok (.invokevirtual 66, 3) := by decide +kernel
theorem dX2_paid_21 : decode cX2_paid 21 = .ok (.ifCond .eq 18, 3) := by decide +kernel
theorem dX2_paid_24 : decode cX2_paid 24 = .ok (.aload_n 0, 1) := by decide +kernel
theorem dX2_paid_25 : decode cX2_paid 25 = .ok (.getfield 45, 3) := by decide +kernel
theorem dX2_paid_28 : decode cX2_paid 28 = .ok (.sipush 240, 3) := by decide +kernel
theorem dX2_paid_31 : decode cX2_paid 31 = .ok (.iload_n 1, 1) := by decide +kernel
theorem dX2_paid_32 : decode cX2_paid 32 = .ok (.imul, 1) := by decide +kernel
theorem dX2_paid_33 : decode cX2_paid 33 = .ok (.iload_n 2, 1) := by decide +kernel
theorem dX2_paid_34 : decode cX2_paid 34 = .ok (.iadd, 1) := by decide +kernel
theorem dX2_paid_35 : decode cX2_paid 35 = .ok (.laload, 1) := by decide +kernel
theorem dX2_paid_36 : decode cX2_paid 36 = .ok (.goto 4, 3) := by decide +kernel
theorem dX2_paid_39 : decode cX2_paid 39 = .ok (.lconst 0, 1) := by decide +kernel
theorem dX2_paid_40 : decode cX2_paid 40 = .ok (.lreturn, 1) := by decide +kernel
set_option maxRecDepth 20000 in
theorem ggX2_paidInAll_X2_isOne : GoodIn wsX2_paidInAll wsX2_isOne := goodIn_r _ [7, 8, 14, 15, 16, 17, 18, 19, 20, 21, 22, 23, 24, 25, 26, 27, 28, 29, 30, 31] (by decide +kernel) (by decide +kernel)
set_option maxRecDepth 20000 in
theorem gX2_paidInAll_X2_isOne : GoodIn wsX2_paidInAll (wsV RX2 70 RX2 yX2_isOne wsX2_isOne) := goodIn_app (goodIn_of _ (by decide +kernel)) ggX2_paidInAll_X2_isOne
set_option maxRecDepth 20000 in
theorem ggX2_paidInAll_X2_goes : GoodIn wsX2_paidInAll wsX2_goes := goodIn_r _ [12, 13, 14, 15, 16, 17, 18, 19, 20, 21, 22, 23, 24, 25, 26, 27, 28, 29, 30, 31] (by decide +kernel) (by decide +kernel)
set_option maxRecDepth 20000 in
theorem gX2_paidInAll_X2_goes : GoodIn wsX2_paidInAll (wsV RX2 66 RX2 yX2_goes wsX2_goes) := goodIn_app (goodIn_of _ (by decide +kernel)) ggX2_paidInAll_X2_goes
theorem dX2_paidInAll_0 : decode cX2_paidInAll 0 = .ok (.aload_n 0, 1) := by decide +kernel
theorem dX2_paidInAll_1 : decode cX2_paidInAll 1 = .ok (.aload_n 0, 1) := by decide +kernel
theorem dX2_paidInAll_2 : decode cX2_paidInAll 2 = .ok (.iload_n 1, 1) := by decide +kernel
theorem dX2_paidInAll_3 : decode cX2_paidInAll 3 = .ok (.invokevirtual 70, 3) := by decide +kernel
theorem dX2_paidInAll_6 : decode cX2_paidInAll 6 = .ok (.iconst 1, 1) := by decide +kernel
theorem dX2_paidInAll_7 : decode cX2_paidInAll 7 = .ok (.iconst 1, 1) := by decide +kernel
theorem dX2_paidInAll_8 : decode cX2_paidInAll 8 = .ok (.invokevirtual 66, 3) := by decide +kernel
theorem dX2_paidInAll_11 : decode cX2_paidInAll 11 = .ok (.ifCond .eq 19, 3) := by decide +kernel
theorem dX2_paidInAll_14 : decode cX2_paidInAll 14 = .ok (.aload_n 0, 1) := by decide +kernel
theorem dX2_paidInAll_15 : decode cX2_paidInAll 15 = .ok (.getfield 38, 3) := by decide +kernel
theorem dX2_paidInAll_18 : decode cX2_paidInAll 18 = .ok (.iload_n 1, 1) := by decide +kernel
theorem dX2_paidInAll_19 : decode cX2_paidInAll 19 = .ok (.laload, 1) := by decide +kernel
theorem dX2_paidInAll_20 : decode cX2_paidInAll 20 = .ok (.aload_n 0, 1) := by decide +kernel
theorem dX2_paidInAll_21 : decode cX2_paidInAll 21 = .ok (.getfield 42, 3) := by decide +kernel
theorem dX2_paidInAll_24 : decode cX2_paidInAll 24 = .ok (.iload_n 1, 1) := by decide +kernel
theorem dX2_paidInAll_25 : decode cX2_paidInAll 25 = .ok (.laload, 1) := by decide +kernel
theorem dX2_paidInAll_26 : decode cX2_paidInAll 26 = .ok (.lsub, 1) := by decide +kernel
theorem dX2_paidInAll_27 : decode cX2_paidInAll 27 = .ok (.goto 4, 3) := by decide +kernel
theorem dX2_paidInAll_30 : decode cX2_paidInAll 30 = .ok (.lconst 0, 1) := by decide +kernel
theorem dX2_paidInAll_31 : decode cX2_paidInAll 31 = .ok (.lreturn, 1) := by decide +kernel
set_option maxRecDepth 20000 in
theorem ggX2_owes_X2_isOne : GoodIn wsX2_owes wsX2_isOne := goodIn_r _ [5, 6, 55, 56, 57, 58, 59, 60, 61, 62, 63, 64, 65, 66, 67, 68, 69, 70, 71, 72] (by decide +kernel) (by decide +kernel)
set_option maxRecDepth 20000 in
theorem gX2_owes_X2_isOne : GoodIn wsX2_owes (wsV RX2 70 RX2 yX2_isOne wsX2_isOne) := goodIn_app (goodIn_of _ (by decide +kernel)) ggX2_owes_X2_isOne
set_option maxRecDepth 20000 in
theorem ggX2_owes_X2_goes : GoodIn wsX2_owes wsX2_goes := goodIn_r _ [10, 11, 55, 56, 57, 58, 59, 60, 61, 62, 63, 64, 65, 66, 67, 68, 69, 70, 71, 72] (by decide +kernel) (by decide +kernel)
set_option maxRecDepth 20000 in
theorem gX2_owes_X2_goes : GoodIn wsX2_owes (wsV RX2 66 RX2 yX2_goes wsX2_goes) := goodIn_app (goodIn_of _ (by decide +kernel)) ggX2_owes_X2_goes
set_option maxRecDepth 20000 in
theorem ggX2_owes_X2_owed : GoodIn wsX2_owes wsX2_owed := goodIn_r _ [15, 16, 17, 18, 19, 20, 21, 4, 22, 23, 24, 25, 26, 27, 28, 29, 30, 31, 32, 33, 34, 35, 36, 37, 38, 39, 40, 41, 42, 43, 44, 45, 46, 47, 48, 49, 50, 51, 52, 53, 54, 55, 56, 57, 58, 59, 60, 61, 62, 63, 64, 65, 66, 67, 68, 69, 70, 71, 72] (by decide +kernel) (by decide +kernel)
set_option maxRecDepth 20000 in
theorem gX2_owes_X2_owed : GoodIn wsX2_owes (wsV RX2 114 RX2 yX2_owed wsX2_owed) := goodIn_app (goodIn_of _ (by decide +kernel)) ggX2_owes_X2_owed
theorem dX2_owes_0 : decode cX2_owes 0 = .ok (.aload_n 0, 1) := by decide +kernel
theorem dX2_owes_1 : decode cX2_owes 1 = .ok (.aload_n 0, 1) := by decide +kernel
theorem dX2_owes_2 : decode cX2_owes 2 = .ok (.iload_n 1, 1) := by decide +kernel
theorem dX2_owes_3 : decode cX2_owes 3 = .ok (.invokevirtual 70, 3) := by decide +kernel
theorem dX2_owes_6 : decode cX2_owes 6 = .ok (.iconst 1, 1) := by decide +kernel
theorem dX2_owes_7 : decode cX2_owes 7 = .ok (.iconst 1, 1) := by decide +kernel
theorem dX2_owes_8 : decode cX2_owes 8 = .ok (.invokevirtual 66, 3) := by decide +kernel
theorem dX2_owes_11 : decode cX2_owes 11 = .ok (.ifCond .eq 11, 3) := by decide +kernel
theorem dX2_owes_14 : decode cX2_owes 14 = .ok (.aload_n 0, 1) := by decide +kernel
theorem dX2_owes_15 : decode cX2_owes 15 = .ok (.iload_n 1, 1) := by decide +kernel
theorem dX2_owes_16 : decode cX2_owes 16 = .ok (.invokevirtual 114, 3) := by decide +kernel
theorem dX2_owes_19 : decode cX2_owes 19 = .ok (.goto 4, 3) := by decide +kernel
theorem dX2_owes_22 : decode cX2_owes 22 = .ok (.lconst 0, 1) := by decide +kernel
theorem dX2_owes_23 : decode cX2_owes 23 = .ok (.lreturn, 1) := by decide +kernel
theorem dJ9_max_7cf53_0 : decode cJ9_max_7cf53 0 = .ok (.iload_n 0, 1) := by decide +kernel
theorem dJ9_max_7cf53_1 : decode cJ9_max_7cf53 1 = .ok (.iload_n 1, 1) := by decide +kernel
theorem dJ9_max_7cf53_2 : decode cJ9_max_7cf53 2 = .ok (.if_icmp .lt 7, 3) := by decide +kernel
theorem dJ9_max_7cf53_5 : decode cJ9_max_7cf53 5 = .ok (.iload_n 0, 1) := by decide +kernel
theorem dJ9_max_7cf53_6 : decode cJ9_max_7cf53 6 = .ok (.goto 4, 3) := by decide +kernel
theorem dJ9_max_7cf53_9 : decode cJ9_max_7cf53 9 = .ok (.iload_n 1, 1) := by decide +kernel
theorem dJ9_max_7cf53_10 : decode cJ9_max_7cf53 10 = .ok (.ireturn, 1) := by decide +kernel
theorem dJ9_max_f86c9_0 : decode cJ9_max_f86c9 0 = .ok (.lload_n 0, 1) := by decide +kernel
theorem dJ9_max_f86c9_1 : decode cJ9_max_f86c9 1 = .ok (.lload_n 2, 1) := by decide +kernel
theorem dJ9_max_f86c9_2 : decode cJ9_max_f86c9 2 = .ok (.lcmp, 1) := by decide +kernel
theorem dJ9_max_f86c9_3 : decode cJ9_max_f86c9 3 = .ok (.ifCond .lt 7, 3) := by decide +kernel
theorem dJ9_max_f86c9_6 : decode cJ9_max_f86c9 6 = .ok (.lload_n 0, 1) := by decide +kernel
theorem dJ9_max_f86c9_7 : decode cJ9_max_f86c9 7 = .ok (.goto 4, 3) := by decide +kernel
theorem dJ9_max_f86c9_10 : decode cJ9_max_f86c9 10 = .ok (.lload_n 2, 1) := by decide +kernel
theorem dJ9_max_f86c9_11 : decode cJ9_max_f86c9 11 = .ok (.lreturn, 1) := by decide +kernel
theorem dJ9_min_7cf53_0 : decode cJ9_min_7cf53 0 = .ok (.iload_n 0, 1) := by decide +kernel
theorem dJ9_min_7cf53_1 : decode cJ9_min_7cf53 1 = .ok (.iload_n 1, 1) := by decide +kernel
theorem dJ9_min_7cf53_2 : decode cJ9_min_7cf53 2 = .ok (.if_icmp .gt 7, 3) := by decide +kernel
theorem dJ9_min_7cf53_5 : decode cJ9_min_7cf53 5 = .ok (.iload_n 0, 1) := by decide +kernel
theorem dJ9_min_7cf53_6 : decode cJ9_min_7cf53 6 = .ok (.goto 4, 3) := by decide +kernel
theorem dJ9_min_7cf53_9 : decode cJ9_min_7cf53 9 = .ok (.iload_n 1, 1) := by decide +kernel
theorem dJ9_min_7cf53_10 : decode cJ9_min_7cf53 10 = .ok (.ireturn, 1) := by decide +kernel
