theorem dX8_init_0 : decode cX8_init 0 = .ok (.aload_n 0, 1) := by decide +kernel
theorem dX8_init_1 : decode cX8_init 1 = .ok (.invokespecial 1, 3) := by decide +kernel
theorem dX8_init_4 : decode cX8_init 4 = .ok (.aload_n 0, 1) := by decide +kernel
theorem dX8_init_5 : decode cX8_init 5 = .ok (.sipush 512, 3) := by decide +kernel
theorem dX8_init_8 : decode cX8_init 8 = .ok (.newarray .int, 2) := by decide +kernel
theorem dX8_init_10 : decode cX8_init 10 = .ok (.putfield 7, 3) := by decide +kernel
theorem dX8_init_13 : decode cX8_init 13 = .ok (.aload_n 0, 1) := by decide +kernel
theorem dX8_init_14 : decode cX8_init 14 = .ok (.sipush 1200, 3) := by decide +kernel
theorem dX8_init_17 : decode cX8_init 17 = .ok (.newarray .long, 2) := by decide +kernel
theorem dX8_init_19 : decode cX8_init 19 = .ok (.putfield 13, 3) := by decide +kernel
theorem dX8_init_22 : decode cX8_init 22 = .ok (.aload_n 0, 1) := by decide +kernel
theorem dX8_init_23 : decode cX8_init 23 = .ok (.iconst 4, 1) := by decide +kernel
theorem dX8_init_24 : decode cX8_init 24 = .ok (.newarray .int, 2) := by decide +kernel
theorem dX8_init_26 : decode cX8_init 26 = .ok (.putfield 17, 3) := by decide +kernel
theorem dX8_init_29 : decode cX8_init 29 = .ok (.aload_n 0, 1) := by decide +kernel
theorem dX8_init_30 : decode cX8_init 30 = .ok (.iconst 4, 1) := by decide +kernel
theorem dX8_init_31 : decode cX8_init 31 = .ok (.newarray .int, 2) := by decide +kernel
theorem dX8_init_33 : decode cX8_init 33 = .ok (.putfield 20, 3) := by decide +kernel
theorem dX8_init_36 : decode cX8_init 36 = .ok (.aload_n 0, 1) := by decide +kernel
theorem dX8_init_37 : decode cX8_init 37 = .ok (.sipush 256, 3) := by decide +kernel
theorem dX8_init_40 : decode cX8_init 40 = .ok (.newarray .long, 2) := by decide +kernel
theorem dX8_init_42 : decode cX8_init 42 = .ok (.putfield 23, 3) := by decide +kernel
theorem dX8_init_45 : decode cX8_init 45 = .ok (.aload_n 0, 1) := by decide +kernel
theorem dX8_init_46 : decode cX8_init 46 = .ok (.sipush 2000, 3) := by decide +kernel
theorem dX8_init_49 : decode cX8_init 49 = .ok (.newarray .byte, 2) := by decide +kernel
theorem dX8_init_51 : decode cX8_init 51 = .ok (.putfield 26, 3) := by decide +kernel
theorem dX8_init_54 : decode cX8_init 54 = .ok (.aload_n 0, 1) := by decide +kernel
theorem dX8_init_55 : decode cX8_init 55 = .ok (.sipush 200, 3) := by decide +kernel
theorem dX8_init_58 : decode cX8_init 58 = .ok (.newarray .int, 2) := by decide +kernel
theorem dX8_init_60 : decode cX8_init 60 = .ok (.putfield 30, 3) := by decide +kernel
theorem dX8_init_63 : decode cX8_init 63 = .ok (.aload_n 0, 1) := by decide +kernel
theorem dX8_init_64 : decode cX8_init 64 = .ok (.sipush 200, 3) := by decide +kernel
theorem dX8_init_67 : decode cX8_init 67 = .ok (.newarray .long, 2) := by decide +kernel
theorem dX8_init_69 : decode cX8_init 69 = .ok (.putfield 33, 3) := by decide +kernel
theorem dX8_init_72 : decode cX8_init 72 = .ok (.aload_n 0, 1) := by decide +kernel
theorem dX8_init_73 : decode cX8_init 73 = .ok (.sipush 200, 3) := by decide +kernel
theorem dX8_init_76 : decode cX8_init 76 = .ok (.newarray .boolean, 2) := by decide +kernel
theorem dX8_init_78 : decode cX8_init 78 = .ok (.putfield 36, 3) := by decide +kernel
theorem dX8_init_81 : decode cX8_init 81 = .ok (.aload_n 0, 1) := by decide +kernel
theorem dX8_init_82 : decode cX8_init 82 = .ok (.bipush 16, 2) := by decide +kernel
theorem dX8_init_84 : decode cX8_init 84 = .ok (.newarray .byte, 2) := by decide +kernel
theorem dX8_init_86 : decode cX8_init 86 = .ok (.putfield 40, 3) := by decide +kernel
theorem dX8_init_89 : decode cX8_init 89 = .ok (.aload_n 0, 1) := by decide +kernel
theorem dX8_init_90 : decode cX8_init 90 = .ok (.iconst 0, 1) := by decide +kernel
theorem dX8_init_91 : decode cX8_init 91 = .ok (.putfield 43, 3) := by decide +kernel
theorem dX8_init_94 : decode cX8_init 94 = .ok (.return_, 1) := by decide +kernel
theorem dX8_in_0 : decode cX8_in 0 = .ok (.lload_n 0, 1) := by decide +kernel
theorem dX8_in_1 : decode cX8_in 1 = .ok (.lload_n 2, 1) := by decide +kernel
theorem dX8_in_2 : decode cX8_in 2 = .ok (.lcmp, 1) := by decide +kernel
theorem dX8_in_3 : decode cX8_in 3 = .ok (.ifCond .lt 14, 3) := by decide +kernel
theorem dX8_in_6 : decode cX8_in 6 = .ok (.lload_n 0, 1) := by decide +kernel
theorem dX8_in_7 : decode cX8_in 7 = .ok (.lload 4, 2) := by decide +kernel
theorem dX8_in_9 : decode cX8_in 9 = .ok (.lcmp, 1) := by decide +kernel
theorem dX8_in_10 : decode cX8_in 10 = .ok (.ifCond .gt 7, 3) := by decide +kernel
theorem dX8_in_13 : decode cX8_in 13 = .ok (.iconst 1, 1) := by decide +kernel
theorem dX8_in_14 : decode cX8_in 14 = .ok (.goto 4, 3) := by decide +kernel
theorem dX8_in_17 : decode cX8_in 17 = .ok (.iconst 0, 1) := by decide +kernel
theorem dX8_in_18 : decode cX8_in 18 = .ok (.ireturn, 1) := by decide +kernel
set_option maxRecDepth 100000 in
theorem ggX8_half_X8_in : GoodIn wsX8_half wsX8_in := goodIn_r _ [6] rfl (by decide +kernel)
set_option maxRecDepth 100000 in
theorem gX8_half_X8_in : GoodIn wsX8_half (va_wsS RX8 49 yX8_in wsX8_in) := goodIn_app (goodIn_r _ [3, 4, 5] rfl (by decide +kernel)) ggX8_half_X8_in
theorem dX8_half_0 : decode cX8_half 0 = .ok (.iload_n 1, 1) := by decide +kernel
theorem dX8_half_1 : decode cX8_half 1 = .ok (.i2l, 1) := by decide +kernel
theorem dX8_half_2 : decode cX8_half 2 = .ok (.lconst 0, 1) := by decide +kernel
theorem dX8_half_3 : decode cX8_half 3 = .ok (.ldc2_w 47, 3) := by decide +kernel
theorem dX8_half_6 : decode cX8_half 6 = .ok (.invokestatic 49, 3) := by decide +kernel
theorem dX8_half_9 : decode cX8_half 9 = .ok (.ifCond .eq 12, 3) := by decide +kernel
theorem dX8_half_12 : decode cX8_half 12 = .ok (.aload_n 0, 1) := by decide +kernel
theorem dX8_half_13 : decode cX8_half 13 = .ok (.getfield 7, 3) := by decide +kernel
theorem dX8_half_16 : decode cX8_half 16 = .ok (.iload_n 1, 1) := by decide +kernel
theorem dX8_half_17 : decode cX8_half 17 = .ok (.iaload, 1) := by decide +kernel
theorem dX8_half_18 : decode cX8_half 18 = .ok (.goto 4, 3) := by decide +kernel
theorem dX8_half_21 : decode cX8_half 21 = .ok (.iconst (-1), 1) := by decide +kernel
theorem dX8_half_22 : decode cX8_half 22 = .ok (.ireturn, 1) := by decide +kernel
set_option maxRecDepth 100000 in
theorem ggX8_put_X8_in : GoodIn wsX8_put wsX8_in := goodIn_r _ [7] rfl (by decide +kernel)
set_option maxRecDepth 100000 in
theorem gX8_put_X8_in : GoodIn wsX8_put (va_wsS RX8 49 yX8_in wsX8_in) := goodIn_app (goodIn_r _ [4, 5, 6] rfl (by decide +kernel)) ggX8_put_X8_in
theorem dX8_put_0 : decode cX8_put 0 = .ok (.iload_n 1, 1) := by decide +kernel
theorem dX8_put_1 : decode cX8_put 1 = .ok (.i2l, 1) := by decide +kernel
theorem dX8_put_2 : decode cX8_put 2 = .ok (.lconst 0, 1) := by decide +kernel
theorem dX8_put_3 : decode cX8_put 3 = .ok (.ldc2_w 47, 3) := by decide +kernel
theorem dX8_put_6 : decode cX8_put 6 = .ok (.invokestatic 49, 3) := by decide +kernel
theorem dX8_put_9 : decode cX8_put 9 = .ok (.ifCond .eq 15, 3) := by decide +kernel
theorem dX8_put_12 : decode cX8_put 12 = .ok (.iload_n 2, 1) := by decide +kernel
theorem dX8_put_13 : decode cX8_put 13 = .ok (.i2l, 1) := by decide +kernel
theorem dX8_put_14 : decode cX8_put 14 = .ok (.lconst 0, 1) := by decide +kernel
theorem dX8_put_15 : decode cX8_put 15 = .ok (.ldc2_w 53, 3) := by decide +kernel
theorem dX8_put_18 : decode cX8_put 18 = .ok (.invokestatic 49, 3) := by decide +kernel
theorem dX8_put_21 : decode cX8_put 21 = .ok (.ifCond .ne 5, 3) := by decide +kernel
theorem dX8_put_24 : decode cX8_put 24 = .ok (.iconst (-1), 1) := by decide +kernel
theorem dX8_put_25 : decode cX8_put 25 = .ok (.ireturn, 1) := by decide +kernel
theorem dX8_put_26 : decode cX8_put 26 = .ok (.aload_n 0, 1) := by decide +kernel
theorem dX8_put_27 : decode cX8_put 27 = .ok (.getfield 7, 3) := by decide +kernel
theorem dX8_put_30 : decode cX8_put 30 = .ok (.iload_n 1, 1) := by decide +kernel
theorem dX8_put_31 : decode cX8_put 31 = .ok (.iaload, 1) := by decide +kernel
theorem dX8_put_32 : decode cX8_put 32 = .ok (.istore_n 3, 1) := by decide +kernel
theorem dX8_put_33 : decode cX8_put 33 = .ok (.aload_n 0, 1) := by decide +kernel
theorem dX8_put_34 : decode cX8_put 34 = .ok (.getfield 7, 3) := by decide +kernel
theorem dX8_put_37 : decode cX8_put 37 = .ok (.iload_n 1, 1) := by decide +kernel
theorem dX8_put_38 : decode cX8_put 38 = .ok (.iload_n 2, 1) := by decide +kernel
theorem dX8_put_39 : decode cX8_put 39 = .ok (.iastore, 1) := by decide +kernel
theorem dX8_put_40 : decode cX8_put 40 = .ok (.iload_n 3, 1) := by decide +kernel
theorem dX8_put_41 : decode cX8_put 41 = .ok (.ireturn, 1) := by decide +kernel
theorem dX8_wholeAt_0 : decode cX8_wholeAt 0 = .ok (.aload_n 0, 1) := by decide +kernel
theorem dX8_wholeAt_1 : decode cX8_wholeAt 1 = .ok (.getfield 7, 3) := by decide +kernel
theorem dX8_wholeAt_4 : decode cX8_wholeAt 4 = .ok (.iload_n 1, 1) := by decide +kernel
theorem dX8_wholeAt_5 : decode cX8_wholeAt 5 = .ok (.iaload, 1) := by decide +kernel
theorem dX8_wholeAt_6 : decode cX8_wholeAt 6 = .ok (.i2l, 1) := by decide +kernel
theorem dX8_wholeAt_7 : decode cX8_wholeAt 7 = .ok (.bipush 18, 2) := by decide +kernel
theorem dX8_wholeAt_9 : decode cX8_wholeAt 9 = .ok (.lshl, 1) := by decide +kernel
theorem dX8_wholeAt_10 : decode cX8_wholeAt 10 = .ok (.aload_n 0, 1) := by decide +kernel
theorem dX8_wholeAt_11 : decode cX8_wholeAt 11 = .ok (.getfield 7, 3) := by decide +kernel
theorem dX8_wholeAt_14 : decode cX8_wholeAt 14 = .ok (.iload_n 1, 1) := by decide +kernel
theorem dX8_wholeAt_15 : decode cX8_wholeAt 15 = .ok (.iconst 1, 1) := by decide +kernel
theorem dX8_wholeAt_16 : decode cX8_wholeAt 16 = .ok (.iadd, 1) := by decide +kernel
theorem dX8_wholeAt_17 : decode cX8_wholeAt 17 = .ok (.iaload, 1) := by decide +kernel
theorem dX8_wholeAt_18 : decode cX8_wholeAt 18 = .ok (.i2l, 1) := by decide +kernel
theorem dX8_wholeAt_19 : decode cX8_wholeAt 19 = .ok (.lor, 1) := by decide +kernel
theorem dX8_wholeAt_20 : decode cX8_wholeAt 20 = .ok (.lreturn, 1) := by decide +kernel
set_option maxRecDepth 100000 in
theorem ggX8_whole_X8_in : GoodIn wsX8_whole wsX8_in := goodIn_r _ [6] rfl (by decide +kernel)
set_option maxRecDepth 100000 in
theorem gX8_whole_X8_in : GoodIn wsX8_whole (va_wsS RX8 49 yX8_in wsX8_in) := goodIn_app (goodIn_r _ [3, 4, 5] rfl (by decide +kernel)) ggX8_whole_X8_in
set_option maxRecDepth 100000 in
theorem ggX8_whole_X8_wholeAt : GoodIn wsX8_whole wsX8_wholeAt := goodIn_r _ [10, 11, 12, 13, 14, 15, 16, 17, 18, 19, 20, 21, 22, 23, 24, 25, 26, 27, 28, 29, 30, 31, 32, 33, 34, 35, 36, 37, 38, 39, 40, 41, 42] rfl (by decide +kernel)
set_option maxRecDepth 100000 in
theorem gX8_whole_X8_wholeAt : GoodIn wsX8_whole (wsV RX8 55 RX8 yX8_wholeAt wsX8_wholeAt) := goodIn_app (goodIn_r _ [7, 8, 9, 5] rfl (by decide +kernel)) ggX8_whole_X8_wholeAt
theorem dX8_whole_0 : decode cX8_whole 0 = .ok (.iload_n 1, 1) := by decide +kernel
theorem dX8_whole_1 : decode cX8_whole 1 = .ok (.i2l, 1) := by decide +kernel
theorem dX8_whole_2 : decode cX8_whole 2 = .ok (.lconst 0, 1) := by decide +kernel
theorem dX8_whole_3 : decode cX8_whole 3 = .ok (.ldc2_w 47, 3) := by decide +kernel
theorem dX8_whole_6 : decode cX8_whole 6 = .ok (.invokestatic 49, 3) := by decide +kernel
theorem dX8_whole_9 : decode cX8_whole 9 = .ok (.ifCond .eq 17, 3) := by decide +kernel
theorem dX8_whole_12 : decode cX8_whole 12 = .ok (.iload_n 1, 1) := by decide +kernel
theorem dX8_whole_13 : decode cX8_whole 13 = .ok (.iconst 2, 1) := by decide +kernel
theorem dX8_whole_14 : decode cX8_whole 14 = .ok (.irem, 1) := by decide +kernel
theorem dX8_whole_15 : decode cX8_whole 15 = .ok (.ifCond .ne 11, 3) := by decide +kernel
theorem dX8_whole_18 : decode cX8_whole 18 = .ok (.aload_n 0, 1) := by decide +kernel
theorem dX8_whole_19 : decode cX8_whole 19 = .ok (.iload_n 1, 1) := by decide +kernel
theorem dX8_whole_20 : decode cX8_whole 20 = .ok (.invokevirtual 55, 3) := by decide +kernel
theorem dX8_whole_23 : decode cX8_whole 23 = .ok (.goto 6, 3) := by decide +kernel
theorem dX8_whole_26 : decode cX8_whole 26 = .ok (.ldc2_w 59, 3) := by decide +kernel
theorem dX8_whole_29 : decode cX8_whole 29 = .ok (.lreturn, 1) := by decide +kernel
theorem dX8_told_0 : decode cX8_told 0 = .ok (.iload_n 1, 1) := by decide +kernel
theorem dX8_told_1 : decode cX8_told 1 = .ok (.tableswitch 134 0 9 #[55, 68, 73, 86, 91, 104, 110, 116, 122, 128], 55) := by decide +kernel
theorem dX8_told_56 : decode cX8_told 56 = .ok (.aload_n 0, 1) := by decide +kernel
theorem dX8_told_57 : decode cX8_told 57 = .ok (.getfield 61, 3) := by decide +kernel
theorem dX8_told_60 : decode cX8_told 60 = .ok (.ifCond .eq 7, 3) := by decide +kernel
theorem dX8_told_63 : decode cX8_told 63 = .ok (.lconst 1, 1) := by decide +kernel
theorem dX8_told_64 : decode cX8_told 64 = .ok (.goto 4, 3) := by decide +kernel
theorem dX8_told_67 : decode cX8_told 67 = .ok (.lconst 0, 1) := by decide +kernel
theorem dX8_told_68 : decode cX8_told 68 = .ok (.lreturn, 1) := by decide +kernel
theorem dX8_told_69 : decode cX8_told 69 = .ok (.aload_n 0, 1) := by decide +kernel
theorem dX8_told_70 : decode cX8_told 70 = .ok (.getfield 65, 3) := by decide +kernel
theorem dX8_told_73 : decode cX8_told 73 = .ok (.lreturn, 1) := by decide +kernel
theorem dX8_told_74 : decode cX8_told 74 = .ok (.aload_n 0, 1) := by decide +kernel
theorem dX8_told_75 : decode cX8_told 75 = .ok (.getfield 69, 3) := by decide +kernel
theorem dX8_told_78 : decode cX8_told 78 = .ok (.ifCond .eq 7, 3) := by decide +kernel
theorem dX8_told_81 : decode cX8_told 81 = .ok (.lconst 1, 1) := by decide +kernel
theorem dX8_told_82 : decode cX8_told 82 = .ok (.goto 4, 3) := by decide +kernel
theorem dX8_told_85 : decode cX8_told 85 = .ok (.lconst 0, 1) := by decide +kernel
theorem dX8_told_86 : decode cX8_told 86 = .ok (.lreturn, 1) := by decide +kernel
theorem dX8_told_87 : decode cX8_told 87 = .ok (.aload_n 0, 1) := by decide +kernel
theorem dX8_told_88 : decode cX8_told 88 = .ok (.getfield 72, 3) := by decide +kernel
theorem dX8_told_91 : decode cX8_told 91 = .ok (.lreturn, 1) := by decide +kernel
theorem dX8_told_92 : decode cX8_told 92 = .ok (.aload_n 0, 1) := by decide +kernel
theorem dX8_told_93 : decode cX8_told 93 = .ok (.getfield 75, 3) := by decide +kernel
theorem dX8_told_96 : decode cX8_told 96 = .ok (.ifCond .eq 7, 3) := by decide +kernel
theorem dX8_told_99 : decode cX8_told 99 = .ok (.lconst 1, 1) := by decide +kernel
theorem dX8_told_100 : decode cX8_told 100 = .ok (.goto 4, 3) := by decide +kernel
theorem dX8_told_103 : decode cX8_told 103 = .ok (.lconst 0, 1) := by decide +kernel
theorem dX8_told_104 : decode cX8_told 104 = .ok (.lreturn, 1) := by decide +kernel
theorem dX8_told_105 : decode cX8_told 105 = .ok (.aload_n 0, 1) := by decide +kernel
theorem dX8_told_106 : decode cX8_told 106 = .ok (.getfield 78, 3) := by decide +kernel
theorem dX8_told_109 : decode cX8_told 109 = .ok (.i2l, 1) := by decide +kernel
theorem dX8_told_110 : decode cX8_told 110 = .ok (.lreturn, 1) := by decide +kernel
theorem dX8_told_111 : decode cX8_told 111 = .ok (.aload_n 0, 1) := by decide +kernel
theorem dX8_told_112 : decode cX8_told 112 = .ok (.getfield 81, 3) := by decide +kernel
theorem dX8_told_115 : decode cX8_told 115 = .ok (.i2l, 1) := by decide +kernel
theorem dX8_told_116 : decode cX8_told 116 = .ok (.lreturn, 1) := by decide +kernel
theorem dX8_told_117 : decode cX8_told 117 = .ok (.aload_n 0, 1) := by decide +kernel
theorem dX8_told_118 : decode cX8_told 118 = .ok (.getfield 84, 3) := by decide +kernel
theorem dX8_told_121 : decode cX8_told 121 = .ok (.i2l, 1) := by decide +kernel
theorem dX8_told_122 : decode cX8_told 122 = .ok (.lreturn, 1) := by decide +kernel
theorem dX8_told_123 : decode cX8_told 123 = .ok (.aload_n 0, 1) := by decide +kernel
theorem dX8_told_124 : decode cX8_told 124 = .ok (.getfield 87, 3) := by decide +kernel
theorem dX8_told_127 : decode cX8_told 127 = .ok (.i2l, 1) := by decide +kernel
theorem dX8_told_128 : decode cX8_told 128 = .ok (.lreturn, 1) := by decide +kernel
theorem dX8_told_129 : decode cX8_told 129 = .ok (.aload_n 0, 1) := by decide +kernel
theorem dX8_told_130 : decode cX8_told 130 = .ok (.getfield 43, 3) := by decide +kernel
theorem dX8_told_133 : decode cX8_told 133 = .ok (.i2l, 1) := by decide +kernel
theorem dX8_told_134 : decode cX8_told 134 = .ok (.lreturn, 1) := by decide +kernel
theorem dX8_told_135 : decode cX8_told 135 = .ok (.ldc2_w 59, 3) := by decide +kernel
theorem dX8_told_138 : decode cX8_told 138 = .ok (.lreturn, 1) := by decide +kernel
set_option maxRecDepth 100000 in
theorem ggX8_set_X8_in : GoodIn wsX8_set wsX8_in := goodIn_r _ [14] rfl (by decide +kernel)
set_option maxRecDepth 100000 in
theorem gX8_set_X8_in : GoodIn wsX8_set (va_wsS RX8 49 yX8_in wsX8_in) := goodIn_app (goodIn_r _ [11, 12, 13] rfl (by decide +kernel)) ggX8_set_X8_in
theorem dX8_set_0 : decode cX8_set 0 = .ok (.iload_n 1, 1) := by decide +kernel
theorem dX8_set_1 : decode cX8_set 1 = .ok (.ifCond .eq 13, 3) := by decide +kernel
theorem dX8_set_4 : decode cX8_set 4 = .ok (.iload_n 1, 1) := by decide +kernel
theorem dX8_set_5 : decode cX8_set 5 = .ok (.iconst 2, 1) := by decide +kernel
theorem dX8_set_6 : decode cX8_set 6 = .ok (.if_icmp .eq 8, 3) := by decide +kernel
theorem dX8_set_9 : decode cX8_set 9 = .ok (.iload_n 1, 1) := by decide +kernel
theorem dX8_set_10 : decode cX8_set 10 = .ok (.iconst 4, 1) := by decide +kernel
theorem dX8_set_11 : decode cX8_set 11 = .ok (.if_icmp .ne 7, 3) := by decide +kernel
theorem dX8_set_14 : decode cX8_set 14 = .ok (.lconst 1, 1) := by decide +kernel
theorem dX8_set_15 : decode cX8_set 15 = .ok (.goto 28, 3) := by decide +kernel
theorem dX8_set_18 : decode cX8_set 18 = .ok (.iload_n 1, 1) := by decide +kernel
theorem dX8_set_19 : decode cX8_set 19 = .ok (.iconst 1, 1) := by decide +kernel
theorem dX8_set_20 : decode cX8_set 20 = .ok (.if_icmp .ne 9, 3) := by decide +kernel
theorem dX8_set_23 : decode cX8_set 23 = .ok (.ldc2_w 90, 3) := by decide +kernel
theorem dX8_set_26 : decode cX8_set 26 = .ok (.goto 17, 3) := by decide +kernel
theorem dX8_set_29 : decode cX8_set 29 = .ok (.iload_n 1, 1) := by decide +kernel
theorem dX8_set_30 : decode cX8_set 30 = .ok (.iconst 3, 1) := by decide +kernel
theorem dX8_set_31 : decode cX8_set 31 = .ok (.if_icmp .ne 9, 3) := by decide +kernel
theorem dX8_set_34 : decode cX8_set 34 = .ok (.ldc2_w 92, 3) := by decide +kernel
theorem dX8_set_37 : decode cX8_set 37 = .ok (.goto 6, 3) := by decide +kernel
theorem dX8_set_40 : decode cX8_set 40 = .ok (.ldc2_w 47, 3) := by decide +kernel
theorem dX8_set_43 : decode cX8_set 43 = .ok (.lstore 4, 2) := by decide +kernel
theorem dX8_set_45 : decode cX8_set 45 = .ok (.iload_n 1, 1) := by decide +kernel
theorem dX8_set_46 : decode cX8_set 46 = .ok (.i2l, 1) := by decide +kernel
theorem dX8_set_47 : decode cX8_set 47 = .ok (.lconst 0, 1) := by decide +kernel
theorem dX8_set_48 : decode cX8_set 48 = .ok (.ldc2_w 94, 3) := by decide +kernel
theorem dX8_set_51 : decode cX8_set 51 = .ok (.invokestatic 49, 3) := by decide +kernel
theorem dX8_set_54 : decode cX8_set 54 = .ok (.ifCond .eq 13, 3) := by decide +kernel
theorem dX8_set_57 : decode cX8_set 57 = .ok (.lload_n 2, 1) := by decide +kernel
theorem dX8_set_58 : decode cX8_set 58 = .ok (.lconst 0, 1) := by decide +kernel
theorem dX8_set_59 : decode cX8_set 59 = .ok (.lload 4, 2) := by decide +kernel
theorem dX8_set_61 : decode cX8_set 61 = .ok (.invokestatic 49, 3) := by decide +kernel
theorem dX8_set_64 : decode cX8_set 64 = .ok (.ifCond .ne 5, 3) := by decide +kernel
theorem dX8_set_67 : decode cX8_set 67 = .ok (.iconst (-1), 1) := by decide +kernel
theorem dX8_set_68 : decode cX8_set 68 = .ok (.ireturn, 1) := by decide +kernel
theorem dX8_set_69 : decode cX8_set 69 = .ok (.iload_n 1, 1) := by decide +kernel
theorem dX8_set_70 : decode cX8_set 70 = .ok (.tableswitch 104 0 4 #[34, 52, 60, 78, 86], 34) := by decide +kernel
theorem dX8_set_104 : decode cX8_set 104 = .ok (.aload_n 0, 1) := by decide +kernel
theorem dX8_set_105 : decode cX8_set 105 = .ok (.lload_n 2, 1) := by decide +kernel
theorem dX8_set_106 : decode cX8_set 106 = .ok (.lconst 1, 1) := by decide +kernel
theorem dX8_set_107 : decode cX8_set 107 = .ok (.lcmp, 1) := by decide +kernel
theorem dX8_set_108 : decode cX8_set 108 = .ok (.ifCond .ne 7, 3) := by decide +kernel
theorem dX8_set_111 : decode cX8_set 111 = .ok (.iconst 1, 1) := by decide +kernel
theorem dX8_set_112 : decode cX8_set 112 = .ok (.goto 4, 3) := by decide +kernel
theorem dX8_set_115 : decode cX8_set 115 = .ok (.iconst 0, 1) := by decide +kernel
theorem dX8_set_116 : decode cX8_set 116 = .ok (.putfield 61, 3) := by decide +kernel
theorem dX8_set_119 : decode cX8_set 119 = .ok (.goto 61, 3) := by decide +kernel
theorem dX8_set_122 : decode cX8_set 122 = .ok (.aload_n 0, 1) := by decide +kernel
theorem dX8_set_123 : decode cX8_set 123 = .ok (.lload_n 2, 1) := by decide +kernel
theorem dX8_set_124 : decode cX8_set 124 = .ok (.putfield 65, 3) := by decide +kernel
theorem dX8_set_127 : decode cX8_set 127 = .ok (.goto 53, 3) := by decide +kernel
theorem dX8_set_130 : decode cX8_set 130 = .ok (.aload_n 0, 1) := by decide +kernel
theorem dX8_set_131 : decode cX8_set 131 = .ok (.lload_n 2, 1) := by decide +kernel
theorem dX8_set_132 : decode cX8_set 132 = .ok (.lconst 1, 1) := by decide +kernel
theorem dX8_set_133 : decode cX8_set 133 = .ok (.lcmp, 1) := by decide +kernel
theorem dX8_set_134 : decode cX8_set 134 = .ok (.ifCond .ne 7, 3) := by decide +kernel
theorem dX8_set_137 : decode cX8_set 137 = .ok (.iconst 1, 1) := by decide +kernel
theorem dX8_set_138 : decode cX8_set 138 = .ok (.goto 4, 3) := by decide +kernel
theorem dX8_set_141 : decode cX8_set 141 = .ok (.iconst 0, 1) := by decide +kernel
theorem dX8_set_142 : decode cX8_set 142 = .ok (.putfield 69, 3) := by decide +kernel
theorem dX8_set_145 : decode cX8_set 145 = .ok (.goto 35, 3) := by decide +kernel
theorem dX8_set_148 : decode cX8_set 148 = .ok (.aload_n 0, 1) := by decide +kernel
theorem dX8_set_149 : decode cX8_set 149 = .ok (.lload_n 2, 1) := by decide +kernel
theorem dX8_set_150 : decode cX8_set 150 = .ok (.putfield 72, 3) := by decide +kernel
theorem dX8_set_153 : decode cX8_set 153 = .ok (.goto 27, 3) := by decide +kernel
theorem dX8_set_156 : decode cX8_set 156 = .ok (.aload_n 0, 1) := by decide +kernel
theorem dX8_set_157 : decode cX8_set 157 = .ok (.lload_n 2, 1) := by decide +kernel
theorem dX8_set_158 : decode cX8_set 158 = .ok (.lconst 1, 1) := by decide +kernel
theorem dX8_set_159 : decode cX8_set 159 = .ok (.lcmp, 1) := by decide +kernel
theorem dX8_set_160 : decode cX8_set 160 = .ok (.ifCond .ne 7, 3) := by decide +kernel
theorem dX8_set_163 : decode cX8_set 163 = .ok (.iconst 1, 1) := by decide +kernel
theorem dX8_set_164 : decode cX8_set 164 = .ok (.goto 4, 3) := by decide +kernel
theorem dX8_set_167 : decode cX8_set 167 = .ok (.iconst 0, 1) := by decide +kernel
theorem dX8_set_168 : decode cX8_set 168 = .ok (.putfield 75, 3) := by decide +kernel
theorem dX8_set_171 : decode cX8_set 171 = .ok (.goto 9, 3) := by decide +kernel
theorem dX8_set_174 : decode cX8_set 174 = .ok (.aload_n 0, 1) := by decide +kernel
theorem dX8_set_175 : decode cX8_set 175 = .ok (.lload_n 2, 1) := by decide +kernel
theorem dX8_set_176 : decode cX8_set 176 = .ok (.l2i, 1) := by decide +kernel
theorem dX8_set_177 : decode cX8_set 177 = .ok (.putfield 78, 3) := by decide +kernel
theorem dX8_set_180 : decode cX8_set 180 = .ok (.iconst 1, 1) := by decide +kernel
theorem dX8_set_181 : decode cX8_set 181 = .ok (.ireturn, 1) := by decide +kernel
set_option maxRecDepth 100000 in
theorem ggX8_turn_X8_in : GoodIn wsX8_turn wsX8_in := goodIn_r _ [6] rfl (by decide +kernel)
set_option maxRecDepth 100000 in
theorem gX8_turn_X8_in : GoodIn wsX8_turn (va_wsS RX8 49 yX8_in wsX8_in) := goodIn_app (goodIn_r _ [3, 4, 5] rfl (by decide +kernel)) ggX8_turn_X8_in
theorem dX8_turn_0 : decode cX8_turn 0 = .ok (.iload_n 1, 1) := by decide +kernel
theorem dX8_turn_1 : decode cX8_turn 1 = .ok (.i2l, 1) := by decide +kernel
theorem dX8_turn_2 : decode cX8_turn 2 = .ok (.lconst 1, 1) := by decide +kernel
theorem dX8_turn_3 : decode cX8_turn 3 = .ok (.ldc2_w 96, 3) := by decide +kernel
theorem dX8_turn_6 : decode cX8_turn 6 = .ok (.invokestatic 49, 3) := by decide +kernel
theorem dX8_turn_9 : decode cX8_turn 9 = .ok (.ifCond .ne 5, 3) := by decide +kernel
theorem dX8_turn_12 : decode cX8_turn 12 = .ok (.iconst (-1), 1) := by decide +kernel
theorem dX8_turn_13 : decode cX8_turn 13 = .ok (.ireturn, 1) := by decide +kernel
theorem dX8_turn_14 : decode cX8_turn 14 = .ok (.aload_n 0, 1) := by decide +kernel
theorem dX8_turn_15 : decode cX8_turn 15 = .ok (.getfield 98, 3) := by decide +kernel
theorem dX8_turn_18 : decode cX8_turn 18 = .ok (.iload_n 1, 1) := by decide +kernel
theorem dX8_turn_19 : decode cX8_turn 19 = .ok (.iconst 1, 1) := by decide +kernel
theorem dX8_turn_20 : decode cX8_turn 20 = .ok (.isub, 1) := by decide +kernel
theorem dX8_turn_21 : decode cX8_turn 21 = .ok (.ishr, 1) := by decide +kernel
theorem dX8_turn_22 : decode cX8_turn 22 = .ok (.iconst 1, 1) := by decide +kernel
theorem dX8_turn_23 : decode cX8_turn 23 = .ok (.iand, 1) := by decide +kernel
theorem dX8_turn_24 : decode cX8_turn 24 = .ok (.istore_n 3, 1) := by decide +kernel
theorem dX8_turn_25 : decode cX8_turn 25 = .ok (.aload_n 0, 1) := by decide +kernel
theorem dX8_turn_26 : decode cX8_turn 26 = .ok (.iload_n 2, 1) := by decide +kernel
theorem dX8_turn_27 : decode cX8_turn 27 = .ok (.ifCond .eq 16, 3) := by decide +kernel
theorem dX8_turn_30 : decode cX8_turn 30 = .ok (.aload_n 0, 1) := by decide +kernel
theorem dX8_turn_31 : decode cX8_turn 31 = .ok (.getfield 98, 3) := by decide +kernel
theorem dX8_turn_34 : decode cX8_turn 34 = .ok (.iconst 1, 1) := by decide +kernel
theorem dX8_turn_35 : decode cX8_turn 35 = .ok (.iload_n 1, 1) := by decide +kernel
theorem dX8_turn_36 : decode cX8_turn 36 = .ok (.iconst 1, 1) := by decide +kernel
theorem dX8_turn_37 : decode cX8_turn 37 = .ok (.isub, 1) := by decide +kernel
theorem dX8_turn_38 : decode cX8_turn 38 = .ok (.ishl, 1) := by decide +kernel
theorem dX8_turn_39 : decode cX8_turn 39 = .ok (.ior, 1) := by decide +kernel
theorem dX8_turn_40 : decode cX8_turn 40 = .ok (.goto 15, 3) := by decide +kernel
theorem dX8_turn_43 : decode cX8_turn 43 = .ok (.aload_n 0, 1) := by decide +kernel
theorem dX8_turn_44 : decode cX8_turn 44 = .ok (.getfield 98, 3) := by decide +kernel
theorem dX8_turn_47 : decode cX8_turn 47 = .ok (.iconst 1, 1) := by decide +kernel
theorem dX8_turn_48 : decode cX8_turn 48 = .ok (.iload_n 1, 1) := by decide +kernel
theorem dX8_turn_49 : decode cX8_turn 49 = .ok (.iconst 1, 1) := by decide +kernel
theorem dX8_turn_50 : decode cX8_turn 50 = .ok (.isub, 1) := by decide +kernel
theorem dX8_turn_51 : decode cX8_turn 51 = .ok (.ishl, 1) := by decide +kernel
theorem dX8_turn_52 : decode cX8_turn 52 = .ok (.iconst (-1), 1) := by decide +kernel
theorem dX8_turn_53 : decode cX8_turn 53 = .ok (.ixor, 1) := by decide +kernel
theorem dX8_turn_54 : decode cX8_turn 54 = .ok (.iand, 1) := by decide +kernel
theorem dX8_turn_55 : decode cX8_turn 55 = .ok (.putfield 98, 3) := by decide +kernel
theorem dX8_turn_58 : decode cX8_turn 58 = .ok (.iload_n 3, 1) := by decide +kernel
theorem dX8_turn_59 : decode cX8_turn 59 = .ok (.ireturn, 1) := by decide +kernel
set_option maxRecDepth 100000 in
theorem ggX8_isTape_X8_in : GoodIn wsX8_isTape wsX8_in := goodIn_r _ [5] rfl (by decide +kernel)
set_option maxRecDepth 100000 in
theorem gX8_isTape_X8_in : GoodIn wsX8_isTape (va_wsS RX8 49 yX8_in wsX8_in) := goodIn_app (goodIn_r _ [2, 3, 4] rfl (by decide +kernel)) ggX8_isTape_X8_in
theorem dX8_isTape_0 : decode cX8_isTape 0 = .ok (.iload_n 1, 1) := by decide +kernel
theorem dX8_isTape_1 : decode cX8_isTape 1 = .ok (.i2l, 1) := by decide +kernel
theorem dX8_isTape_2 : decode cX8_isTape 2 = .ok (.lconst 0, 1) := by decide +kernel
theorem dX8_isTape_3 : decode cX8_isTape 3 = .ok (.ldc2_w 101, 3) := by decide +kernel
theorem dX8_isTape_6 : decode cX8_isTape 6 = .ok (.invokestatic 49, 3) := by decide +kernel
theorem dX8_isTape_9 : decode cX8_isTape 9 = .ok (.ireturn, 1) := by decide +kernel
set_option maxRecDepth 100000 in
theorem ggX8_item_X8_isTape : GoodIn wsX8_item wsX8_isTape := goodIn_r _ [9, 10, 11, 12, 8, 13] rfl (by decide +kernel)
set_option maxRecDepth 100000 in
theorem gX8_item_X8_isTape : GoodIn wsX8_item (wsV RX8 103 RX8 yX8_isTape wsX8_isTape) := goodIn_app (goodIn_r _ [5, 6, 7, 8] rfl (by decide +kernel)) ggX8_item_X8_isTape
set_option maxRecDepth 100000 in
theorem ggX8_item_X8_in : GoodIn wsX8_item wsX8_in := goodIn_r _ [13] rfl (by decide +kernel)
set_option maxRecDepth 100000 in
theorem gX8_item_X8_in : GoodIn wsX8_item (va_wsS RX8 49 yX8_in wsX8_in) := goodIn_app (goodIn_r _ [11, 12, 8] rfl (by decide +kernel)) ggX8_item_X8_in
theorem dX8_item_0 : decode cX8_item 0 = .ok (.aload_n 0, 1) := by decide +kernel
theorem dX8_item_1 : decode cX8_item 1 = .ok (.iload_n 1, 1) := by decide +kernel
theorem dX8_item_2 : decode cX8_item 2 = .ok (.invokevirtual 103, 3) := by decide +kernel
theorem dX8_item_5 : decode cX8_item 5 = .ok (.ifCond .ne 9, 3) := by decide +kernel
theorem dX8_item_8 : decode cX8_item 8 = .ok (.ldc2_w 59, 3) := by decide +kernel
theorem dX8_item_11 : decode cX8_item 11 = .ok (.goto 39, 3) := by decide +kernel
theorem dX8_item_14 : decode cX8_item 14 = .ok (.iload_n 2, 1) := by decide +kernel
theorem dX8_item_15 : decode cX8_item 15 = .ok (.i2l, 1) := by decide +kernel
theorem dX8_item_16 : decode cX8_item 16 = .ok (.lconst 0, 1) := by decide +kernel
theorem dX8_item_17 : decode cX8_item 17 = .ok (.aload_n 0, 1) := by decide +kernel
theorem dX8_item_18 : decode cX8_item 18 = .ok (.getfield 17, 3) := by decide +kernel
theorem dX8_item_21 : decode cX8_item 21 = .ok (.iload_n 1, 1) := by decide +kernel
theorem dX8_item_22 : decode cX8_item 22 = .ok (.iaload, 1) := by decide +kernel
theorem dX8_item_23 : decode cX8_item 23 = .ok (.iconst 1, 1) := by decide +kernel
theorem dX8_item_24 : decode cX8_item 24 = .ok (.isub, 1) := by decide +kernel
theorem dX8_item_25 : decode cX8_item 25 = .ok (.i2l, 1) := by decide +kernel
theorem dX8_item_26 : decode cX8_item 26 = .ok (.invokestatic 49, 3) := by decide +kernel
theorem dX8_item_29 : decode cX8_item 29 = .ok (.ifCond .eq 18, 3) := by decide +kernel
theorem dX8_item_32 : decode cX8_item 32 = .ok (.aload_n 0, 1) := by decide +kernel
theorem dX8_item_33 : decode cX8_item 33 = .ok (.getfield 13, 3) := by decide +kernel
theorem dX8_item_36 : decode cX8_item 36 = .ok (.sipush 300, 3) := by decide +kernel
theorem dX8_item_39 : decode cX8_item 39 = .ok (.iload_n 1, 1) := by decide +kernel
theorem dX8_item_40 : decode cX8_item 40 = .ok (.imul, 1) := by decide +kernel
theorem dX8_item_41 : decode cX8_item 41 = .ok (.iload_n 2, 1) := by decide +kernel
theorem dX8_item_42 : decode cX8_item 42 = .ok (.iadd, 1) := by decide +kernel
theorem dX8_item_43 : decode cX8_item 43 = .ok (.laload, 1) := by decide +kernel
theorem dX8_item_44 : decode cX8_item 44 = .ok (.goto 6, 3) := by decide +kernel
theorem dX8_item_47 : decode cX8_item 47 = .ok (.ldc2_w 107, 3) := by decide +kernel
theorem dX8_item_50 : decode cX8_item 50 = .ok (.lreturn, 1) := by decide +kernel
set_option maxRecDepth 100000 in
theorem ggX8_lay_X8_isTape : GoodIn wsX8_lay wsX8_isTape := goodIn_r _ [10, 11, 12, 13, 9, 14] rfl (by decide +kernel)
set_option maxRecDepth 100000 in
theorem gX8_lay_X8_isTape : GoodIn wsX8_lay (wsV RX8 103 RX8 yX8_isTape wsX8_isTape) := goodIn_app (goodIn_r _ [6, 7, 8, 9] rfl (by decide +kernel)) ggX8_lay_X8_isTape
set_option maxRecDepth 100000 in
theorem ggX8_lay_X8_in : GoodIn wsX8_lay wsX8_in := goodIn_r _ [14] rfl (by decide +kernel)
set_option maxRecDepth 100000 in
theorem gX8_lay_X8_in : GoodIn wsX8_lay (va_wsS RX8 49 yX8_in wsX8_in) := goodIn_app (goodIn_r _ [12, 13, 9] rfl (by decide +kernel)) ggX8_lay_X8_in
theorem dX8_lay_0 : decode cX8_lay 0 = .ok (.aload_n 0, 1) := by decide +kernel
theorem dX8_lay_1 : decode cX8_lay 1 = .ok (.iload_n 1, 1) := by decide +kernel
theorem dX8_lay_2 : decode cX8_lay 2 = .ok (.invokevirtual 103, 3) := by decide +kernel
theorem dX8_lay_5 : decode cX8_lay 5 = .ok (.ifCond .eq 30, 3) := by decide +kernel
theorem dX8_lay_8 : decode cX8_lay 8 = .ok (.lload_n 2, 1) := by decide +kernel
theorem dX8_lay_9 : decode cX8_lay 9 = .ok (.lconst 0, 1) := by decide +kernel
theorem dX8_lay_10 : decode cX8_lay 10 = .ok (.ldc2_w 109, 3) := by decide +kernel
theorem dX8_lay_13 : decode cX8_lay 13 = .ok (.invokestatic 49, 3) := by decide +kernel
theorem dX8_lay_16 : decode cX8_lay 16 = .ok (.ifCond .ne 21, 3) := by decide +kernel
theorem dX8_lay_19 : decode cX8_lay 19 = .ok (.lload_n 2, 1) := by decide +kernel
theorem dX8_lay_20 : decode cX8_lay 20 = .ok (.ldc2_w 111, 3) := by decide +kernel
theorem dX8_lay_23 : decode cX8_lay 23 = .ok (.lcmp, 1) := by decide +kernel
theorem dX8_lay_24 : decode cX8_lay 24 = .ok (.ifCond .eq 13, 3) := by decide +kernel
theorem dX8_lay_27 : decode cX8_lay 27 = .ok (.lload_n 2, 1) := by decide +kernel
theorem dX8_lay_28 : decode cX8_lay 28 = .ok (.ldc2_w 113, 3) := by decide +kernel
theorem dX8_lay_31 : decode cX8_lay 31 = .ok (.lcmp, 1) := by decide +kernel
theorem dX8_lay_32 : decode cX8_lay 32 = .ok (.ifCond .eq 5, 3) := by decide +kernel
theorem dX8_lay_35 : decode cX8_lay 35 = .ok (.iconst (-1), 1) := by decide +kernel
theorem dX8_lay_36 : decode cX8_lay 36 = .ok (.ireturn, 1) := by decide +kernel
theorem dX8_lay_37 : decode cX8_lay 37 = .ok (.aload_n 0, 1) := by decide +kernel
theorem dX8_lay_38 : decode cX8_lay 38 = .ok (.getfield 17, 3) := by decide +kernel
theorem dX8_lay_41 : decode cX8_lay 41 = .ok (.iload_n 1, 1) := by decide +kernel
theorem dX8_lay_42 : decode cX8_lay 42 = .ok (.iaload, 1) := by decide +kernel
theorem dX8_lay_43 : decode cX8_lay 43 = .ok (.sipush 300, 3) := by decide +kernel
theorem dX8_lay_46 : decode cX8_lay 46 = .ok (.if_icmp .ne 6, 3) := by decide +kernel
theorem dX8_lay_49 : decode cX8_lay 49 = .ok (.bipush (-2), 2) := by decide +kernel
theorem dX8_lay_51 : decode cX8_lay 51 = .ok (.ireturn, 1) := by decide +kernel
theorem dX8_lay_52 : decode cX8_lay 52 = .ok (.aload_n 0, 1) := by decide +kernel
theorem dX8_lay_53 : decode cX8_lay 53 = .ok (.getfield 13, 3) := by decide +kernel
theorem dX8_lay_56 : decode cX8_lay 56 = .ok (.sipush 300, 3) := by decide +kernel
theorem dX8_lay_59 : decode cX8_lay 59 = .ok (.iload_n 1, 1) := by decide +kernel
theorem dX8_lay_60 : decode cX8_lay 60 = .ok (.imul, 1) := by decide +kernel
theorem dX8_lay_61 : decode cX8_lay 61 = .ok (.aload_n 0, 1) := by decide +kernel
theorem dX8_lay_62 : decode cX8_lay 62 = .ok (.getfield 17, 3) := by decide +kernel
theorem dX8_lay_65 : decode cX8_lay 65 = .ok (.iload_n 1, 1) := by decide +kernel
theorem dX8_lay_66 : decode cX8_lay 66 = .ok (.iaload, 1) := by decide +kernel
theorem dX8_lay_67 : decode cX8_lay 67 = .ok (.iadd, 1) := by decide +kernel
theorem dX8_lay_68 : decode cX8_lay 68 = .ok (.lload_n 2, 1) := by decide +kernel
theorem dX8_lay_69 : decode cX8_lay 69 = .ok (.lastore, 1) := by decide +kernel
theorem dX8_lay_70 : decode cX8_lay 70 = .ok (.aload_n 0, 1) := by decide +kernel
theorem dX8_lay_71 : decode cX8_lay 71 = .ok (.getfield 17, 3) := by decide +kernel
theorem dX8_lay_74 : decode cX8_lay 74 = .ok (.iload_n 1, 1) := by decide +kernel
theorem dX8_lay_75 : decode cX8_lay 75 = .ok (.dup2, 1) := by decide +kernel
theorem dX8_lay_76 : decode cX8_lay 76 = .ok (.iaload, 1) := by decide +kernel
theorem dX8_lay_77 : decode cX8_lay 77 = .ok (.iconst 1, 1) := by decide +kernel
theorem dX8_lay_78 : decode cX8_lay 78 = .ok (.iadd, 1) := by decide +kernel
theorem dX8_lay_79 : decode cX8_lay 79 = .ok (.iastore, 1) := by decide +kernel
theorem dX8_lay_80 : decode cX8_lay 80 = .ok (.aload_n 0, 1) := by decide +kernel
theorem dX8_lay_81 : decode cX8_lay 81 = .ok (.getfield 17, 3) := by decide +kernel
theorem dX8_lay_84 : decode cX8_lay 84 = .ok (.iload_n 1, 1) := by decide +kernel
theorem dX8_lay_85 : decode cX8_lay 85 = .ok (.iaload, 1) := by decide +kernel
theorem dX8_lay_86 : decode cX8_lay 86 = .ok (.ireturn, 1) := by decide +kernel
set_option maxRecDepth 100000 in
theorem ggX8_stands_X8_isTape : GoodIn wsX8_stands wsX8_isTape := goodIn_r _ [6, 7, 8, 9, 5, 10] rfl (by decide +kernel)
set_option maxRecDepth 100000 in
theorem gX8_stands_X8_isTape : GoodIn wsX8_stands (wsV RX8 103 RX8 yX8_isTape wsX8_isTape) := goodIn_app (goodIn_r _ [2, 3, 4, 5] rfl (by decide +kernel)) ggX8_stands_X8_isTape
theorem dX8_stands_0 : decode cX8_stands 0 = .ok (.aload_n 0, 1) := by decide +kernel
theorem dX8_stands_1 : decode cX8_stands 1 = .ok (.iload_n 1, 1) := by decide +kernel
theorem dX8_stands_2 : decode cX8_stands 2 = .ok (.invokevirtual 103, 3) := by decide +kernel
theorem dX8_stands_5 : decode cX8_stands 5 = .ok (.ifCond .eq 12, 3) := by decide +kernel
theorem dX8_stands_8 : decode cX8_stands 8 = .ok (.aload_n 0, 1) := by decide +kernel
theorem dX8_stands_9 : decode cX8_stands 9 = .ok (.getfield 20, 3) := by decide +kernel
theorem dX8_stands_12 : decode cX8_stands 12 = .ok (.iload_n 1, 1) := by decide +kernel
theorem dX8_stands_13 : decode cX8_stands 13 = .ok (.iaload, 1) := by decide +kernel
theorem dX8_stands_14 : decode cX8_stands 14 = .ok (.goto 4, 3) := by decide +kernel
theorem dX8_stands_17 : decode cX8_stands 17 = .ok (.iconst (-1), 1) := by decide +kernel
theorem dX8_stands_18 : decode cX8_stands 18 = .ok (.ireturn, 1) := by decide +kernel
set_option maxRecDepth 100000 in
theorem ggX8_blank_X8_isTape : GoodIn wsX8_blank wsX8_isTape := goodIn_r _ [9, 10, 11, 12, 8, 13] rfl (by decide +kernel)
set_option maxRecDepth 100000 in
theorem gX8_blank_X8_isTape : GoodIn wsX8_blank (wsV RX8 103 RX8 yX8_isTape wsX8_isTape) := goodIn_app (goodIn_r _ [5, 6, 7, 8] rfl (by decide +kernel)) ggX8_blank_X8_isTape
theorem dX8_blank_0 : decode cX8_blank 0 = .ok (.aload_n 0, 1) := by decide +kernel
theorem dX8_blank_1 : decode cX8_blank 1 = .ok (.iload_n 1, 1) := by decide +kernel
theorem dX8_blank_2 : decode cX8_blank 2 = .ok (.invokevirtual 103, 3) := by decide +kernel
theorem dX8_blank_5 : decode cX8_blank 5 = .ok (.ifCond .ne 5, 3) := by decide +kernel
theorem dX8_blank_8 : decode cX8_blank 8 = .ok (.iconst (-1), 1) := by decide +kernel
theorem dX8_blank_9 : decode cX8_blank 9 = .ok (.ireturn, 1) := by decide +kernel
theorem dX8_blank_10 : decode cX8_blank 10 = .ok (.aload_n 0, 1) := by decide +kernel
theorem dX8_blank_11 : decode cX8_blank 11 = .ok (.getfield 17, 3) := by decide +kernel
theorem dX8_blank_14 : decode cX8_blank 14 = .ok (.iload_n 1, 1) := by decide +kernel
theorem dX8_blank_15 : decode cX8_blank 15 = .ok (.iaload, 1) := by decide +kernel
theorem dX8_blank_16 : decode cX8_blank 16 = .ok (.istore_n 2, 1) := by decide +kernel
theorem dX8_blank_17 : decode cX8_blank 17 = .ok (.aload_n 0, 1) := by decide +kernel
theorem dX8_blank_18 : decode cX8_blank 18 = .ok (.getfield 17, 3) := by decide +kernel
theorem dX8_blank_21 : decode cX8_blank 21 = .ok (.iload_n 1, 1) := by decide +kernel
theorem dX8_blank_22 : decode cX8_blank 22 = .ok (.iconst 0, 1) := by decide +kernel
theorem dX8_blank_23 : decode cX8_blank 23 = .ok (.iastore, 1) := by decide +kernel
theorem dX8_blank_24 : decode cX8_blank 24 = .ok (.aload_n 0, 1) := by decide +kernel
theorem dX8_blank_25 : decode cX8_blank 25 = .ok (.getfield 20, 3) := by decide +kernel
theorem dX8_blank_28 : decode cX8_blank 28 = .ok (.iload_n 1, 1) := by decide +kernel
theorem dX8_blank_29 : decode cX8_blank 29 = .ok (.iconst 0, 1) := by decide +kernel
theorem dX8_blank_30 : decode cX8_blank 30 = .ok (.iastore, 1) := by decide +kernel
theorem dX8_blank_31 : decode cX8_blank 31 = .ok (.aload_n 0, 1) := by decide +kernel
theorem dX8_blank_32 : decode cX8_blank 32 = .ok (.aload_n 0, 1) := by decide +kernel
theorem dX8_blank_33 : decode cX8_blank 33 = .ok (.getfield 115, 3) := by decide +kernel
theorem dX8_blank_36 : decode cX8_blank 36 = .ok (.ifCond .eq 18, 3) := by decide +kernel
theorem dX8_blank_39 : decode cX8_blank 39 = .ok (.aload_n 0, 1) := by decide +kernel
theorem dX8_blank_40 : decode cX8_blank 40 = .ok (.getfield 43, 3) := by decide +kernel
theorem dX8_blank_43 : decode cX8_blank 43 = .ok (.bipush 9, 2) := by decide +kernel
theorem dX8_blank_45 : decode cX8_blank 45 = .ok (.iload_n 1, 1) := by decide +kernel
theorem dX8_blank_46 : decode cX8_blank 46 = .ok (.iadd, 1) := by decide +kernel
theorem dX8_blank_47 : decode cX8_blank 47 = .ok (.if_icmp .eq 7, 3) := by decide +kernel
theorem dX8_blank_50 : decode cX8_blank 50 = .ok (.iconst 1, 1) := by decide +kernel
theorem dX8_blank_51 : decode cX8_blank 51 = .ok (.goto 4, 3) := by decide +kernel
theorem dX8_blank_54 : decode cX8_blank 54 = .ok (.iconst 0, 1) := by decide +kernel
theorem dX8_blank_55 : decode cX8_blank 55 = .ok (.putfield 115, 3) := by decide +kernel
theorem dX8_blank_58 : decode cX8_blank 58 = .ok (.iload_n 2, 1) := by decide +kernel
theorem dX8_blank_59 : decode cX8_blank 59 = .ok (.ireturn, 1) := by decide +kernel
set_option maxRecDepth 100000 in
theorem ggX8_drum_X8_in : GoodIn wsX8_drum wsX8_in := goodIn_r _ [7] rfl (by decide +kernel)
set_option maxRecDepth 100000 in
theorem gX8_drum_X8_in : GoodIn wsX8_drum (va_wsS RX8 49 yX8_in wsX8_in) := goodIn_app (goodIn_r _ [4, 5, 6] rfl (by decide +kernel)) ggX8_drum_X8_in
theorem dX8_drum_0 : decode cX8_drum 0 = .ok (.iload_n 1, 1) := by decide +kernel
theorem dX8_drum_1 : decode cX8_drum 1 = .ok (.i2l, 1) := by decide +kernel
theorem dX8_drum_2 : decode cX8_drum 2 = .ok (.lconst 0, 1) := by decide +kernel
theorem dX8_drum_3 : decode cX8_drum 3 = .ok (.ldc2_w 118, 3) := by decide +kernel
theorem dX8_drum_6 : decode cX8_drum 6 = .ok (.invokestatic 49, 3) := by decide +kernel
theorem dX8_drum_9 : decode cX8_drum 9 = .ok (.ifCond .eq 12, 3) := by decide +kernel
theorem dX8_drum_12 : decode cX8_drum 12 = .ok (.aload_n 0, 1) := by decide +kernel
theorem dX8_drum_13 : decode cX8_drum 13 = .ok (.getfield 23, 3) := by decide +kernel
theorem dX8_drum_16 : decode cX8_drum 16 = .ok (.iload_n 1, 1) := by decide +kernel
theorem dX8_drum_17 : decode cX8_drum 17 = .ok (.laload, 1) := by decide +kernel
theorem dX8_drum_18 : decode cX8_drum 18 = .ok (.goto 6, 3) := by decide +kernel
theorem dX8_drum_21 : decode cX8_drum 21 = .ok (.ldc2_w 59, 3) := by decide +kernel
theorem dX8_drum_24 : decode cX8_drum 24 = .ok (.lreturn, 1) := by decide +kernel
set_option maxRecDepth 100000 in
theorem ggX8_endsRecord_X8_puts : GoodIn wsX8_endsRecord wsX8_puts := goodIn_r _ [8, 9, 10, 11, 12, 13, 14, 15, 16, 17, 18, 19, 20, 21, 22, 23, 24, 25, 26, 27, 28, 29, 30, 31, 32, 33, 34, 35, 36, 37, 38, 39, 40, 41, 42] rfl (by decide +kernel)
set_option maxRecDepth 100000 in
theorem gX8_endsRecord_X8_puts : GoodIn wsX8_endsRecord (wsV RX8 120 RX8 yX8_puts wsX8_puts) := goodIn_app (goodIn_r _ [4, 5, 6, 7] rfl (by decide +kernel)) ggX8_endsRecord_X8_puts
theorem dX8_endsRecord_0 : decode cX8_endsRecord 0 = .ok (.aload_n 0, 1) := by decide +kernel
theorem dX8_endsRecord_1 : decode cX8_endsRecord 1 = .ok (.getfield 115, 3) := by decide +kernel
theorem dX8_endsRecord_4 : decode cX8_endsRecord 4 = .ok (.ifCond .ne 5, 3) := by decide +kernel
theorem dX8_endsRecord_7 : decode cX8_endsRecord 7 = .ok (.iconst 1, 1) := by decide +kernel
theorem dX8_endsRecord_8 : decode cX8_endsRecord 8 = .ok (.ireturn, 1) := by decide +kernel
theorem dX8_endsRecord_9 : decode cX8_endsRecord 9 = .ok (.aload_n 0, 1) := by decide +kernel
theorem dX8_endsRecord_10 : decode cX8_endsRecord 10 = .ok (.aload_n 0, 1) := by decide +kernel
theorem dX8_endsRecord_11 : decode cX8_endsRecord 11 = .ok (.getfield 43, 3) := by decide +kernel
theorem dX8_endsRecord_14 : decode cX8_endsRecord 14 = .ok (.bipush 9, 2) := by decide +kernel
theorem dX8_endsRecord_16 : decode cX8_endsRecord 16 = .ok (.isub, 1) := by decide +kernel
theorem dX8_endsRecord_17 : decode cX8_endsRecord 17 = .ok (.ldc2_w 111, 3) := by decide +kernel
theorem dX8_endsRecord_20 : decode cX8_endsRecord 20 = .ok (.invokevirtual 120, 3) := by decide +kernel
theorem dX8_endsRecord_23 : decode cX8_endsRecord 23 = .ok (.ifCond .ne 5, 3) := by decide +kernel
theorem dX8_endsRecord_26 : decode cX8_endsRecord 26 = .ok (.iconst 0, 1) := by decide +kernel
theorem dX8_endsRecord_27 : decode cX8_endsRecord 27 = .ok (.ireturn, 1) := by decide +kernel
theorem dX8_endsRecord_28 : decode cX8_endsRecord 28 = .ok (.aload_n 0, 1) := by decide +kernel
theorem dX8_endsRecord_29 : decode cX8_endsRecord 29 = .ok (.iconst 0, 1) := by decide +kernel
theorem dX8_endsRecord_30 : decode cX8_endsRecord 30 = .ok (.putfield 115, 3) := by decide +kernel
theorem dX8_endsRecord_33 : decode cX8_endsRecord 33 = .ok (.iconst 1, 1) := by decide +kernel
theorem dX8_endsRecord_34 : decode cX8_endsRecord 34 = .ok (.ireturn, 1) := by decide +kernel
set_option maxRecDepth 100000 in
theorem ggX8_stop_X8_endsRecord : GoodIn wsX8_stop wsX8_endsRecord := goodIn_td 40 (goodIn_r _ [8, 1, 2, 9, 10, 11, 12, 7, 13, 14, 15, 16, 17, 18, 19, 20, 21, 22, 23, 24, 25, 26, 27, 28, 29, 30, 31, 32, 33, 34, 35, 36, 37, 38, 39, 40, 41, 42, 43, 44] rfl (by decide +kernel)) (goodIn_r _ [45, 46, 47] rfl (by decide +kernel))
set_option maxRecDepth 100000 in
theorem gX8_stop_X8_endsRecord : GoodIn wsX8_stop (wsV RX8 124 RX8 yX8_endsRecord wsX8_endsRecord) := goodIn_app (goodIn_r _ [4, 5, 6, 7] rfl (by decide +kernel)) ggX8_stop_X8_endsRecord
theorem dX8_stop_0 : decode cX8_stop 0 = .ok (.aload_n 0, 1) := by decide +kernel
theorem dX8_stop_1 : decode cX8_stop 1 = .ok (.invokevirtual 124, 3) := by decide +kernel
theorem dX8_stop_4 : decode cX8_stop 4 = .ok (.istore_n 2, 1) := by decide +kernel
theorem dX8_stop_5 : decode cX8_stop 5 = .ok (.aload_n 0, 1) := by decide +kernel
theorem dX8_stop_6 : decode cX8_stop 6 = .ok (.iconst 0, 1) := by decide +kernel
theorem dX8_stop_7 : decode cX8_stop 7 = .ok (.putfield 115, 3) := by decide +kernel
theorem dX8_stop_10 : decode cX8_stop 10 = .ok (.aload_n 0, 1) := by decide +kernel
theorem dX8_stop_11 : decode cX8_stop 11 = .ok (.iconst 0, 1) := by decide +kernel
theorem dX8_stop_12 : decode cX8_stop 12 = .ok (.putfield 43, 3) := by decide +kernel
theorem dX8_stop_15 : decode cX8_stop 15 = .ok (.aload_n 0, 1) := by decide +kernel
theorem dX8_stop_16 : decode cX8_stop 16 = .ok (.iload_n 1, 1) := by decide +kernel
theorem dX8_stop_17 : decode cX8_stop 17 = .ok (.putfield 87, 3) := by decide +kernel
theorem dX8_stop_20 : decode cX8_stop 20 = .ok (.iload_n 1, 1) := by decide +kernel
theorem dX8_stop_21 : decode cX8_stop 21 = .ok (.ireturn, 1) := by decide +kernel
set_option maxRecDepth 100000 in
theorem ggX8_wants_X8_in : GoodIn wsX8_wants wsX8_in := goodIn_r _ [8] rfl (by decide +kernel)
set_option maxRecDepth 100000 in
theorem gX8_wants_X8_in : GoodIn wsX8_wants (va_wsS RX8 49 yX8_in wsX8_in) := goodIn_app (goodIn_r _ [5, 6, 7] rfl (by decide +kernel)) ggX8_wants_X8_in
theorem dX8_wants_0 : decode cX8_wants 0 = .ok (.iload_n 0, 1) := by decide +kernel
theorem dX8_wants_1 : decode cX8_wants 1 = .ok (.i2l, 1) := by decide +kernel
theorem dX8_wants_2 : decode cX8_wants 2 = .ok (.ldc2_w 94, 3) := by decide +kernel
theorem dX8_wants_5 : decode cX8_wants 5 = .ok (.ldc2_w 128, 3) := by decide +kernel
theorem dX8_wants_8 : decode cX8_wants 8 = .ok (.invokestatic 49, 3) := by decide +kernel
theorem dX8_wants_11 : decode cX8_wants 11 = .ok (.ifCond .ne 23, 3) := by decide +kernel
theorem dX8_wants_14 : decode cX8_wants 14 = .ok (.iload_n 0, 1) := by decide +kernel
theorem dX8_wants_15 : decode cX8_wants 15 = .ok (.i2l, 1) := by decide +kernel
theorem dX8_wants_16 : decode cX8_wants 16 = .ok (.ldc2_w 130, 3) := by decide +kernel
theorem dX8_wants_19 : decode cX8_wants 19 = .ok (.ldc2_w 132, 3) := by decide +kernel
theorem dX8_wants_22 : decode cX8_wants 22 = .ok (.invokestatic 49, 3) := by decide +kernel
theorem dX8_wants_25 : decode cX8_wants 25 = .ok (.ifCond .ne 9, 3) := by decide +kernel
theorem dX8_wants_28 : decode cX8_wants 28 = .ok (.iload_n 0, 1) := by decide +kernel
theorem dX8_wants_29 : decode cX8_wants 29 = .ok (.bipush 31, 2) := by decide +kernel
theorem dX8_wants_31 : decode cX8_wants 31 = .ok (.if_icmp .ne 7, 3) := by decide +kernel
theorem dX8_wants_34 : decode cX8_wants 34 = .ok (.iconst 1, 1) := by decide +kernel
theorem dX8_wants_35 : decode cX8_wants 35 = .ok (.goto 4, 3) := by decide +kernel
theorem dX8_wants_38 : decode cX8_wants 38 = .ok (.iconst 0, 1) := by decide +kernel
theorem dX8_wants_39 : decode cX8_wants 39 = .ok (.ireturn, 1) := by decide +kernel
set_option maxRecDepth 100000 in
theorem ggX8_act_X8_wants : GoodIn wsX8_act wsX8_wants := goodIn_r _ [12, 13, 14, 15, 16, 17, 18, 11, 19] rfl (by decide +kernel)
set_option maxRecDepth 100000 in
theorem gX8_act_X8_wants : GoodIn wsX8_act (va_wsS RX8 161 yX8_wants wsX8_wants) := goodIn_app (goodIn_r _ [9, 10, 11] rfl (by decide +kernel)) ggX8_act_X8_wants
set_option maxRecDepth 100000 in
theorem ggX8_act_X8_stop : GoodIn wsX8_act wsX8_stop := goodIn_td 40 (goodIn_r _ [23, 24, 25, 26, 27, 28, 29, 11, 30, 31, 32, 33, 34, 35, 36, 37, 38, 138, 139, 140, 141, 142, 143, 144, 145, 146, 147, 148, 149, 150, 151, 152, 153, 154, 155, 156, 157, 158, 159, 160] rfl (by decide +kernel)) (goodIn_r _ [161, 162, 163, 164, 165, 166, 167, 168] rfl (by decide +kernel))
set_option maxRecDepth 100000 in
theorem gX8_act_X8_stop : GoodIn wsX8_act (wsV RX8 164 RX8 yX8_stop wsX8_stop) := goodIn_app (goodIn_r _ [20, 21, 22, 11] rfl (by decide +kernel)) ggX8_act_X8_stop
set_option maxRecDepth 100000 in
theorem ggX8_act_X8_reckons : GoodIn wsX8_act wsX8_reckons := goodIn_td 40 (goodIn_r _ [42, 43, 44, 8, 7, 45, 46, 9, 10, 11, 12, 13, 14, 15, 16, 17, 18, 19, 47, 48, 49, 50, 4, 5, 2, 51, 52, 53, 54, 55, 56, 57, 58, 59, 60, 61, 62, 63, 64, 6] rfl (by decide +kernel)) (goodIn_td 40 (goodIn_r _ [65, 66, 67, 68, 69, 70, 71, 72, 73, 74, 75, 76, 77, 78, 79, 80, 81, 82, 83, 84, 85, 86, 87, 88, 89, 90, 91, 92, 93, 94, 95, 138, 139, 140, 141, 142, 143, 144, 145, 146] rfl (by decide +kernel)) (goodIn_r _ [147, 148, 149, 150, 151, 152, 153, 154, 155, 156, 157, 158, 159, 160, 161, 162, 163, 164, 165, 166, 167, 168] rfl (by decide +kernel)))
set_option maxRecDepth 100000 in
theorem gX8_act_X8_reckons : GoodIn wsX8_act (wsV RX8 168 RX8 yX8_reckons wsX8_reckons) := goodIn_app (goodIn_r _ [39, 40, 41, 11] rfl (by decide +kernel)) ggX8_act_X8_reckons
set_option maxRecDepth 100000 in
theorem ggX8_act_X8_moves : GoodIn wsX8_act wsX8_moves := goodIn_td 40 (goodIn_r _ [99, 100, 101, 102, 11, 103, 46, 8, 65, 52, 6, 51, 45, 7, 104, 105, 106, 107, 138, 139, 140, 141, 142, 143, 144, 145, 146, 147, 148, 149, 150, 151, 152, 153, 154, 155, 156, 157, 158, 159] rfl (by decide +kernel)) (goodIn_r _ [160, 161, 162, 163, 164, 165, 166, 167, 168] rfl (by decide +kernel))
set_option maxRecDepth 100000 in
theorem gX8_act_X8_moves : GoodIn wsX8_act (wsV RX8 171 RX8 yX8_moves wsX8_moves) := goodIn_app (goodIn_r _ [96, 97, 98, 11] rfl (by decide +kernel)) ggX8_act_X8_moves
set_option maxRecDepth 100000 in
theorem ggX8_act_X8_copies : GoodIn wsX8_act wsX8_copies := goodIn_td 40 (goodIn_r _ [111, 25, 112, 113, 24, 36, 38, 37, 114, 31, 69, 70, 71, 11, 72, 4, 5, 2, 73, 74, 75, 76, 77, 115, 116, 117, 118, 53, 54, 55, 56, 32, 33, 34, 35, 17, 18, 19, 119, 120] rfl (by decide +kernel)) (goodIn_r _ [121, 122, 3, 138, 139, 140, 141, 142, 143, 144, 145, 146, 147, 148, 149, 150, 151, 152, 153, 154, 155, 156, 157, 158, 159, 160, 161, 162, 163, 164, 165, 166, 167, 168] rfl (by decide +kernel))
set_option maxRecDepth 100000 in
theorem gX8_act_X8_copies : GoodIn wsX8_act (wsV RX8 175 RX8 yX8_copies wsX8_copies) := goodIn_app (goodIn_r _ [108, 109, 110, 11] rfl (by decide +kernel)) ggX8_act_X8_copies
set_option maxRecDepth 100000 in
theorem ggX8_act_X8_reaches : GoodIn wsX8_act wsX8_reaches := goodIn_td 40 (goodIn_r _ [126, 25, 113, 127, 128, 38, 36, 129, 130, 131, 132, 11, 133, 134, 135, 136, 137, 17, 18, 19, 119, 120, 121, 122, 3, 27, 28, 29, 30, 24, 31, 32, 33, 34, 35, 37, 138, 139, 140, 141] rfl (by decide +kernel)) (goodIn_r _ [142, 143, 144, 145, 146, 147, 148, 149, 150, 151, 152, 153, 154, 155, 156, 157, 158, 159, 160, 161, 162, 163, 164, 165, 166, 167, 168] rfl (by decide +kernel))
set_option maxRecDepth 100000 in
theorem gX8_act_X8_reaches : GoodIn wsX8_act (wsV RX8 179 RX8 yX8_reaches wsX8_reaches) := goodIn_app (goodIn_r _ [123, 124, 125, 11] rfl (by decide +kernel)) ggX8_act_X8_reaches
set_option maxRecDepth 100000 in
theorem ggX8_act_X8_go : GoodIn wsX8_act wsX8_go := goodIn_r _ [122, 3, 138, 139, 140, 141, 142, 143, 144, 145, 146, 147, 148, 149, 150, 151, 152, 153, 154, 155, 156, 157, 158, 159, 160, 161, 162, 163, 164, 165, 166, 167, 168] rfl (by decide +kernel)
set_option maxRecDepth 100000 in
theorem gX8_act_X8_go : GoodIn wsX8_act (wsV RX8 182 RX8 yX8_go wsX8_go) := goodIn_app (goodIn_r _ [119, 120, 121, 11] rfl (by decide +kernel)) ggX8_act_X8_go
theorem dX8_act_0 : decode cX8_act 0 = .ok (.aload_n 0, 1) := by decide +kernel
theorem dX8_act_1 : decode cX8_act 1 = .ok (.dup, 1) := by decide +kernel
theorem dX8_act_2 : decode cX8_act 2 = .ok (.getfield 158, 3) := by decide +kernel
theorem dX8_act_5 : decode cX8_act 5 = .ok (.lconst 1, 1) := by decide +kernel
theorem dX8_act_6 : decode cX8_act 6 = .ok (.ladd, 1) := by decide +kernel
theorem dX8_act_7 : decode cX8_act 7 = .ok (.putfield 158, 3) := by decide +kernel
theorem dX8_act_10 : decode cX8_act 10 = .ok (.aload_n 0, 1) := by decide +kernel
theorem dX8_act_11 : decode cX8_act 11 = .ok (.getfield 7, 3) := by decide +kernel
theorem dX8_act_14 : decode cX8_act 14 = .ok (.aload_n 0, 1) := by decide +kernel
theorem dX8_act_15 : decode cX8_act 15 = .ok (.getfield 78, 3) := by decide +kernel
theorem dX8_act_18 : decode cX8_act 18 = .ok (.iaload, 1) := by decide +kernel
theorem dX8_act_19 : decode cX8_act 19 = .ok (.istore_n 1, 1) := by decide +kernel
theorem dX8_act_20 : decode cX8_act 20 = .ok (.iload_n 1, 1) := by decide +kernel
theorem dX8_act_21 : decode cX8_act 21 = .ok (.bipush 12, 2) := by decide +kernel
theorem dX8_act_23 : decode cX8_act 23 = .ok (.ishr, 1) := by decide +kernel
theorem dX8_act_24 : decode cX8_act 24 = .ok (.bipush 31, 2) := by decide +kernel
theorem dX8_act_26 : decode cX8_act 26 = .ok (.iand, 1) := by decide +kernel
theorem dX8_act_27 : decode cX8_act 27 = .ok (.istore_n 2, 1) := by decide +kernel
theorem dX8_act_28 : decode cX8_act 28 = .ok (.aload_n 0, 1) := by decide +kernel
theorem dX8_act_29 : decode cX8_act 29 = .ok (.iload_n 1, 1) := by decide +kernel
theorem dX8_act_30 : decode cX8_act 30 = .ok (.bipush 17, 2) := by decide +kernel
theorem dX8_act_32 : decode cX8_act 32 = .ok (.ishr, 1) := by decide +kernel
theorem dX8_act_33 : decode cX8_act 33 = .ok (.iconst 1, 1) := by decide +kernel
theorem dX8_act_34 : decode cX8_act 34 = .ok (.iand, 1) := by decide +kernel
theorem dX8_act_35 : decode cX8_act 35 = .ok (.iconst 1, 1) := by decide +kernel
theorem dX8_act_36 : decode cX8_act 36 = .ok (.if_icmp .ne 7, 3) := by decide +kernel
theorem dX8_act_39 : decode cX8_act 39 = .ok (.iconst 1, 1) := by decide +kernel
theorem dX8_act_40 : decode cX8_act 40 = .ok (.goto 4, 3) := by decide +kernel
theorem dX8_act_43 : decode cX8_act 43 = .ok (.iconst 0, 1) := by decide +kernel
theorem dX8_act_44 : decode cX8_act 44 = .ok (.putfield 134, 3) := by decide +kernel
theorem dX8_act_47 : decode cX8_act 47 = .ok (.iload_n 1, 1) := by decide +kernel
theorem dX8_act_48 : decode cX8_act 48 = .ok (.sipush 4095, 3) := by decide +kernel
theorem dX8_act_51 : decode cX8_act 51 = .ok (.iand, 1) := by decide +kernel
theorem dX8_act_52 : decode cX8_act 52 = .ok (.istore_n 3, 1) := by decide +kernel
theorem dX8_act_53 : decode cX8_act 53 = .ok (.aload_n 0, 1) := by decide +kernel
theorem dX8_act_54 : decode cX8_act 54 = .ok (.iload_n 2, 1) := by decide +kernel
theorem dX8_act_55 : decode cX8_act 55 = .ok (.invokestatic 161, 3) := by decide +kernel
theorem dX8_act_58 : decode cX8_act 58 = .ok (.ifCond .eq 17, 3) := by decide +kernel
theorem dX8_act_61 : decode cX8_act 61 = .ok (.aload_n 0, 1) := by decide +kernel
theorem dX8_act_62 : decode cX8_act 62 = .ok (.getfield 134, 3) := by decide +kernel
theorem dX8_act_65 : decode cX8_act 65 = .ok (.ifCond .eq 10, 3) := by decide +kernel
theorem dX8_act_68 : decode cX8_act 68 = .ok (.iload_n 3, 1) := by decide +kernel
theorem dX8_act_69 : decode cX8_act 69 = .ok (.bipush (-2), 2) := by decide +kernel
theorem dX8_act_71 : decode cX8_act 71 = .ok (.iand, 1) := by decide +kernel
theorem dX8_act_72 : decode cX8_act 72 = .ok (.goto 4, 3) := by decide +kernel
theorem dX8_act_75 : decode cX8_act 75 = .ok (.iload_n 3, 1) := by decide +kernel
theorem dX8_act_76 : decode cX8_act 76 = .ok (.putfield 137, 3) := by decide +kernel
theorem dX8_act_79 : decode cX8_act 79 = .ok (.iload_n 2, 1) := by decide +kernel
theorem dX8_act_80 : decode cX8_act 80 = .ok (.invokestatic 161, 3) := by decide +kernel
theorem dX8_act_83 : decode cX8_act 83 = .ok (.ifCond .ne 8, 3) := by decide +kernel
theorem dX8_act_86 : decode cX8_act 86 = .ok (.iload_n 2, 1) := by decide +kernel
theorem dX8_act_87 : decode cX8_act 87 = .ok (.iconst 5, 1) := by decide +kernel
theorem dX8_act_88 : decode cX8_act 88 = .ok (.if_icmp .ge 19, 3) := by decide +kernel
theorem dX8_act_91 : decode cX8_act 91 = .ok (.aload_n 0, 1) := by decide +kernel
theorem dX8_act_92 : decode cX8_act 92 = .ok (.getfield 137, 3) := by decide +kernel
theorem dX8_act_95 : decode cX8_act 95 = .ok (.sipush 511, 3) := by decide +kernel
theorem dX8_act_98 : decode cX8_act 98 = .ok (.if_icmp .le 9, 3) := by decide +kernel
theorem dX8_act_101 : decode cX8_act 101 = .ok (.aload_n 0, 1) := by decide +kernel
theorem dX8_act_102 : decode cX8_act 102 = .ok (.iconst 2, 1) := by decide +kernel
theorem dX8_act_103 : decode cX8_act 103 = .ok (.invokevirtual 164, 3) := by decide +kernel
theorem dX8_act_106 : decode cX8_act 106 = .ok (.ireturn, 1) := by decide +kernel
theorem dX8_act_107 : decode cX8_act 107 = .ok (.iload_n 2, 1) := by decide +kernel
theorem dX8_act_108 : decode cX8_act 108 = .ok (.ifCond .ne 17, 3) := by decide +kernel
theorem dX8_act_111 : decode cX8_act 111 = .ok (.aload_n 0, 1) := by decide +kernel
theorem dX8_act_112 : decode cX8_act 112 = .ok (.aload_n 0, 1) := by decide +kernel
theorem dX8_act_113 : decode cX8_act 113 = .ok (.getfield 137, 3) := by decide +kernel
theorem dX8_act_116 : decode cX8_act 116 = .ok (.putfield 78, 3) := by decide +kernel
theorem dX8_act_119 : decode cX8_act 119 = .ok (.aload_n 0, 1) := by decide +kernel
theorem dX8_act_120 : decode cX8_act 120 = .ok (.iconst 1, 1) := by decide +kernel
theorem dX8_act_121 : decode cX8_act 121 = .ok (.invokevirtual 164, 3) := by decide +kernel
theorem dX8_act_124 : decode cX8_act 124 = .ok (.ireturn, 1) := by decide +kernel
theorem dX8_act_125 : decode cX8_act 125 = .ok (.iload_n 2, 1) := by decide +kernel
theorem dX8_act_126 : decode cX8_act 126 = .ok (.iconst 5, 1) := by decide +kernel
theorem dX8_act_127 : decode cX8_act 127 = .ok (.if_icmp .ge 102, 3) := by decide +kernel
theorem dX8_act_130 : decode cX8_act 130 = .ok (.iload_n 2, 1) := by decide +kernel
theorem dX8_act_131 : decode cX8_act 131 = .ok (.iconst 1, 1) := by decide +kernel
theorem dX8_act_132 : decode cX8_act 132 = .ok (.if_icmp .eq 41, 3) := by decide +kernel
theorem dX8_act_135 : decode cX8_act 135 = .ok (.iload_n 2, 1) := by decide +kernel
theorem dX8_act_136 : decode cX8_act 136 = .ok (.iconst 2, 1) := by decide +kernel
theorem dX8_act_137 : decode cX8_act 137 = .ok (.if_icmp .ne 10, 3) := by decide +kernel
theorem dX8_act_140 : decode cX8_act 140 = .ok (.aload_n 0, 1) := by decide +kernel
theorem dX8_act_141 : decode cX8_act 141 = .ok (.getfield 75, 3) := by decide +kernel
theorem dX8_act_144 : decode cX8_act 144 = .ok (.ifCond .ne 29, 3) := by decide +kernel
theorem dX8_act_147 : decode cX8_act 147 = .ok (.iload_n 2, 1) := by decide +kernel
theorem dX8_act_148 : decode cX8_act 148 = .ok (.iconst 3, 1) := by decide +kernel
theorem dX8_act_149 : decode cX8_act 149 = .ok (.if_icmp .ne 10, 3) := by decide +kernel
theorem dX8_act_152 : decode cX8_act 152 = .ok (.aload_n 0, 1) := by decide +kernel
theorem dX8_act_153 : decode cX8_act 153 = .ok (.getfield 61, 3) := by decide +kernel
theorem dX8_act_156 : decode cX8_act 156 = .ok (.ifCond .eq 17, 3) := by decide +kernel
theorem dX8_act_159 : decode cX8_act 159 = .ok (.iload_n 2, 1) := by decide +kernel
theorem dX8_act_160 : decode cX8_act 160 = .ok (.iconst 4, 1) := by decide +kernel
theorem dX8_act_161 : decode cX8_act 161 = .ok (.if_icmp .ne 16, 3) := by decide +kernel
theorem dX8_act_164 : decode cX8_act 164 = .ok (.aload_n 0, 1) := by decide +kernel
theorem dX8_act_165 : decode cX8_act 165 = .ok (.getfield 65, 3) := by decide +kernel
theorem dX8_act_168 : decode cX8_act 168 = .ok (.lconst 0, 1) := by decide +kernel
theorem dX8_act_169 : decode cX8_act 169 = .ok (.lcmp, 1) := by decide +kernel
theorem dX8_act_170 : decode cX8_act 170 = .ok (.ifCond .ne 7, 3) := by decide +kernel
theorem dX8_act_173 : decode cX8_act 173 = .ok (.iconst 1, 1) := by decide +kernel
theorem dX8_act_174 : decode cX8_act 174 = .ok (.goto 4, 3) := by decide +kernel
theorem dX8_act_177 : decode cX8_act 177 = .ok (.iconst 0, 1) := by decide +kernel
theorem dX8_act_178 : decode cX8_act 178 = .ok (.istore 4, 2) := by decide +kernel
theorem dX8_act_180 : decode cX8_act 180 = .ok (.aload_n 0, 1) := by decide +kernel
theorem dX8_act_181 : decode cX8_act 181 = .ok (.aload_n 0, 1) := by decide +kernel
theorem dX8_act_182 : decode cX8_act 182 = .ok (.getfield 75, 3) := by decide +kernel
theorem dX8_act_185 : decode cX8_act 185 = .ok (.ifCond .eq 12, 3) := by decide +kernel
theorem dX8_act_188 : decode cX8_act 188 = .ok (.iload_n 2, 1) := by decide +kernel
theorem dX8_act_189 : decode cX8_act 189 = .ok (.iconst 2, 1) := by decide +kernel
theorem dX8_act_190 : decode cX8_act 190 = .ok (.if_icmp .eq 7, 3) := by decide +kernel
theorem dX8_act_193 : decode cX8_act 193 = .ok (.iconst 1, 1) := by decide +kernel
theorem dX8_act_194 : decode cX8_act 194 = .ok (.goto 4, 3) := by decide +kernel
theorem dX8_act_197 : decode cX8_act 197 = .ok (.iconst 0, 1) := by decide +kernel
theorem dX8_act_198 : decode cX8_act 198 = .ok (.putfield 75, 3) := by decide +kernel
theorem dX8_act_201 : decode cX8_act 201 = .ok (.aload_n 0, 1) := by decide +kernel
theorem dX8_act_202 : decode cX8_act 202 = .ok (.iload 4, 2) := by decide +kernel
theorem dX8_act_204 : decode cX8_act 204 = .ok (.ifCond .eq 10, 3) := by decide +kernel
theorem dX8_act_207 : decode cX8_act 207 = .ok (.aload_n 0, 1) := by decide +kernel
theorem dX8_act_208 : decode cX8_act 208 = .ok (.getfield 137, 3) := by decide +kernel
theorem dX8_act_211 : decode cX8_act 211 = .ok (.goto 13, 3) := by decide +kernel
theorem dX8_act_214 : decode cX8_act 214 = .ok (.aload_n 0, 1) := by decide +kernel
theorem dX8_act_215 : decode cX8_act 215 = .ok (.getfield 78, 3) := by decide +kernel
theorem dX8_act_218 : decode cX8_act 218 = .ok (.iconst 1, 1) := by decide +kernel
theorem dX8_act_219 : decode cX8_act 219 = .ok (.iadd, 1) := by decide +kernel
theorem dX8_act_220 : decode cX8_act 220 = .ok (.sipush 511, 3) := by decide +kernel
theorem dX8_act_223 : decode cX8_act 223 = .ok (.iand, 1) := by decide +kernel
theorem dX8_act_224 : decode cX8_act 224 = .ok (.putfield 78, 3) := by decide +kernel
theorem dX8_act_227 : decode cX8_act 227 = .ok (.iconst 0, 1) := by decide +kernel
theorem dX8_act_228 : decode cX8_act 228 = .ok (.ireturn, 1) := by decide +kernel
theorem dX8_act_229 : decode cX8_act 229 = .ok (.iload_n 2, 1) := by decide +kernel
theorem dX8_act_230 : decode cX8_act 230 = .ok (.bipush 20, 2) := by decide +kernel
theorem dX8_act_232 : decode cX8_act 232 = .ok (.if_icmp .ge 11, 3) := by decide +kernel
theorem dX8_act_235 : decode cX8_act 235 = .ok (.aload_n 0, 1) := by decide +kernel
theorem dX8_act_236 : decode cX8_act 236 = .ok (.iload_n 2, 1) := by decide +kernel
theorem dX8_act_237 : decode cX8_act 237 = .ok (.invokevirtual 168, 3) := by decide +kernel
theorem dX8_act_240 : decode cX8_act 240 = .ok (.goto 40, 3) := by decide +kernel
theorem dX8_act_243 : decode cX8_act 243 = .ok (.iload_n 2, 1) := by decide +kernel
theorem dX8_act_244 : decode cX8_act 244 = .ok (.bipush 24, 2) := by decide +kernel
theorem dX8_act_246 : decode cX8_act 246 = .ok (.if_icmp .ge 15, 3) := by decide +kernel
theorem dX8_act_249 : decode cX8_act 249 = .ok (.aload_n 0, 1) := by decide +kernel
theorem dX8_act_250 : decode cX8_act 250 = .ok (.iload_n 2, 1) := by decide +kernel
theorem dX8_act_251 : decode cX8_act 251 = .ok (.iload_n 3, 1) := by decide +kernel
theorem dX8_act_252 : decode cX8_act 252 = .ok (.bipush 63, 2) := by decide +kernel
theorem dX8_act_254 : decode cX8_act 254 = .ok (.iand, 1) := by decide +kernel
theorem dX8_act_255 : decode cX8_act 255 = .ok (.invokevirtual 171, 3) := by decide +kernel
theorem dX8_act_258 : decode cX8_act 258 = .ok (.goto 22, 3) := by decide +kernel
theorem dX8_act_261 : decode cX8_act 261 = .ok (.iload_n 2, 1) := by decide +kernel
theorem dX8_act_262 : decode cX8_act 262 = .ok (.bipush 31, 2) := by decide +kernel
theorem dX8_act_264 : decode cX8_act 264 = .ok (.if_icmp .ne 10, 3) := by decide +kernel
theorem dX8_act_267 : decode cX8_act 267 = .ok (.aload_n 0, 1) := by decide +kernel
theorem dX8_act_268 : decode cX8_act 268 = .ok (.invokevirtual 175, 3) := by decide +kernel
theorem dX8_act_271 : decode cX8_act 271 = .ok (.goto 9, 3) := by decide +kernel
theorem dX8_act_274 : decode cX8_act 274 = .ok (.aload_n 0, 1) := by decide +kernel
theorem dX8_act_275 : decode cX8_act 275 = .ok (.iload_n 2, 1) := by decide +kernel
theorem dX8_act_276 : decode cX8_act 276 = .ok (.iload_n 3, 1) := by decide +kernel
theorem dX8_act_277 : decode cX8_act 277 = .ok (.invokevirtual 179, 3) := by decide +kernel
theorem dX8_act_280 : decode cX8_act 280 = .ok (.istore 4, 2) := by decide +kernel
theorem dX8_act_282 : decode cX8_act 282 = .ok (.iload 4, 2) := by decide +kernel
theorem dX8_act_284 : decode cX8_act 284 = .ok (.ifCond .le 10, 3) := by decide +kernel
theorem dX8_act_287 : decode cX8_act 287 = .ok (.aload_n 0, 1) := by decide +kernel
theorem dX8_act_288 : decode cX8_act 288 = .ok (.iload 4, 2) := by decide +kernel
theorem dX8_act_290 : decode cX8_act 290 = .ok (.invokevirtual 164, 3) := by decide +kernel
theorem dX8_act_293 : decode cX8_act 293 = .ok (.ireturn, 1) := by decide +kernel
theorem dX8_act_294 : decode cX8_act 294 = .ok (.aload_n 0, 1) := by decide +kernel
theorem dX8_act_295 : decode cX8_act 295 = .ok (.iconst 1, 1) := by decide +kernel
theorem dX8_act_296 : decode cX8_act 296 = .ok (.invokevirtual 182, 3) := by decide +kernel
theorem dX8_act_299 : decode cX8_act 299 = .ok (.iconst 0, 1) := by decide +kernel
theorem dX8_act_300 : decode cX8_act 300 = .ok (.ireturn, 1) := by decide +kernel
set_option maxRecDepth 100000 in
theorem ggX8_run_X8_in : GoodIn wsX8_run wsX8_in := goodIn_r _ [6] rfl (by decide +kernel)
set_option maxRecDepth 100000 in
theorem gX8_run_X8_in : GoodIn wsX8_run (va_wsS RX8 49 yX8_in wsX8_in) := goodIn_app (goodIn_r _ [3, 4, 5] rfl (by decide +kernel)) ggX8_run_X8_in
set_option maxRecDepth 100000 in
theorem ggX8_run_X8_act : GoodIn wsX8_run wsX8_act := goodIn_td 40 (goodIn_r _ [10, 11, 12, 13, 14, 15, 16, 17, 18, 19, 20, 5, 21, 22, 23, 24, 25, 3, 4, 6, 26, 27, 28, 29, 30, 31, 2, 32, 33, 34, 35, 36, 37, 38, 39, 40, 41, 42, 43, 44] rfl (by decide +kernel)) (goodIn_td 40 (goodIn_r _ [45, 46, 47, 48, 49, 50, 51, 52, 53, 54, 55, 56, 57, 58, 59, 60, 61, 62, 63, 64, 65, 66, 67, 68, 69, 70, 71, 72, 73, 74, 75, 76, 77, 78, 79, 80, 81, 82, 83, 84] rfl (by decide +kernel)) (goodIn_td 40 (goodIn_r _ [85, 86, 87, 88, 89, 90, 91, 92, 93, 94, 95, 96, 97, 98, 99, 100, 101, 102, 103, 104, 105, 106, 107, 108, 109, 110, 111, 112, 113, 114, 115, 116, 117, 118, 119, 120, 121, 122, 123, 124] rfl (by decide +kernel)) (goodIn_td 40 (goodIn_r _ [125, 126, 127, 128, 129, 130, 131, 132, 133, 134, 135, 136, 137, 138, 139, 140, 141, 142, 143, 144, 145, 146, 147, 148, 149, 150, 151, 152, 153, 154, 155, 156, 157, 158, 159, 160, 161, 162, 163, 164] rfl (by decide +kernel)) (goodIn_r _ [165, 166, 167, 168, 169, 170, 171, 172, 173] rfl (by decide +kernel)))))
set_option maxRecDepth 100000 in
theorem gX8_run_X8_act : GoodIn wsX8_run (wsV RX8 238 RX8 yX8_act wsX8_act) := goodIn_app (goodIn_r _ [7, 8, 9, 5] rfl (by decide +kernel)) ggX8_run_X8_act
theorem dX8_run_0 : decode cX8_run 0 = .ok (.iload_n 1, 1) := by decide +kernel
theorem dX8_run_1 : decode cX8_run 1 = .ok (.i2l, 1) := by decide +kernel
theorem dX8_run_2 : decode cX8_run 2 = .ok (.lconst 0, 1) := by decide +kernel
theorem dX8_run_3 : decode cX8_run 3 = .ok (.ldc2_w 236, 3) := by decide +kernel
theorem dX8_run_6 : decode cX8_run 6 = .ok (.invokestatic 49, 3) := by decide +kernel
theorem dX8_run_9 : decode cX8_run 9 = .ok (.ifCond .ne 5, 3) := by decide +kernel
theorem dX8_run_12 : decode cX8_run 12 = .ok (.iconst (-1), 1) := by decide +kernel
theorem dX8_run_13 : decode cX8_run 13 = .ok (.ireturn, 1) := by decide +kernel
theorem dX8_run_14 : decode cX8_run 14 = .ok (.aload_n 0, 1) := by decide +kernel
theorem dX8_run_15 : decode cX8_run 15 = .ok (.iconst 0, 1) := by decide +kernel
theorem dX8_run_16 : decode cX8_run 16 = .ok (.putfield 87, 3) := by decide +kernel
theorem dX8_run_19 : decode cX8_run 19 = .ok (.iconst 0, 1) := by decide +kernel
theorem dX8_run_20 : decode cX8_run 20 = .ok (.istore_n 2, 1) := by decide +kernel
theorem dX8_run_21 : decode cX8_run 21 = .ok (.iload_n 2, 1) := by decide +kernel
theorem dX8_run_22 : decode cX8_run 22 = .ok (.iload_n 1, 1) := by decide +kernel
theorem dX8_run_23 : decode cX8_run 23 = .ok (.if_icmp .ge 21, 3) := by decide +kernel
theorem dX8_run_26 : decode cX8_run 26 = .ok (.aload_n 0, 1) := by decide +kernel
theorem dX8_run_27 : decode cX8_run 27 = .ok (.getfield 87, 3) := by decide +kernel
theorem dX8_run_30 : decode cX8_run 30 = .ok (.ifCond .ne 14, 3) := by decide +kernel
theorem dX8_run_33 : decode cX8_run 33 = .ok (.aload_n 0, 1) := by decide +kernel
theorem dX8_run_34 : decode cX8_run 34 = .ok (.invokevirtual 238, 3) := by decide +kernel
theorem dX8_run_37 : decode cX8_run 37 = .ok (.istore_n 3, 1) := by decide +kernel
theorem dX8_run_38 : decode cX8_run 38 = .ok (.iinc 2 1, 3) := by decide +kernel
theorem dX8_run_41 : decode cX8_run 41 = .ok (.goto (-20), 3) := by decide +kernel
theorem dX8_run_44 : decode cX8_run 44 = .ok (.iload_n 2, 1) := by decide +kernel
theorem dX8_run_45 : decode cX8_run 45 = .ok (.ireturn, 1) := by decide +kernel
set_option maxRecDepth 100000 in
theorem ggX8_step_X8_act : GoodIn wsX8_step wsX8_act := goodIn_td 40 (goodIn_r _ [6, 7, 8, 9, 10, 11, 12, 13, 14, 15, 16, 5, 17, 18, 19, 20, 21, 22, 23, 24, 25, 26, 27, 28, 29, 30, 1, 31, 32, 33, 34, 35, 36, 37, 38, 39, 40, 41, 42, 43] rfl (by decide +kernel)) (goodIn_td 40 (goodIn_r _ [44, 45, 46, 47, 48, 49, 50, 51, 52, 53, 54, 55, 56, 57, 58, 59, 60, 61, 62, 63, 64, 65, 66, 67, 68, 69, 70, 71, 72, 73, 74, 75, 76, 77, 78, 79, 80, 81, 82, 83] rfl (by decide +kernel)) (goodIn_td 40 (goodIn_r _ [84, 85, 86, 87, 88, 89, 90, 91, 92, 93, 94, 95, 96, 97, 98, 99, 100, 101, 102, 103, 104, 105, 106, 107, 108, 109, 110, 111, 112, 113, 114, 115, 116, 117, 118, 119, 120, 121, 122, 123] rfl (by decide +kernel)) (goodIn_td 40 (goodIn_r _ [124, 125, 126, 127, 128, 129, 130, 131, 132, 133, 134, 135, 136, 137, 138, 139, 140, 141, 142, 143, 144, 145, 146, 147, 148, 149, 150, 151, 152, 153, 154, 155, 156, 157, 158, 159, 160, 161, 162, 163] rfl (by decide +kernel)) (goodIn_r _ [164, 165, 166, 167, 168, 169, 170, 171, 172] rfl (by decide +kernel)))))
set_option maxRecDepth 100000 in
theorem gX8_step_X8_act : GoodIn wsX8_step (wsV RX8 238 RX8 yX8_act wsX8_act) := goodIn_app (goodIn_r _ [2, 3, 4, 5] rfl (by decide +kernel)) ggX8_step_X8_act
theorem dX8_step_0 : decode cX8_step 0 = .ok (.aload_n 0, 1) := by decide +kernel
theorem dX8_step_1 : decode cX8_step 1 = .ok (.iconst 0, 1) := by decide +kernel
theorem dX8_step_2 : decode cX8_step 2 = .ok (.putfield 87, 3) := by decide +kernel
theorem dX8_step_5 : decode cX8_step 5 = .ok (.aload_n 0, 1) := by decide +kernel
theorem dX8_step_6 : decode cX8_step 6 = .ok (.invokevirtual 238, 3) := by decide +kernel
theorem dX8_step_9 : decode cX8_step 9 = .ok (.ireturn, 1) := by decide +kernel
theorem dX8_acts_0 : decode cX8_acts 0 = .ok (.aload_n 0, 1) := by decide +kernel
theorem dX8_acts_1 : decode cX8_acts 1 = .ok (.getfield 158, 3) := by decide +kernel
theorem dX8_acts_4 : decode cX8_acts 4 = .ok (.lreturn, 1) := by decide +kernel
set_option maxRecDepth 100000 in
theorem ggX8_feed_X8_in : GoodIn wsX8_feed wsX8_in := goodIn_r _ [7] rfl (by decide +kernel)
set_option maxRecDepth 100000 in
theorem gX8_feed_X8_in : GoodIn wsX8_feed (va_wsS RX8 49 yX8_in wsX8_in) := goodIn_app (goodIn_r _ [4, 5, 6] rfl (by decide +kernel)) ggX8_feed_X8_in
theorem dX8_feed_0 : decode cX8_feed 0 = .ok (.iload_n 3, 1) := by decide +kernel
theorem dX8_feed_1 : decode cX8_feed 1 = .ok (.i2l, 1) := by decide +kernel
theorem dX8_feed_2 : decode cX8_feed 2 = .ok (.lconst 1, 1) := by decide +kernel
theorem dX8_feed_3 : decode cX8_feed 3 = .ok (.ldc2_w 241, 3) := by decide +kernel
theorem dX8_feed_6 : decode cX8_feed 6 = .ok (.invokestatic 49, 3) := by decide +kernel
theorem dX8_feed_9 : decode cX8_feed 9 = .ok (.ifCond .ne 5, 3) := by decide +kernel
theorem dX8_feed_12 : decode cX8_feed 12 = .ok (.iconst (-1), 1) := by decide +kernel
theorem dX8_feed_13 : decode cX8_feed 13 = .ok (.ireturn, 1) := by decide +kernel
theorem dX8_feed_14 : decode cX8_feed 14 = .ok (.aload_n 0, 1) := by decide +kernel
theorem dX8_feed_15 : decode cX8_feed 15 = .ok (.getfield 243, 3) := by decide +kernel
theorem dX8_feed_18 : decode cX8_feed 18 = .ok (.iload_n 3, 1) := by decide +kernel
theorem dX8_feed_19 : decode cX8_feed 19 = .ok (.iadd, 1) := by decide +kernel
theorem dX8_feed_20 : decode cX8_feed 20 = .ok (.sipush 2000, 3) := by decide +kernel
theorem dX8_feed_23 : decode cX8_feed 23 = .ok (.if_icmp .le 6, 3) := by decide +kernel
theorem dX8_feed_26 : decode cX8_feed 26 = .ok (.bipush (-2), 2) := by decide +kernel
theorem dX8_feed_28 : decode cX8_feed 28 = .ok (.ireturn, 1) := by decide +kernel
theorem dX8_feed_29 : decode cX8_feed 29 = .ok (.iconst 0, 1) := by decide +kernel
theorem dX8_feed_30 : decode cX8_feed 30 = .ok (.istore 4, 2) := by decide +kernel
theorem dX8_feed_32 : decode cX8_feed 32 = .ok (.iload 4, 2) := by decide +kernel
theorem dX8_feed_34 : decode cX8_feed 34 = .ok (.iload_n 3, 1) := by decide +kernel
theorem dX8_feed_35 : decode cX8_feed 35 = .ok (.if_icmp .ge 37, 3) := by decide +kernel
theorem dX8_feed_38 : decode cX8_feed 38 = .ok (.aload_n 0, 1) := by decide +kernel
theorem dX8_feed_39 : decode cX8_feed 39 = .ok (.getfield 26, 3) := by decide +kernel
theorem dX8_feed_42 : decode cX8_feed 42 = .ok (.aload_n 0, 1) := by decide +kernel
theorem dX8_feed_43 : decode cX8_feed 43 = .ok (.getfield 243, 3) := by decide +kernel
theorem dX8_feed_46 : decode cX8_feed 46 = .ok (.lload_n 1, 1) := by decide +kernel
theorem dX8_feed_47 : decode cX8_feed 47 = .ok (.bipush 8, 2) := by decide +kernel
theorem dX8_feed_49 : decode cX8_feed 49 = .ok (.iload 4, 2) := by decide +kernel
theorem dX8_feed_51 : decode cX8_feed 51 = .ok (.imul, 1) := by decide +kernel
theorem dX8_feed_52 : decode cX8_feed 52 = .ok (.lshr, 1) := by decide +kernel
theorem dX8_feed_53 : decode cX8_feed 53 = .ok (.l2i, 1) := by decide +kernel
theorem dX8_feed_54 : decode cX8_feed 54 = .ok (.i2b, 1) := by decide +kernel
theorem dX8_feed_55 : decode cX8_feed 55 = .ok (.bastore, 1) := by decide +kernel
theorem dX8_feed_56 : decode cX8_feed 56 = .ok (.aload_n 0, 1) := by decide +kernel
theorem dX8_feed_57 : decode cX8_feed 57 = .ok (.dup, 1) := by decide +kernel
theorem dX8_feed_58 : decode cX8_feed 58 = .ok (.getfield 243, 3) := by decide +kernel
theorem dX8_feed_61 : decode cX8_feed 61 = .ok (.iconst 1, 1) := by decide +kernel
theorem dX8_feed_62 : decode cX8_feed 62 = .ok (.iadd, 1) := by decide +kernel
theorem dX8_feed_63 : decode cX8_feed 63 = .ok (.putfield 243, 3) := by decide +kernel
theorem dX8_feed_66 : decode cX8_feed 66 = .ok (.iinc 4 1, 3) := by decide +kernel
theorem dX8_feed_69 : decode cX8_feed 69 = .ok (.goto (-37), 3) := by decide +kernel
theorem dX8_feed_72 : decode cX8_feed 72 = .ok (.aload_n 0, 1) := by decide +kernel
theorem dX8_feed_73 : decode cX8_feed 73 = .ok (.getfield 243, 3) := by decide +kernel
theorem dX8_feed_76 : decode cX8_feed 76 = .ok (.ireturn, 1) := by decide +kernel
set_option maxRecDepth 100000 in
theorem ggX8_load_X8_readLine : GoodIn wsX8_load wsX8_readLine := goodIn_td 40 (goodIn_r _ [12, 1, 5, 13, 2, 4, 14, 15, 6, 16, 17, 18, 19, 20, 11, 21, 22, 23, 24, 25, 26, 27, 28, 29, 30, 31, 32, 3, 33, 34, 35, 36, 37, 38, 39, 40, 41, 42, 43, 44] rfl (by decide +kernel)) (goodIn_r _ [50, 51, 52, 53, 54, 55, 56, 57, 58, 59, 60, 61, 62, 63, 64, 65, 66, 67, 68, 69, 70, 71, 72, 73, 74, 75, 76, 77, 78, 79, 80] rfl (by decide +kernel))
set_option maxRecDepth 100000 in
theorem gX8_load_X8_readLine : GoodIn wsX8_load (wsV RX8 282 RX8 yX8_readLine wsX8_readLine) := goodIn_app (goodIn_r _ [8, 9, 10, 11] rfl (by decide +kernel)) ggX8_load_X8_readLine
set_option maxRecDepth 100000 in
theorem ggX8_load_X8_putWhole : GoodIn wsX8_load wsX8_putWhole := goodIn_r _ [48, 7, 49, 50, 51, 52, 53, 54, 55, 56, 57, 58, 59, 60, 61, 62, 63, 64, 65, 66, 67, 68, 69, 70, 71, 72, 73, 74, 75, 76, 77, 78, 79, 80] rfl (by decide +kernel)
set_option maxRecDepth 100000 in
theorem gX8_load_X8_putWhole : GoodIn wsX8_load (wsV RX8 148 RX8 yX8_putWhole wsX8_putWhole) := goodIn_app (goodIn_r _ [45, 46, 47, 11] rfl (by decide +kernel)) ggX8_load_X8_putWhole
theorem dX8_load_0 : decode cX8_load 0 = .ok (.aload_n 0, 1) := by decide +kernel
theorem dX8_load_1 : decode cX8_load 1 = .ok (.iconst 0, 1) := by decide +kernel
theorem dX8_load_2 : decode cX8_load 2 = .ok (.putfield 246, 3) := by decide +kernel
theorem dX8_load_5 : decode cX8_load 5 = .ok (.aload_n 0, 1) := by decide +kernel
theorem dX8_load_6 : decode cX8_load 6 = .ok (.iconst (-1), 1) := by decide +kernel
theorem dX8_load_7 : decode cX8_load 7 = .ok (.putfield 259, 3) := by decide +kernel
theorem dX8_load_10 : decode cX8_load 10 = .ok (.iconst 0, 1) := by decide +kernel
theorem dX8_load_11 : decode cX8_load 11 = .ok (.istore_n 1, 1) := by decide +kernel
theorem dX8_load_12 : decode cX8_load 12 = .ok (.aload_n 0, 1) := by decide +kernel
theorem dX8_load_13 : decode cX8_load 13 = .ok (.getfield 246, 3) := by decide +kernel
theorem dX8_load_16 : decode cX8_load 16 = .ok (.aload_n 0, 1) := by decide +kernel
theorem dX8_load_17 : decode cX8_load 17 = .ok (.getfield 243, 3) := by decide +kernel
theorem dX8_load_20 : decode cX8_load 20 = .ok (.if_icmp .ge 39, 3) := by decide +kernel
theorem dX8_load_23 : decode cX8_load 23 = .ok (.aload_n 0, 1) := by decide +kernel
theorem dX8_load_24 : decode cX8_load 24 = .ok (.getfield 259, 3) := by decide +kernel
theorem dX8_load_27 : decode cX8_load 27 = .ok (.ifCond .ge 32, 3) := by decide +kernel
theorem dX8_load_30 : decode cX8_load 30 = .ok (.iload_n 1, 1) := by decide +kernel
theorem dX8_load_31 : decode cX8_load 31 = .ok (.sipush 200, 3) := by decide +kernel
theorem dX8_load_34 : decode cX8_load 34 = .ok (.if_icmp .ne 14, 3) := by decide +kernel
theorem dX8_load_37 : decode cX8_load 37 = .ok (.aload_n 0, 1) := by decide +kernel
theorem dX8_load_38 : decode cX8_load 38 = .ok (.aload_n 0, 1) := by decide +kernel
theorem dX8_load_39 : decode cX8_load 39 = .ok (.getfield 246, 3) := by decide +kernel
theorem dX8_load_42 : decode cX8_load 42 = .ok (.putfield 259, 3) := by decide +kernel
theorem dX8_load_45 : decode cX8_load 45 = .ok (.goto (-33), 3) := by decide +kernel
theorem dX8_load_48 : decode cX8_load 48 = .ok (.aload_n 0, 1) := by decide +kernel
theorem dX8_load_49 : decode cX8_load 49 = .ok (.iload_n 1, 1) := by decide +kernel
theorem dX8_load_50 : decode cX8_load 50 = .ok (.invokevirtual 282, 3) := by decide +kernel
theorem dX8_load_53 : decode cX8_load 53 = .ok (.iinc 1 1, 3) := by decide +kernel
theorem dX8_load_56 : decode cX8_load 56 = .ok (.goto (-44), 3) := by decide +kernel
theorem dX8_load_59 : decode cX8_load 59 = .ok (.aload_n 0, 1) := by decide +kernel
theorem dX8_load_60 : decode cX8_load 60 = .ok (.iconst 0, 1) := by decide +kernel
theorem dX8_load_61 : decode cX8_load 61 = .ok (.putfield 243, 3) := by decide +kernel
theorem dX8_load_64 : decode cX8_load 64 = .ok (.aload_n 0, 1) := by decide +kernel
theorem dX8_load_65 : decode cX8_load 65 = .ok (.getfield 259, 3) := by decide +kernel
theorem dX8_load_68 : decode cX8_load 68 = .ok (.ifCond .lt 11, 3) := by decide +kernel
theorem dX8_load_71 : decode cX8_load 71 = .ok (.bipush (-10), 2) := by decide +kernel
theorem dX8_load_73 : decode cX8_load 73 = .ok (.aload_n 0, 1) := by decide +kernel
theorem dX8_load_74 : decode cX8_load 74 = .ok (.getfield 259, 3) := by decide +kernel
theorem dX8_load_77 : decode cX8_load 77 = .ok (.isub, 1) := by decide +kernel
theorem dX8_load_78 : decode cX8_load 78 = .ok (.ireturn, 1) := by decide +kernel
theorem dX8_load_79 : decode cX8_load 79 = .ok (.iconst 0, 1) := by decide +kernel
theorem dX8_load_80 : decode cX8_load 80 = .ok (.istore_n 2, 1) := by decide +kernel
theorem dX8_load_81 : decode cX8_load 81 = .ok (.iload_n 2, 1) := by decide +kernel
theorem dX8_load_82 : decode cX8_load 82 = .ok (.iload_n 1, 1) := by decide +kernel
theorem dX8_load_83 : decode cX8_load 83 = .ok (.if_icmp .ge 55, 3) := by decide +kernel
theorem dX8_load_86 : decode cX8_load 86 = .ok (.aload_n 0, 1) := by decide +kernel
theorem dX8_load_87 : decode cX8_load 87 = .ok (.getfield 36, 3) := by decide +kernel
theorem dX8_load_90 : decode cX8_load 90 = .ok (.iload_n 2, 1) := by decide +kernel
theorem dX8_load_91 : decode cX8_load 91 = .ok (.baload, 1) := by decide +kernel
theorem dX8_load_92 : decode cX8_load 92 = .ok (.ifCond .eq 22, 3) := by decide +kernel
theorem dX8_load_95 : decode cX8_load 95 = .ok (.aload_n 0, 1) := by decide +kernel
theorem dX8_load_96 : decode cX8_load 96 = .ok (.aload_n 0, 1) := by decide +kernel
theorem dX8_load_97 : decode cX8_load 97 = .ok (.getfield 30, 3) := by decide +kernel
theorem dX8_load_100 : decode cX8_load 100 = .ok (.iload_n 2, 1) := by decide +kernel
theorem dX8_load_101 : decode cX8_load 101 = .ok (.iaload, 1) := by decide +kernel
theorem dX8_load_102 : decode cX8_load 102 = .ok (.aload_n 0, 1) := by decide +kernel
theorem dX8_load_103 : decode cX8_load 103 = .ok (.getfield 33, 3) := by decide +kernel
theorem dX8_load_106 : decode cX8_load 106 = .ok (.iload_n 2, 1) := by decide +kernel
theorem dX8_load_107 : decode cX8_load 107 = .ok (.laload, 1) := by decide +kernel
theorem dX8_load_108 : decode cX8_load 108 = .ok (.invokevirtual 148, 3) := by decide +kernel
theorem dX8_load_111 : decode cX8_load 111 = .ok (.goto 21, 3) := by decide +kernel
theorem dX8_load_114 : decode cX8_load 114 = .ok (.aload_n 0, 1) := by decide +kernel
theorem dX8_load_115 : decode cX8_load 115 = .ok (.getfield 7, 3) := by decide +kernel
theorem dX8_load_118 : decode cX8_load 118 = .ok (.aload_n 0, 1) := by decide +kernel
theorem dX8_load_119 : decode cX8_load 119 = .ok (.getfield 30, 3) := by decide +kernel
theorem dX8_load_122 : decode cX8_load 122 = .ok (.iload_n 2, 1) := by decide +kernel
theorem dX8_load_123 : decode cX8_load 123 = .ok (.iaload, 1) := by decide +kernel
theorem dX8_load_124 : decode cX8_load 124 = .ok (.aload_n 0, 1) := by decide +kernel
theorem dX8_load_125 : decode cX8_load 125 = .ok (.getfield 33, 3) := by decide +kernel
theorem dX8_load_128 : decode cX8_load 128 = .ok (.iload_n 2, 1) := by decide +kernel
theorem dX8_load_129 : decode cX8_load 129 = .ok (.laload, 1) := by decide +kernel
theorem dX8_load_130 : decode cX8_load 130 = .ok (.l2i, 1) := by decide +kernel
theorem dX8_load_131 : decode cX8_load 131 = .ok (.iastore, 1) := by decide +kernel
theorem dX8_load_132 : decode cX8_load 132 = .ok (.iinc 2 1, 3) := by decide +kernel
theorem dX8_load_135 : decode cX8_load 135 = .ok (.goto (-54), 3) := by decide +kernel
theorem dX8_load_138 : decode cX8_load 138 = .ok (.iload_n 1, 1) := by decide +kernel
theorem dX8_load_139 : decode cX8_load 139 = .ok (.ireturn, 1) := by decide +kernel
theorem dX8_write_0 : decode cX8_write 0 = .ok (.iconst 1, 1) := by decide +kernel
theorem dX8_write_1 : decode cX8_write 1 = .ok (.istore_n 2, 1) := by decide +kernel
theorem dX8_write_2 : decode cX8_write 2 = .ok (.iload_n 1, 1) := by decide +kernel
theorem dX8_write_3 : decode cX8_write 3 = .ok (.iload_n 2, 1) := by decide +kernel
theorem dX8_write_4 : decode cX8_write 4 = .ok (.idiv, 1) := by decide +kernel
theorem dX8_write_5 : decode cX8_write 5 = .ok (.bipush 9, 2) := by decide +kernel
theorem dX8_write_7 : decode cX8_write 7 = .ok (.if_icmp .le 11, 3) := by decide +kernel
theorem dX8_write_10 : decode cX8_write 10 = .ok (.iload_n 2, 1) := by decide +kernel
theorem dX8_write_11 : decode cX8_write 11 = .ok (.bipush 10, 2) := by decide +kernel
theorem dX8_write_13 : decode cX8_write 13 = .ok (.imul, 1) := by decide +kernel
theorem dX8_write_14 : decode cX8_write 14 = .ok (.istore_n 2, 1) := by decide +kernel
theorem dX8_write_15 : decode cX8_write 15 = .ok (.goto (-13), 3) := by decide +kernel
theorem dX8_write_18 : decode cX8_write 18 = .ok (.iload_n 2, 1) := by decide +kernel
theorem dX8_write_19 : decode cX8_write 19 = .ok (.ifCond .le 40, 3) := by decide +kernel
theorem dX8_write_22 : decode cX8_write 22 = .ok (.aload_n 0, 1) := by decide +kernel
theorem dX8_write_23 : decode cX8_write 23 = .ok (.getfield 40, 3) := by decide +kernel
theorem dX8_write_26 : decode cX8_write 26 = .ok (.aload_n 0, 1) := by decide +kernel
theorem dX8_write_27 : decode cX8_write 27 = .ok (.getfield 285, 3) := by decide +kernel
theorem dX8_write_30 : decode cX8_write 30 = .ok (.bipush 48, 2) := by decide +kernel
theorem dX8_write_32 : decode cX8_write 32 = .ok (.iload_n 1, 1) := by decide +kernel
theorem dX8_write_33 : decode cX8_write 33 = .ok (.iload_n 2, 1) := by decide +kernel
theorem dX8_write_34 : decode cX8_write 34 = .ok (.idiv, 1) := by decide +kernel
theorem dX8_write_35 : decode cX8_write 35 = .ok (.bipush 10, 2) := by decide +kernel
theorem dX8_write_37 : decode cX8_write 37 = .ok (.irem, 1) := by decide +kernel
theorem dX8_write_38 : decode cX8_write 38 = .ok (.iadd, 1) := by decide +kernel
theorem dX8_write_39 : decode cX8_write 39 = .ok (.i2b, 1) := by decide +kernel
theorem dX8_write_40 : decode cX8_write 40 = .ok (.bastore, 1) := by decide +kernel
theorem dX8_write_41 : decode cX8_write 41 = .ok (.aload_n 0, 1) := by decide +kernel
theorem dX8_write_42 : decode cX8_write 42 = .ok (.dup, 1) := by decide +kernel
theorem dX8_write_43 : decode cX8_write 43 = .ok (.getfield 285, 3) := by decide +kernel
theorem dX8_write_46 : decode cX8_write 46 = .ok (.iconst 1, 1) := by decide +kernel
theorem dX8_write_47 : decode cX8_write 47 = .ok (.iadd, 1) := by decide +kernel
theorem dX8_write_48 : decode cX8_write 48 = .ok (.putfield 285, 3) := by decide +kernel
theorem dX8_write_51 : decode cX8_write 51 = .ok (.iload_n 2, 1) := by decide +kernel
theorem dX8_write_52 : decode cX8_write 52 = .ok (.bipush 10, 2) := by decide +kernel
theorem dX8_write_54 : decode cX8_write 54 = .ok (.idiv, 1) := by decide +kernel
theorem dX8_write_55 : decode cX8_write 55 = .ok (.istore_n 2, 1) := by decide +kernel
theorem dX8_write_56 : decode cX8_write 56 = .ok (.goto (-38), 3) := by decide +kernel
theorem dX8_write_59 : decode cX8_write 59 = .ok (.return_, 1) := by decide +kernel
set_option maxRecDepth 100000 in
theorem ggX8_written_X8_in : GoodIn wsX8_written wsX8_in := goodIn_r _ [8] rfl (by decide +kernel)
set_option maxRecDepth 100000 in
theorem gX8_written_X8_in : GoodIn wsX8_written (va_wsS RX8 49 yX8_in wsX8_in) := goodIn_app (goodIn_r _ [5, 6, 7] rfl (by decide +kernel)) ggX8_written_X8_in
set_option maxRecDepth 100000 in
theorem ggX8_written_X8_write : GoodIn wsX8_written wsX8_write := goodIn_r _ [12, 3, 2, 13, 14, 15, 16, 17, 18, 19, 20, 21, 22, 23, 24, 25, 26, 27, 28, 29, 30, 31, 32, 33, 34, 35, 36, 37, 38, 39, 40, 41, 42, 43] rfl (by decide +kernel)
set_option maxRecDepth 100000 in
theorem gX8_written_X8_write : GoodIn wsX8_written (wsV RX8 288 RX8 yX8_write wsX8_write) := goodIn_app (goodIn_r _ [9, 10, 11, 7] rfl (by decide +kernel)) ggX8_written_X8_write
theorem dX8_written_0 : decode cX8_written 0 = .ok (.iload_n 1, 1) := by decide +kernel
theorem dX8_written_1 : decode cX8_written 1 = .ok (.i2l, 1) := by decide +kernel
theorem dX8_written_2 : decode cX8_written 2 = .ok (.lconst 0, 1) := by decide +kernel
theorem dX8_written_3 : decode cX8_written 3 = .ok (.ldc2_w 47, 3) := by decide +kernel
theorem dX8_written_6 : decode cX8_written 6 = .ok (.invokestatic 49, 3) := by decide +kernel
theorem dX8_written_9 : decode cX8_written 9 = .ok (.ifCond .eq 7, 3) := by decide +kernel
theorem dX8_written_12 : decode cX8_written 12 = .ok (.iload_n 2, 1) := by decide +kernel
theorem dX8_written_13 : decode cX8_written 13 = .ok (.ifCond .ge 5, 3) := by decide +kernel
theorem dX8_written_16 : decode cX8_written 16 = .ok (.iconst (-1), 1) := by decide +kernel
theorem dX8_written_17 : decode cX8_written 17 = .ok (.ireturn, 1) := by decide +kernel
theorem dX8_written_18 : decode cX8_written 18 = .ok (.aload_n 0, 1) := by decide +kernel
theorem dX8_written_19 : decode cX8_written 19 = .ok (.iconst 0, 1) := by decide +kernel
theorem dX8_written_20 : decode cX8_written 20 = .ok (.putfield 285, 3) := by decide +kernel
theorem dX8_written_23 : decode cX8_written 23 = .ok (.aload_n 0, 1) := by decide +kernel
theorem dX8_written_24 : decode cX8_written 24 = .ok (.iload_n 1, 1) := by decide +kernel
theorem dX8_written_25 : decode cX8_written 25 = .ok (.invokevirtual 288, 3) := by decide +kernel
theorem dX8_written_28 : decode cX8_written 28 = .ok (.aload_n 0, 1) := by decide +kernel
theorem dX8_written_29 : decode cX8_written 29 = .ok (.getfield 40, 3) := by decide +kernel
theorem dX8_written_32 : decode cX8_written 32 = .ok (.aload_n 0, 1) := by decide +kernel
theorem dX8_written_33 : decode cX8_written 33 = .ok (.getfield 285, 3) := by decide +kernel
theorem dX8_written_36 : decode cX8_written 36 = .ok (.bipush 32, 2) := by decide +kernel
theorem dX8_written_38 : decode cX8_written 38 = .ok (.bastore, 1) := by decide +kernel
theorem dX8_written_39 : decode cX8_written 39 = .ok (.aload_n 0, 1) := by decide +kernel
theorem dX8_written_40 : decode cX8_written 40 = .ok (.dup, 1) := by decide +kernel
theorem dX8_written_41 : decode cX8_written 41 = .ok (.getfield 285, 3) := by decide +kernel
theorem dX8_written_44 : decode cX8_written 44 = .ok (.iconst 1, 1) := by decide +kernel
theorem dX8_written_45 : decode cX8_written 45 = .ok (.iadd, 1) := by decide +kernel
theorem dX8_written_46 : decode cX8_written 46 = .ok (.putfield 285, 3) := by decide +kernel
theorem dX8_written_49 : decode cX8_written 49 = .ok (.aload_n 0, 1) := by decide +kernel
theorem dX8_written_50 : decode cX8_written 50 = .ok (.aload_n 0, 1) := by decide +kernel
theorem dX8_written_51 : decode cX8_written 51 = .ok (.getfield 7, 3) := by decide +kernel
theorem dX8_written_54 : decode cX8_written 54 = .ok (.iload_n 1, 1) := by decide +kernel
theorem dX8_written_55 : decode cX8_written 55 = .ok (.iaload, 1) := by decide +kernel
theorem dX8_written_56 : decode cX8_written 56 = .ok (.bipush 12, 2) := by decide +kernel
theorem dX8_written_58 : decode cX8_written 58 = .ok (.ishr, 1) := by decide +kernel
theorem dX8_written_59 : decode cX8_written 59 = .ok (.bipush 31, 2) := by decide +kernel
theorem dX8_written_61 : decode cX8_written 61 = .ok (.iand, 1) := by decide +kernel
theorem dX8_written_62 : decode cX8_written 62 = .ok (.invokevirtual 288, 3) := by decide +kernel
theorem dX8_written_65 : decode cX8_written 65 = .ok (.aload_n 0, 1) := by decide +kernel
theorem dX8_written_66 : decode cX8_written 66 = .ok (.getfield 40, 3) := by decide +kernel
theorem dX8_written_69 : decode cX8_written 69 = .ok (.aload_n 0, 1) := by decide +kernel
theorem dX8_written_70 : decode cX8_written 70 = .ok (.getfield 285, 3) := by decide +kernel
theorem dX8_written_73 : decode cX8_written 73 = .ok (.aload_n 0, 1) := by decide +kernel
theorem dX8_written_74 : decode cX8_written 74 = .ok (.getfield 7, 3) := by decide +kernel
theorem dX8_written_77 : decode cX8_written 77 = .ok (.iload_n 1, 1) := by decide +kernel
theorem dX8_written_78 : decode cX8_written 78 = .ok (.iaload, 1) := by decide +kernel
theorem dX8_written_79 : decode cX8_written 79 = .ok (.bipush 17, 2) := by decide +kernel
theorem dX8_written_81 : decode cX8_written 81 = .ok (.ishr, 1) := by decide +kernel
theorem dX8_written_82 : decode cX8_written 82 = .ok (.iconst 1, 1) := by decide +kernel
theorem dX8_written_83 : decode cX8_written 83 = .ok (.iand, 1) := by decide +kernel
theorem dX8_written_84 : decode cX8_written 84 = .ok (.iconst 1, 1) := by decide +kernel
theorem dX8_written_85 : decode cX8_written 85 = .ok (.if_icmp .ne 8, 3) := by decide +kernel
theorem dX8_written_88 : decode cX8_written 88 = .ok (.bipush 45, 2) := by decide +kernel
theorem dX8_written_90 : decode cX8_written 90 = .ok (.goto 5, 3) := by decide +kernel
theorem dX8_written_93 : decode cX8_written 93 = .ok (.bipush 43, 2) := by decide +kernel
theorem dX8_written_95 : decode cX8_written 95 = .ok (.i2b, 1) := by decide +kernel
theorem dX8_written_96 : decode cX8_written 96 = .ok (.bastore, 1) := by decide +kernel
theorem dX8_written_97 : decode cX8_written 97 = .ok (.aload_n 0, 1) := by decide +kernel
theorem dX8_written_98 : decode cX8_written 98 = .ok (.dup, 1) := by decide +kernel
theorem dX8_written_99 : decode cX8_written 99 = .ok (.getfield 285, 3) := by decide +kernel
theorem dX8_written_102 : decode cX8_written 102 = .ok (.iconst 1, 1) := by decide +kernel
theorem dX8_written_103 : decode cX8_written 103 = .ok (.iadd, 1) := by decide +kernel
theorem dX8_written_104 : decode cX8_written 104 = .ok (.putfield 285, 3) := by decide +kernel
theorem dX8_written_107 : decode cX8_written 107 = .ok (.aload_n 0, 1) := by decide +kernel
theorem dX8_written_108 : decode cX8_written 108 = .ok (.aload_n 0, 1) := by decide +kernel
theorem dX8_written_109 : decode cX8_written 109 = .ok (.getfield 7, 3) := by decide +kernel
theorem dX8_written_112 : decode cX8_written 112 = .ok (.iload_n 1, 1) := by decide +kernel
theorem dX8_written_113 : decode cX8_written 113 = .ok (.iaload, 1) := by decide +kernel
theorem dX8_written_114 : decode cX8_written 114 = .ok (.sipush 4095, 3) := by decide +kernel
theorem dX8_written_117 : decode cX8_written 117 = .ok (.iand, 1) := by decide +kernel
theorem dX8_written_118 : decode cX8_written 118 = .ok (.invokevirtual 288, 3) := by decide +kernel
theorem dX8_written_121 : decode cX8_written 121 = .ok (.iload_n 2, 1) := by decide +kernel
theorem dX8_written_122 : decode cX8_written 122 = .ok (.aload_n 0, 1) := by decide +kernel
theorem dX8_written_123 : decode cX8_written 123 = .ok (.getfield 285, 3) := by decide +kernel
theorem dX8_written_126 : decode cX8_written 126 = .ok (.if_icmp .ge 12, 3) := by decide +kernel
theorem dX8_written_129 : decode cX8_written 129 = .ok (.aload_n 0, 1) := by decide +kernel
theorem dX8_written_130 : decode cX8_written 130 = .ok (.getfield 40, 3) := by decide +kernel
theorem dX8_written_133 : decode cX8_written 133 = .ok (.iload_n 2, 1) := by decide +kernel
theorem dX8_written_134 : decode cX8_written 134 = .ok (.baload, 1) := by decide +kernel
theorem dX8_written_135 : decode cX8_written 135 = .ok (.goto 5, 3) := by decide +kernel
theorem dX8_written_138 : decode cX8_written 138 = .ok (.bipush (-9), 2) := by decide +kernel
theorem dX8_written_140 : decode cX8_written 140 = .ok (.ireturn, 1) := by decide +kernel
set_option maxRecDepth 100000 in
theorem ggX8_digest_X8_told : GoodIn wsX8_digest wsX8_told := goodIn_td 40 (goodIn_r _ [12, 13, 14, 15, 16, 17, 18, 19, 20, 21, 22, 23, 24, 25, 26, 27, 28, 29, 30, 31, 32, 33, 34, 35, 36, 37, 38, 39, 40, 41, 42, 43, 44, 45, 46, 47, 48, 49, 50, 51] rfl (by decide +kernel)) (goodIn_r _ [52, 53, 54] rfl (by decide +kernel))
set_option maxRecDepth 100000 in
theorem gX8_digest_X8_told : GoodIn wsX8_digest (wsV RX8 295 RX8 yX8_told wsX8_told) := goodIn_app (goodIn_r _ [8, 9, 10, 11] rfl (by decide +kernel)) ggX8_digest_X8_told
theorem dX8_digest_0 : decode cX8_digest 0 = .ok (.ldc2_w 291, 3) := by decide +kernel
theorem dX8_digest_3 : decode cX8_digest 3 = .ok (.lstore_n 1, 1) := by decide +kernel
theorem dX8_digest_4 : decode cX8_digest 4 = .ok (.iconst 0, 1) := by decide +kernel
theorem dX8_digest_5 : decode cX8_digest 5 = .ok (.istore_n 3, 1) := by decide +kernel
theorem dX8_digest_6 : decode cX8_digest 6 = .ok (.iload_n 3, 1) := by decide +kernel
theorem dX8_digest_7 : decode cX8_digest 7 = .ok (.sipush 512, 3) := by decide +kernel
theorem dX8_digest_10 : decode cX8_digest 10 = .ok (.if_icmp .ge 23, 3) := by decide +kernel
theorem dX8_digest_13 : decode cX8_digest 13 = .ok (.ldc2_w 293, 3) := by decide +kernel
theorem dX8_digest_16 : decode cX8_digest 16 = .ok (.lload_n 1, 1) := by decide +kernel
theorem dX8_digest_17 : decode cX8_digest 17 = .ok (.lmul, 1) := by decide +kernel
theorem dX8_digest_18 : decode cX8_digest 18 = .ok (.aload_n 0, 1) := by decide +kernel
theorem dX8_digest_19 : decode cX8_digest 19 = .ok (.getfield 7, 3) := by decide +kernel
theorem dX8_digest_22 : decode cX8_digest 22 = .ok (.iload_n 3, 1) := by decide +kernel
theorem dX8_digest_23 : decode cX8_digest 23 = .ok (.iaload, 1) := by decide +kernel
theorem dX8_digest_24 : decode cX8_digest 24 = .ok (.i2l, 1) := by decide +kernel
theorem dX8_digest_25 : decode cX8_digest 25 = .ok (.ladd, 1) := by decide +kernel
theorem dX8_digest_26 : decode cX8_digest 26 = .ok (.lstore_n 1, 1) := by decide +kernel
theorem dX8_digest_27 : decode cX8_digest 27 = .ok (.iinc 3 1, 3) := by decide +kernel
theorem dX8_digest_30 : decode cX8_digest 30 = .ok (.goto (-24), 3) := by decide +kernel
theorem dX8_digest_33 : decode cX8_digest 33 = .ok (.iconst 0, 1) := by decide +kernel
theorem dX8_digest_34 : decode cX8_digest 34 = .ok (.istore_n 3, 1) := by decide +kernel
theorem dX8_digest_35 : decode cX8_digest 35 = .ok (.iload_n 3, 1) := by decide +kernel
theorem dX8_digest_36 : decode cX8_digest 36 = .ok (.bipush 10, 2) := by decide +kernel
theorem dX8_digest_38 : decode cX8_digest 38 = .ok (.if_icmp .ge 21, 3) := by decide +kernel
theorem dX8_digest_41 : decode cX8_digest 41 = .ok (.ldc2_w 293, 3) := by decide +kernel
theorem dX8_digest_44 : decode cX8_digest 44 = .ok (.lload_n 1, 1) := by decide +kernel
theorem dX8_digest_45 : decode cX8_digest 45 = .ok (.lmul, 1) := by decide +kernel
theorem dX8_digest_46 : decode cX8_digest 46 = .ok (.aload_n 0, 1) := by decide +kernel
theorem dX8_digest_47 : decode cX8_digest 47 = .ok (.iload_n 3, 1) := by decide +kernel
theorem dX8_digest_48 : decode cX8_digest 48 = .ok (.invokevirtual 295, 3) := by decide +kernel
theorem dX8_digest_51 : decode cX8_digest 51 = .ok (.ladd, 1) := by decide +kernel
theorem dX8_digest_52 : decode cX8_digest 52 = .ok (.lstore_n 1, 1) := by decide +kernel
theorem dX8_digest_53 : decode cX8_digest 53 = .ok (.iinc 3 1, 3) := by decide +kernel
theorem dX8_digest_56 : decode cX8_digest 56 = .ok (.goto (-21), 3) := by decide +kernel
theorem dX8_digest_59 : decode cX8_digest 59 = .ok (.iconst 0, 1) := by decide +kernel
theorem dX8_digest_60 : decode cX8_digest 60 = .ok (.istore_n 3, 1) := by decide +kernel
theorem dX8_digest_61 : decode cX8_digest 61 = .ok (.iload_n 3, 1) := by decide +kernel
theorem dX8_digest_62 : decode cX8_digest 62 = .ok (.iconst 4, 1) := by decide +kernel
theorem dX8_digest_63 : decode cX8_digest 63 = .ok (.if_icmp .ge 75, 3) := by decide +kernel
theorem dX8_digest_66 : decode cX8_digest 66 = .ok (.ldc2_w 293, 3) := by decide +kernel
theorem dX8_digest_69 : decode cX8_digest 69 = .ok (.ldc2_w 293, 3) := by decide +kernel
theorem dX8_digest_72 : decode cX8_digest 72 = .ok (.lload_n 1, 1) := by decide +kernel
theorem dX8_digest_73 : decode cX8_digest 73 = .ok (.lmul, 1) := by decide +kernel
theorem dX8_digest_74 : decode cX8_digest 74 = .ok (.aload_n 0, 1) := by decide +kernel
theorem dX8_digest_75 : decode cX8_digest 75 = .ok (.getfield 17, 3) := by decide +kernel
theorem dX8_digest_78 : decode cX8_digest 78 = .ok (.iload_n 3, 1) := by decide +kernel
theorem dX8_digest_79 : decode cX8_digest 79 = .ok (.iaload, 1) := by decide +kernel
theorem dX8_digest_80 : decode cX8_digest 80 = .ok (.i2l, 1) := by decide +kernel
theorem dX8_digest_81 : decode cX8_digest 81 = .ok (.ladd, 1) := by decide +kernel
theorem dX8_digest_82 : decode cX8_digest 82 = .ok (.lmul, 1) := by decide +kernel
theorem dX8_digest_83 : decode cX8_digest 83 = .ok (.aload_n 0, 1) := by decide +kernel
theorem dX8_digest_84 : decode cX8_digest 84 = .ok (.getfield 20, 3) := by decide +kernel
theorem dX8_digest_87 : decode cX8_digest 87 = .ok (.iload_n 3, 1) := by decide +kernel
theorem dX8_digest_88 : decode cX8_digest 88 = .ok (.iaload, 1) := by decide +kernel
theorem dX8_digest_89 : decode cX8_digest 89 = .ok (.i2l, 1) := by decide +kernel
theorem dX8_digest_90 : decode cX8_digest 90 = .ok (.ladd, 1) := by decide +kernel
theorem dX8_digest_91 : decode cX8_digest 91 = .ok (.lstore_n 1, 1) := by decide +kernel
theorem dX8_digest_92 : decode cX8_digest 92 = .ok (.iconst 0, 1) := by decide +kernel
theorem dX8_digest_93 : decode cX8_digest 93 = .ok (.istore 4, 2) := by decide +kernel
theorem dX8_digest_95 : decode cX8_digest 95 = .ok (.iload 4, 2) := by decide +kernel
theorem dX8_digest_97 : decode cX8_digest 97 = .ok (.aload_n 0, 1) := by decide +kernel
theorem dX8_digest_98 : decode cX8_digest 98 = .ok (.getfield 17, 3) := by decide +kernel
theorem dX8_digest_101 : decode cX8_digest 101 = .ok (.iload_n 3, 1) := by decide +kernel
theorem dX8_digest_102 : decode cX8_digest 102 = .ok (.iaload, 1) := by decide +kernel
theorem dX8_digest_103 : decode cX8_digest 103 = .ok (.if_icmp .ge 29, 3) := by decide +kernel
theorem dX8_digest_106 : decode cX8_digest 106 = .ok (.ldc2_w 293, 3) := by decide +kernel
theorem dX8_digest_109 : decode cX8_digest 109 = .ok (.lload_n 1, 1) := by decide +kernel
theorem dX8_digest_110 : decode cX8_digest 110 = .ok (.lmul, 1) := by decide +kernel
theorem dX8_digest_111 : decode cX8_digest 111 = .ok (.aload_n 0, 1) := by decide +kernel
theorem dX8_digest_112 : decode cX8_digest 112 = .ok (.getfield 13, 3) := by decide +kernel
theorem dX8_digest_115 : decode cX8_digest 115 = .ok (.sipush 300, 3) := by decide +kernel
theorem dX8_digest_118 : decode cX8_digest 118 = .ok (.iload_n 3, 1) := by decide +kernel
theorem dX8_digest_119 : decode cX8_digest 119 = .ok (.imul, 1) := by decide +kernel
theorem dX8_digest_120 : decode cX8_digest 120 = .ok (.iload 4, 2) := by decide +kernel
theorem dX8_digest_122 : decode cX8_digest 122 = .ok (.iadd, 1) := by decide +kernel
theorem dX8_digest_123 : decode cX8_digest 123 = .ok (.laload, 1) := by decide +kernel
theorem dX8_digest_124 : decode cX8_digest 124 = .ok (.ladd, 1) := by decide +kernel
theorem dX8_digest_125 : decode cX8_digest 125 = .ok (.lstore_n 1, 1) := by decide +kernel
theorem dX8_digest_126 : decode cX8_digest 126 = .ok (.iinc 4 1, 3) := by decide +kernel
theorem dX8_digest_129 : decode cX8_digest 129 = .ok (.goto (-34), 3) := by decide +kernel
theorem dX8_digest_132 : decode cX8_digest 132 = .ok (.iinc 3 1, 3) := by decide +kernel
theorem dX8_digest_135 : decode cX8_digest 135 = .ok (.goto (-74), 3) := by decide +kernel
theorem dX8_digest_138 : decode cX8_digest 138 = .ok (.iconst 0, 1) := by decide +kernel
theorem dX8_digest_139 : decode cX8_digest 139 = .ok (.istore_n 3, 1) := by decide +kernel
theorem dX8_digest_140 : decode cX8_digest 140 = .ok (.iload_n 3, 1) := by decide +kernel
theorem dX8_digest_141 : decode cX8_digest 141 = .ok (.sipush 256, 3) := by decide +kernel
theorem dX8_digest_144 : decode cX8_digest 144 = .ok (.if_icmp .ge 22, 3) := by decide +kernel
theorem dX8_digest_147 : decode cX8_digest 147 = .ok (.ldc2_w 293, 3) := by decide +kernel
theorem dX8_digest_150 : decode cX8_digest 150 = .ok (.lload_n 1, 1) := by decide +kernel
theorem dX8_digest_151 : decode cX8_digest 151 = .ok (.lmul, 1) := by decide +kernel
theorem dX8_digest_152 : decode cX8_digest 152 = .ok (.aload_n 0, 1) := by decide +kernel
theorem dX8_digest_153 : decode cX8_digest 153 = .ok (.getfield 23, 3) := by decide +kernel
theorem dX8_digest_156 : decode cX8_digest 156 = .ok (.iload_n 3, 1) := by decide +kernel
theorem dX8_digest_157 : decode cX8_digest 157 = .ok (.laload, 1) := by decide +kernel
theorem dX8_digest_158 : decode cX8_digest 158 = .ok (.ladd, 1) := by decide +kernel
theorem dX8_digest_159 : decode cX8_digest 159 = .ok (.lstore_n 1, 1) := by decide +kernel
theorem dX8_digest_160 : decode cX8_digest 160 = .ok (.iinc 3 1, 3) := by decide +kernel
theorem dX8_digest_163 : decode cX8_digest 163 = .ok (.goto (-23), 3) := by decide +kernel
theorem dX8_digest_166 : decode cX8_digest 166 = .ok (.lload_n 1, 1) := by decide +kernel
theorem dX8_digest_167 : decode cX8_digest 167 = .ok (.lreturn, 1) := by decide +kernel
set_option maxRecDepth 100000 in
theorem ggL_law_X7_init : GoodIn lw_tbl wsX7_init := goodIn_td 40 (goodIn_r _ [71, 72, 73, 74, 75, 76, 59, 214, 86, 87, 60, 215, 113, 114, 61, 216, 170, 171, 64, 217, 201, 202, 65, 218, 77, 78, 79, 80, 85, 81, 89, 90, 91, 115, 116, 117, 118, 119, 155, 121] rfl (by decide +kernel)) (goodIn_td 40 (goodIn_r _ [62, 141, 142, 63, 156, 122, 123, 124, 125, 140, 126, 143, 144, 145, 146, 147, 172, 173, 174, 175, 200, 176, 179, 203, 204, 205, 206, 207, 82, 225, 227, 229, 231, 233, 235, 237, 239, 241, 243, 245] rfl (by decide +kernel)) (goodIn_r _ [102, 104, 106, 108, 110, 161, 163, 165, 167, 185, 187, 189, 191, 193, 195, 197, 209, 211, 133, 135, 137, 150, 152] rfl (by decide +kernel)))
theorem gL_law_X7_init : GoodIn lw_tbl (wsX7_init) := ggL_law_X7_init
set_option maxRecDepth 100000 in
theorem ggL_law_X8_init : GoodIn lw_tbl wsX8_init := goodIn_td 40 (goodIn_r _ [652, 653, 73, 74, 85, 654, 140, 668, 669, 670, 671, 200, 676, 680, 681, 748, 682, 683, 666, 685, 687, 689, 691, 693, 695, 697, 699, 701, 703, 705, 707, 709, 711, 713, 715, 717, 719, 721, 723, 725] rfl (by decide +kernel)) (goodIn_r _ [727, 729, 731, 733, 735, 737, 739, 741, 743, 745] rfl (by decide +kernel))
theorem gL_law_X8_init : GoodIn lw_tbl (wsX8_init) := ggL_law_X8_init
set_option maxRecDepth 100000 in
theorem ggL_law_X7_half : GoodIn lw_tbl wsX7_half := goodIn_r _ [251, 214, 252, 253, 58, 254, 255, 256, 257, 59, 258, 81, 225, 227, 229, 231, 233, 235, 237, 239, 241, 243, 245, 82] rfl (by decide +kernel)
set_option maxRecDepth 100000 in
theorem gL_law_X7_half : GoodIn lw_tbl (wsV RL 13 RX7 yX7_half wsX7_half) := goodIn_app (goodIn_r _ [248, 249, 250, 58] rfl (by decide +kernel)) ggL_law_X7_half
set_option maxRecDepth 100000 in
theorem ggL_law_X8_half : GoodIn lw_tbl wsX8_half := goodIn_r _ [752, 753, 654, 754, 755, 66, 756, 685, 687, 689, 691, 693, 695, 697, 699, 701, 703, 705, 707, 709, 711, 713, 715, 717, 719, 721, 723, 725, 727, 729, 731, 733, 735, 737, 739, 741, 743, 745] rfl (by decide +kernel)
set_option maxRecDepth 100000 in
theorem gL_law_X8_half : GoodIn lw_tbl (wsV RL 17 RX8 yX8_half wsX8_half) := goodIn_app (goodIn_r _ [749, 750, 751, 66] rfl (by decide +kernel)) ggL_law_X8_half
set_option maxRecDepth 100000 in
theorem ggL_law_X7_put : GoodIn lw_tbl wsX7_put := goodIn_r _ [263, 264, 214, 252, 253, 58, 254, 255, 256, 257, 59, 258, 81, 265, 266, 267, 268, 269, 225, 227, 229, 231, 233, 235, 237, 239, 241, 243, 245, 82] rfl (by decide +kernel)
set_option maxRecDepth 100000 in
theorem gL_law_X7_put : GoodIn lw_tbl (wsV RL 18 RX7 yX7_put wsX7_put) := goodIn_app (goodIn_r _ [260, 261, 262, 58] rfl (by decide +kernel)) ggL_law_X7_put
set_option maxRecDepth 100000 in
theorem ggL_law_X8_put : GoodIn lw_tbl wsX8_put := goodIn_r _ [760, 753, 761, 654, 754, 755, 66, 756, 685, 687, 689, 691, 693, 695, 697, 699, 701, 703, 705, 707, 709, 711, 713, 715, 717, 719, 721, 723, 725, 727, 729, 731, 733, 735, 737, 739, 741, 743, 745] rfl (by decide +kernel)
set_option maxRecDepth 100000 in
theorem gL_law_X8_put : GoodIn lw_tbl (wsV RL 22 RX8 yX8_put wsX8_put) := goodIn_app (goodIn_r _ [757, 758, 759, 66] rfl (by decide +kernel)) ggL_law_X8_put
set_option maxRecDepth 100000 in
theorem ggL_law_X7_whole : GoodIn lw_tbl wsX7_whole := goodIn_r _ [273, 214, 279, 252, 253, 58, 254, 274, 275, 276, 59, 277, 278, 256, 257, 258, 81, 225, 227, 229, 231, 233, 235, 237, 239, 241, 243, 245, 82] rfl (by decide +kernel)
set_option maxRecDepth 100000 in
theorem gL_law_X7_whole : GoodIn lw_tbl (wsV RL 23 RX7 yX7_whole wsX7_whole) := goodIn_app (goodIn_r _ [270, 271, 272, 58] rfl (by decide +kernel)) ggL_law_X7_whole
set_option maxRecDepth 100000 in
theorem ggL_law_X8_whole : GoodIn lw_tbl wsX8_whole := goodIn_td 40 (goodIn_r _ [765, 753, 770, 754, 755, 66, 756, 766, 768, 26, 769, 654, 685, 687, 689, 691, 693, 695, 697, 699, 701, 703, 705, 707, 709, 711, 713, 715, 717, 719, 721, 723, 725, 727, 729, 731, 733, 735, 737, 739] rfl (by decide +kernel)) (goodIn_r _ [741, 743, 745] rfl (by decide +kernel))
set_option maxRecDepth 100000 in
theorem gL_law_X8_whole : GoodIn lw_tbl (wsV RL 27 RX8 yX8_whole wsX8_whole) := goodIn_app (goodIn_r _ [762, 763, 764, 66] rfl (by decide +kernel)) ggL_law_X8_whole
set_option maxRecDepth 100000 in
theorem ggL_law_X7_told : GoodIn lw_tbl wsX7_told := goodIn_r _ [283, 215, 93, 95, 97, 99, 100, 219, 221, 216, 157, 149, 223, 159, 279, 225, 227, 229, 231, 233, 235, 237, 239, 241, 243, 245, 102, 104, 106, 108, 110, 161, 163, 165, 167, 150, 152] rfl (by decide +kernel)
set_option maxRecDepth 100000 in
theorem gL_law_X7_told : GoodIn lw_tbl (wsV RL 28 RX7 yX7_told wsX7_told) := goodIn_app (goodIn_r _ [280, 281, 282, 58] rfl (by decide +kernel)) ggL_law_X7_told
set_option maxRecDepth 100000 in
theorem ggL_law_X8_told : GoodIn lw_tbl wsX8_told := goodIn_td 40 (goodIn_r _ [774, 655, 656, 657, 658, 659, 660, 661, 663, 664, 666, 770, 685, 687, 689, 691, 693, 695, 697, 699, 701, 703, 705, 707, 709, 711, 713, 715, 717, 719, 721, 723, 725, 727, 729, 731, 733, 735, 737, 739] rfl (by decide +kernel)) (goodIn_r _ [741, 743, 745] rfl (by decide +kernel))
set_option maxRecDepth 100000 in
theorem gL_law_X8_told : GoodIn lw_tbl (wsV RL 31 RX8 yX8_told wsX8_told) := goodIn_app (goodIn_r _ [771, 772, 773, 66] rfl (by decide +kernel)) ggL_law_X8_told
set_option maxRecDepth 100000 in
theorem ggL_law_X7_set : GoodIn lw_tbl wsX7_set := goodIn_r _ [287, 215, 93, 95, 97, 99, 100, 219, 288, 289, 58, 290, 291, 292, 293, 279, 225, 227, 229, 231, 233, 235, 237, 239, 241, 243, 245, 102, 104, 106, 108, 110] rfl (by decide +kernel)
set_option maxRecDepth 100000 in
theorem gL_law_X7_set : GoodIn lw_tbl (wsV RL 34 RX7 yX7_set wsX7_set) := goodIn_app (goodIn_r _ [284, 285, 286, 58] rfl (by decide +kernel)) ggL_law_X7_set
set_option maxRecDepth 100000 in
theorem ggL_law_X8_set : GoodIn lw_tbl wsX8_set := goodIn_td 40 (goodIn_r _ [778, 779, 780, 753, 781, 655, 656, 657, 658, 659, 660, 754, 755, 66, 756, 685, 687, 689, 691, 693, 695, 697, 699, 701, 703, 705, 707, 709, 711, 713, 715, 717, 719, 721, 723, 725, 727, 729, 731, 733] rfl (by decide +kernel)) (goodIn_r _ [735, 737, 739, 741, 743, 745] rfl (by decide +kernel))
set_option maxRecDepth 100000 in
theorem gL_law_X8_set : GoodIn lw_tbl (wsV RL 38 RX8 yX8_set wsX8_set) := goodIn_app (goodIn_r _ [775, 776, 777, 66] rfl (by decide +kernel)) ggL_law_X8_set
set_option maxRecDepth 100000 in
theorem ggL_law_X7_turn : GoodIn lw_tbl wsX7_turn := goodIn_r _ [297, 222, 298, 299, 58, 300, 225, 227, 229, 231, 233, 235, 237, 239, 241, 243, 245] rfl (by decide +kernel)
set_option maxRecDepth 100000 in
theorem gL_law_X7_turn : GoodIn lw_tbl (wsV RL 39 RX7 yX7_turn wsX7_turn) := goodIn_app (goodIn_r _ [294, 295, 296, 58] rfl (by decide +kernel)) ggL_law_X7_turn
set_option maxRecDepth 100000 in
theorem ggL_law_X8_turn : GoodIn lw_tbl wsX8_turn := goodIn_r _ [785, 786, 662, 754, 755, 66, 756, 685, 687, 689, 691, 693, 695, 697, 699, 701, 703, 705, 707, 709, 711, 713, 715, 717, 719, 721, 723, 725, 727, 729, 731, 733, 735, 737, 739, 741, 743, 745] rfl (by decide +kernel)
set_option maxRecDepth 100000 in
theorem gL_law_X8_turn : GoodIn lw_tbl (wsV RL 43 RX8 yX8_turn wsX8_turn) := goodIn_app (goodIn_r _ [782, 783, 784, 66] rfl (by decide +kernel)) ggL_law_X8_turn
set_option maxRecDepth 100000 in
theorem ggL_law_X7_run : GoodIn lw_tbl wsX7_run := goodIn_td 40 (goodIn_r _ [304, 223, 305, 307, 0, 58, 308, 214, 219, 220, 216, 224, 255, 256, 257, 59, 258, 81, 253, 254, 309, 311, 1, 312, 313, 314, 315, 316, 318, 2, 319, 215, 320, 322, 3, 323, 324, 326, 4, 327] rfl (by decide +kernel)) (goodIn_td 40 (goodIn_r _ [100, 93, 95, 328, 329, 330, 60, 331, 92, 94, 333, 334, 292, 335, 336, 337, 338, 339, 340, 341, 342, 344, 343, 266, 267, 268, 269, 345, 347, 5, 348, 349, 350, 351, 352, 353, 275, 276, 277, 278] rfl (by decide +kernel)) (goodIn_td 40 (goodIn_r _ [265, 354, 355, 356, 357, 96, 98, 358, 359, 360, 361, 362, 364, 6, 365, 366, 101, 367, 368, 369, 370, 371, 372, 373, 374, 375, 376, 377, 378, 379, 380, 381, 382, 383, 384, 385, 386, 387, 388, 389] rfl (by decide +kernel)) (goodIn_td 40 (goodIn_r _ [390, 391, 61, 392, 158, 393, 394, 395, 396, 155, 397, 399, 7, 400, 160, 405, 401, 403, 8, 404, 406, 407, 408, 62, 409, 130, 127, 126, 410, 412, 9, 413, 418, 131, 414, 415, 416, 417, 419, 420] rfl (by decide +kernel)) (goodIn_td 40 (goodIn_r _ [421, 422, 156, 423, 424, 425, 63, 426, 148, 427, 429, 10, 430, 221, 222, 298, 299, 300, 431, 433, 11, 434, 159, 474, 435, 436, 437, 438, 439, 440, 441, 442, 443, 444, 445, 446, 147, 447, 448, 449] rfl (by decide +kernel)) (goodIn_td 40 (goodIn_r _ [450, 451, 460, 452, 453, 454, 455, 456, 457, 458, 459, 461, 462, 463, 464, 469, 465, 466, 467, 468, 470, 471, 472, 473, 475, 476, 477, 478, 479, 481, 12, 482, 483, 485, 13, 486, 487, 489, 14, 490] rfl (by decide +kernel)) (goodIn_r _ [491, 492, 493, 494, 496, 15, 497, 498, 499, 500, 501, 225, 227, 229, 231, 233, 235, 237, 239, 241, 243, 245, 82, 102, 104, 106, 108, 110, 161, 163, 165, 167, 133, 135, 137, 150, 152] rfl (by decide +kernel)))))))
set_option maxRecDepth 100000 in
theorem gL_law_X7_run : GoodIn lw_tbl (wsV RL 44 RX7 yX7_run wsX7_run) := goodIn_app (goodIn_r _ [301, 302, 303, 58] rfl (by decide +kernel)) ggL_law_X7_run
set_option maxRecDepth 100000 in
theorem ggL_law_X8_run : GoodIn lw_tbl wsX8_run := goodIn_td 40 (goodIn_r _ [820, 821, 664, 754, 755, 66, 756, 822, 824, 28, 825, 665, 654, 660, 672, 673, 659, 655, 656, 826, 827, 828, 781, 829, 830, 831, 832, 834, 29, 835, 667, 666, 836, 838, 30, 839, 802, 840, 842, 31] rfl (by decide +kernel)) (goodIn_td 40 (goodIn_r _ [843, 670, 668, 669, 844, 846, 32, 847, 674, 675, 657, 658, 848, 850, 33, 851, 852, 780, 766, 768, 26, 769, 853, 855, 34, 856, 857, 859, 35, 860, 779, 861, 862, 863, 864, 866, 36, 867, 761, 868] rfl (by decide +kernel)) (goodIn_td 40 (goodIn_r _ [870, 37, 871, 872, 874, 38, 875, 876, 877, 879, 39, 880, 881, 882, 884, 40, 885, 886, 888, 41, 889, 890, 892, 42, 893, 894, 896, 43, 897, 898, 900, 44, 901, 902, 904, 45, 905, 671, 663, 796] rfl (by decide +kernel)) (goodIn_td 40 (goodIn_r _ [906, 908, 46, 909, 910, 912, 47, 913, 914, 916, 48, 917, 924, 925, 803, 918, 920, 49, 921, 922, 923, 661, 662, 685, 687, 689, 691, 693, 695, 697, 699, 701, 703, 705, 707, 709, 711, 713, 715, 717] rfl (by decide +kernel)) (goodIn_r _ [719, 721, 723, 725, 727, 729, 731, 733, 735, 737, 739, 741, 743, 745] rfl (by decide +kernel)))))
set_option maxRecDepth 100000 in
theorem gL_law_X8_run : GoodIn lw_tbl (wsV RL 47 RX8 yX8_run wsX8_run) := goodIn_app (goodIn_r _ [817, 818, 819, 66] rfl (by decide +kernel)) ggL_law_X8_run
set_option maxRecDepth 100000 in
theorem ggL_law_X7_step : GoodIn lw_tbl wsX7_step := goodIn_td 40 (goodIn_r _ [505, 223, 305, 307, 0, 58, 308, 214, 219, 220, 216, 224, 255, 256, 257, 59, 258, 81, 253, 254, 309, 311, 1, 312, 313, 314, 315, 316, 318, 2, 319, 215, 320, 322, 3, 323, 324, 326, 4, 327] rfl (by decide +kernel)) (goodIn_td 40 (goodIn_r _ [100, 93, 95, 328, 329, 330, 60, 331, 92, 94, 333, 334, 292, 335, 336, 337, 338, 339, 340, 341, 342, 344, 343, 266, 267, 268, 269, 345, 347, 5, 348, 349, 350, 351, 352, 353, 275, 276, 277, 278] rfl (by decide +kernel)) (goodIn_td 40 (goodIn_r _ [265, 354, 355, 356, 357, 96, 98, 358, 359, 360, 361, 362, 364, 6, 365, 366, 101, 367, 368, 369, 370, 371, 372, 373, 374, 375, 376, 377, 378, 379, 380, 381, 382, 383, 384, 385, 386, 387, 388, 389] rfl (by decide +kernel)) (goodIn_td 40 (goodIn_r _ [390, 391, 61, 392, 158, 393, 394, 395, 396, 155, 397, 399, 7, 400, 160, 405, 401, 403, 8, 404, 406, 407, 408, 62, 409, 130, 127, 126, 410, 412, 9, 413, 418, 131, 414, 415, 416, 417, 419, 420] rfl (by decide +kernel)) (goodIn_td 40 (goodIn_r _ [421, 422, 156, 423, 424, 425, 63, 426, 148, 427, 429, 10, 430, 221, 222, 298, 299, 300, 431, 433, 11, 434, 159, 474, 435, 436, 437, 438, 439, 440, 441, 442, 443, 444, 445, 446, 147, 447, 448, 449] rfl (by decide +kernel)) (goodIn_td 40 (goodIn_r _ [450, 451, 460, 452, 453, 454, 455, 456, 457, 458, 459, 461, 462, 463, 464, 469, 465, 466, 467, 468, 470, 471, 472, 473, 475, 476, 477, 478, 479, 481, 12, 482, 483, 485, 13, 486, 487, 489, 14, 490] rfl (by decide +kernel)) (goodIn_r _ [491, 492, 493, 494, 496, 15, 497, 498, 499, 500, 501, 225, 227, 229, 231, 233, 235, 237, 239, 241, 243, 245, 82, 102, 104, 106, 108, 110, 161, 163, 165, 167, 133, 135, 137, 150, 152] rfl (by decide +kernel)))))))
set_option maxRecDepth 100000 in
theorem gL_law_X7_step : GoodIn lw_tbl (wsV RL 48 RX7 yX7_step wsX7_step) := goodIn_app (goodIn_r _ [502, 503, 504, 58] rfl (by decide +kernel)) ggL_law_X7_step
set_option maxRecDepth 100000 in
theorem ggL_law_X8_step : GoodIn lw_tbl wsX8_step := goodIn_td 40 (goodIn_r _ [929, 664, 822, 824, 28, 66, 825, 665, 654, 660, 672, 673, 659, 655, 656, 826, 827, 828, 781, 829, 830, 831, 754, 755, 756, 832, 834, 29, 835, 667, 666, 836, 838, 30, 839, 802, 840, 842, 31, 843] rfl (by decide +kernel)) (goodIn_td 40 (goodIn_r _ [670, 668, 669, 844, 846, 32, 847, 674, 675, 657, 658, 848, 850, 33, 851, 852, 780, 766, 768, 26, 769, 853, 855, 34, 856, 857, 859, 35, 860, 779, 861, 862, 863, 864, 866, 36, 867, 761, 868, 870] rfl (by decide +kernel)) (goodIn_td 40 (goodIn_r _ [37, 871, 872, 874, 38, 875, 876, 877, 879, 39, 880, 881, 882, 884, 40, 885, 886, 888, 41, 889, 890, 892, 42, 893, 894, 896, 43, 897, 898, 900, 44, 901, 902, 904, 45, 905, 671, 663, 796, 906] rfl (by decide +kernel)) (goodIn_td 40 (goodIn_r _ [908, 46, 909, 910, 912, 47, 913, 914, 916, 48, 917, 924, 925, 803, 918, 920, 49, 921, 922, 923, 661, 662, 685, 687, 689, 691, 693, 695, 697, 699, 701, 703, 705, 707, 709, 711, 713, 715, 717, 719] rfl (by decide +kernel)) (goodIn_r _ [721, 723, 725, 727, 729, 731, 733, 735, 737, 739, 741, 743, 745] rfl (by decide +kernel)))))
set_option maxRecDepth 100000 in
theorem gL_law_X8_step : GoodIn lw_tbl (wsV RL 52 RX8 yX8_step wsX8_step) := goodIn_app (goodIn_r _ [926, 927, 928, 66] rfl (by decide +kernel)) ggL_law_X8_step
set_option maxRecDepth 100000 in
theorem ggL_law_X7_acts : GoodIn lw_tbl wsX7_acts := goodIn_r _ [509, 224, 225, 227, 229, 231, 233, 235, 237, 239, 241, 243, 245] rfl (by decide +kernel)
set_option maxRecDepth 100000 in
theorem gL_law_X7_acts : GoodIn lw_tbl (wsV RL 53 RX7 yX7_acts wsX7_acts) := goodIn_app (goodIn_r _ [506, 507, 508, 58] rfl (by decide +kernel)) ggL_law_X7_acts
set_option maxRecDepth 100000 in
theorem ggL_law_X8_acts : GoodIn lw_tbl wsX8_acts := goodIn_r _ [933, 665, 685, 687, 689, 691, 693, 695, 697, 699, 701, 703, 705, 707, 709, 711, 713, 715, 717, 719, 721, 723, 725, 727, 729, 731, 733, 735, 737, 739, 741, 743, 745] rfl (by decide +kernel)
set_option maxRecDepth 100000 in
theorem gL_law_X8_acts : GoodIn lw_tbl (wsV RL 57 RX8 yX8_acts wsX8_acts) := goodIn_app (goodIn_r _ [930, 931, 932, 66] rfl (by decide +kernel)) ggL_law_X8_acts
set_option maxRecDepth 100000 in
theorem ggL_law_X7_item : GoodIn lw_tbl wsX7_item := goodIn_r _ [513, 216, 279, 514, 394, 395, 61, 396, 155, 515, 466, 467, 62, 468, 127, 126, 469, 225, 227, 229, 231, 233, 235, 237, 239, 241, 243, 245, 161, 163, 165, 167, 133, 135, 137] rfl (by decide +kernel)
set_option maxRecDepth 100000 in
theorem gL_law_X7_item : GoodIn lw_tbl (wsV RL 58 RX7 yX7_item wsX7_item) := goodIn_app (goodIn_r _ [510, 511, 512, 58] rfl (by decide +kernel)) ggL_law_X7_item
set_option maxRecDepth 100000 in
theorem ggL_law_X8_item : GoodIn lw_tbl wsX8_item := goodIn_td 40 (goodIn_r _ [790, 770, 669, 668, 796, 791, 793, 27, 66, 794, 795, 754, 755, 756, 685, 687, 689, 691, 693, 695, 697, 699, 701, 703, 705, 707, 709, 711, 713, 715, 717, 719, 721, 723, 725, 727, 729, 731, 733, 735] rfl (by decide +kernel)) (goodIn_r _ [737, 739, 741, 743, 745] rfl (by decide +kernel))
set_option maxRecDepth 100000 in
theorem gL_law_X8_item : GoodIn lw_tbl (wsV RL 62 RX8 yX8_item wsX8_item) := goodIn_app (goodIn_r _ [787, 788, 789, 66] rfl (by decide +kernel)) ggL_law_X8_item
set_option maxRecDepth 100000 in
theorem ggL_law_X7_lay : GoodIn lw_tbl wsX7_lay := goodIn_td 40 (goodIn_r _ [519, 216, 129, 514, 394, 395, 61, 396, 155, 520, 521, 58, 522, 523, 474, 524, 525, 526, 527, 62, 528, 127, 126, 225, 227, 229, 231, 233, 235, 237, 239, 241, 243, 245, 133, 135, 137, 161, 163, 165] rfl (by decide +kernel)) (goodIn_r _ [167] rfl (by decide +kernel))
set_option maxRecDepth 100000 in
theorem gL_law_X7_lay : GoodIn lw_tbl (wsV RL 63 RX7 yX7_lay wsX7_lay) := goodIn_app (goodIn_r _ [516, 517, 518, 58] rfl (by decide +kernel)) ggL_law_X7_lay
set_option maxRecDepth 100000 in
theorem ggL_law_X8_lay : GoodIn lw_tbl wsX8_lay := goodIn_td 40 (goodIn_r _ [800, 801, 802, 803, 669, 668, 791, 793, 27, 66, 794, 795, 754, 755, 756, 685, 687, 689, 691, 693, 695, 697, 699, 701, 703, 705, 707, 709, 711, 713, 715, 717, 719, 721, 723, 725, 727, 729, 731, 733] rfl (by decide +kernel)) (goodIn_r _ [735, 737, 739, 741, 743, 745] rfl (by decide +kernel))
set_option maxRecDepth 100000 in
theorem gL_law_X8_lay : GoodIn lw_tbl (wsV RL 66 RX8 yX8_lay wsX8_lay) := goodIn_app (goodIn_r _ [797, 798, 799, 66] rfl (by decide +kernel)) ggL_law_X8_lay
set_option maxRecDepth 100000 in
theorem ggL_law_X7_stands : GoodIn lw_tbl wsX7_stands := goodIn_r _ [532, 216, 132, 514, 394, 395, 61, 396, 155, 225, 227, 229, 231, 233, 235, 237, 239, 241, 243, 245, 133, 135, 137, 161, 163, 165, 167] rfl (by decide +kernel)
set_option maxRecDepth 100000 in
theorem gL_law_X7_stands : GoodIn lw_tbl (wsV RL 67 RX7 yX7_stands wsX7_stands) := goodIn_app (goodIn_r _ [529, 530, 531, 58] rfl (by decide +kernel)) ggL_law_X7_stands
set_option maxRecDepth 100000 in
theorem ggL_law_X8_stands : GoodIn lw_tbl wsX8_stands := goodIn_td 40 (goodIn_r _ [807, 670, 791, 793, 27, 66, 794, 795, 754, 755, 756, 685, 687, 689, 691, 693, 695, 697, 699, 701, 703, 705, 707, 709, 711, 713, 715, 717, 719, 721, 723, 725, 727, 729, 731, 733, 735, 737, 739, 741] rfl (by decide +kernel)) (goodIn_r _ [743, 745] rfl (by decide +kernel))
set_option maxRecDepth 100000 in
theorem gL_law_X8_stands : GoodIn lw_tbl (wsV RL 70 RX8 yX8_stands wsX8_stands) := goodIn_app (goodIn_r _ [804, 805, 806, 66] rfl (by decide +kernel)) ggL_law_X8_stands
set_option maxRecDepth 100000 in
theorem ggL_law_X7_blank : GoodIn lw_tbl wsX7_blank := goodIn_r _ [536, 216, 537, 538, 539, 61, 540, 128, 158, 160, 393, 394, 395, 396, 155, 541, 542, 543, 62, 544, 127, 130, 225, 227, 229, 231, 233, 235, 237, 239, 241, 243, 245, 133, 135, 137, 161, 163, 165, 167] rfl (by decide +kernel)
set_option maxRecDepth 100000 in
theorem gL_law_X7_blank : GoodIn lw_tbl (wsV RL 71 RX7 yX7_blank wsX7_blank) := goodIn_app (goodIn_r _ [533, 534, 535, 58] rfl (by decide +kernel)) ggL_law_X7_blank
set_option maxRecDepth 100000 in
theorem ggL_law_X8_blank : GoodIn lw_tbl wsX8_blank := goodIn_td 40 (goodIn_r _ [811, 669, 670, 667, 666, 791, 793, 27, 66, 794, 795, 754, 755, 756, 685, 687, 689, 691, 693, 695, 697, 699, 701, 703, 705, 707, 709, 711, 713, 715, 717, 719, 721, 723, 725, 727, 729, 731, 733, 735] rfl (by decide +kernel)) (goodIn_r _ [737, 739, 741, 743, 745] rfl (by decide +kernel))
set_option maxRecDepth 100000 in
theorem gL_law_X8_blank : GoodIn lw_tbl (wsV RL 74 RX8 yX8_blank wsX8_blank) := goodIn_app (goodIn_r _ [808, 809, 810, 66] rfl (by decide +kernel)) ggL_law_X8_blank
set_option maxRecDepth 100000 in
theorem ggL_law_X7_drum : GoodIn lw_tbl wsX7_drum := goodIn_r _ [548, 279, 216, 157, 549, 457, 458, 63, 459, 147, 225, 227, 229, 231, 233, 235, 237, 239, 241, 243, 245, 161, 163, 165, 167, 150, 152] rfl (by decide +kernel)
set_option maxRecDepth 100000 in
theorem gL_law_X7_drum : GoodIn lw_tbl (wsV RL 75 RX7 yX7_drum wsX7_drum) := goodIn_app (goodIn_r _ [545, 546, 547, 58] rfl (by decide +kernel)) ggL_law_X7_drum
set_option maxRecDepth 100000 in
theorem ggL_law_X8_drum : GoodIn lw_tbl wsX8_drum := goodIn_r _ [815, 816, 671, 770, 754, 755, 66, 756, 685, 687, 689, 691, 693, 695, 697, 699, 701, 703, 705, 707, 709, 711, 713, 715, 717, 719, 721, 723, 725, 727, 729, 731, 733, 735, 737, 739, 741, 743, 745] rfl (by decide +kernel)
set_option maxRecDepth 100000 in
theorem gL_law_X8_drum : GoodIn lw_tbl (wsV RL 78 RX8 yX8_drum wsX8_drum) := goodIn_app (goodIn_r _ [812, 813, 814, 66] rfl (by decide +kernel)) ggL_law_X8_drum
set_option maxRecDepth 100000 in
theorem ggL_law_X7_feed : GoodIn lw_tbl wsX7_feed := goodIn_r _ [553, 217, 178, 554, 555, 556, 64, 557, 177, 176, 225, 227, 229, 231, 233, 235, 237, 239, 241, 243, 245, 185, 187, 189, 191, 193, 195, 197] rfl (by decide +kernel)
set_option maxRecDepth 100000 in
theorem gL_law_X7_feed : GoodIn lw_tbl (wsV RL 79 RX7 yX7_feed wsX7_feed) := goodIn_app (goodIn_r _ [550, 551, 552, 58] rfl (by decide +kernel)) ggL_law_X7_feed
set_option maxRecDepth 100000 in
theorem ggL_law_X8_feed : GoodIn lw_tbl wsX8_feed := goodIn_r _ [937, 938, 677, 676, 754, 755, 66, 756, 685, 687, 689, 691, 693, 695, 697, 699, 701, 703, 705, 707, 709, 711, 713, 715, 717, 719, 721, 723, 725, 727, 729, 731, 733, 735, 737, 739, 741, 743, 745] rfl (by decide +kernel)
set_option maxRecDepth 100000 in
theorem gL_law_X8_feed : GoodIn lw_tbl (wsV RL 83 RX8 yX8_feed wsX8_feed) := goodIn_app (goodIn_r _ [934, 935, 936, 66] rfl (by decide +kernel)) ggL_law_X8_feed
set_option maxRecDepth 100000 in
theorem ggL_law_X7_load : GoodIn lw_tbl wsX7_load := goodIn_td 40 (goodIn_r _ [561, 217, 214, 180, 178, 562, 563, 564, 64, 565, 181, 179, 177, 566, 568, 16, 569, 570, 182, 183, 604, 184, 606, 607, 608, 571, 573, 17, 574, 582, 583, 575, 577, 18, 578, 176, 579, 580, 581, 584] rfl (by decide +kernel)) (goodIn_td 40 (goodIn_r _ [586, 19, 587, 588, 589, 590, 591, 592, 594, 20, 595, 596, 598, 21, 599, 600, 602, 22, 603, 333, 58, 334, 292, 609, 611, 23, 612, 613, 340, 341, 59, 342, 344, 343, 266, 267, 268, 81, 269, 253] rfl (by decide +kernel)) (goodIn_r _ [254, 614, 615, 225, 227, 229, 231, 233, 235, 237, 239, 241, 243, 245, 185, 187, 189, 191, 193, 195, 197, 82] rfl (by decide +kernel)))
set_option maxRecDepth 100000 in
theorem gL_law_X7_load : GoodIn lw_tbl (wsV RL 84 RX7 yX7_load wsX7_load) := goodIn_app (goodIn_r _ [558, 559, 560, 58] rfl (by decide +kernel)) ggL_law_X7_load
set_option maxRecDepth 100000 in
theorem ggL_law_X8_load : GoodIn lw_tbl wsX8_load := goodIn_td 40 (goodIn_r _ [942, 678, 679, 677, 682, 680, 681, 654, 943, 945, 50, 66, 946, 947, 852, 971, 972, 973, 948, 950, 51, 951, 962, 960, 952, 954, 52, 955, 961, 956, 958, 53, 959, 676, 754, 755, 756, 963, 965, 54] rfl (by decide +kernel)) (goodIn_td 40 (goodIn_r _ [966, 967, 969, 55, 970, 868, 870, 37, 871, 761, 685, 687, 689, 691, 693, 695, 697, 699, 701, 703, 705, 707, 709, 711, 713, 715, 717, 719, 721, 723, 725, 727, 729, 731, 733, 735, 737, 739, 741, 743] rfl (by decide +kernel)) (goodIn_r _ [745] rfl (by decide +kernel)))
set_option maxRecDepth 100000 in
theorem gL_law_X8_load : GoodIn lw_tbl (wsV RL 87 RX8 yX8_load wsX8_load) := goodIn_app (goodIn_r _ [939, 940, 941, 66] rfl (by decide +kernel)) ggL_law_X8_load
set_option maxRecDepth 100000 in
theorem ggL_law_X7_written : GoodIn lw_tbl wsX7_written := goodIn_td 40 (goodIn_r _ [619, 218, 214, 252, 253, 58, 254, 255, 256, 257, 59, 258, 81, 620, 621, 622, 65, 623, 208, 624, 626, 24, 627, 628, 630, 25, 631, 207, 632, 633, 634, 635, 225, 227, 229, 231, 233, 235, 237, 239] rfl (by decide +kernel)) (goodIn_r _ [241, 243, 245, 82, 209, 211] rfl (by decide +kernel))
set_option maxRecDepth 100000 in
theorem gL_law_X7_written : GoodIn lw_tbl (wsV RL 88 RX7 yX7_written wsX7_written) := goodIn_app (goodIn_r _ [616, 617, 618, 58] rfl (by decide +kernel)) ggL_law_X7_written
set_option maxRecDepth 100000 in
theorem ggL_law_X8_written : GoodIn lw_tbl wsX8_written := goodIn_td 40 (goodIn_r _ [977, 753, 684, 683, 654, 754, 755, 66, 756, 978, 980, 56, 981, 685, 687, 689, 691, 693, 695, 697, 699, 701, 703, 705, 707, 709, 711, 713, 715, 717, 719, 721, 723, 725, 727, 729, 731, 733, 735, 737] rfl (by decide +kernel)) (goodIn_r _ [739, 741, 743, 745] rfl (by decide +kernel))
set_option maxRecDepth 100000 in
theorem gL_law_X8_written : GoodIn lw_tbl (wsV RL 91 RX8 yX8_written wsX8_written) := goodIn_app (goodIn_r _ [974, 975, 976, 66] rfl (by decide +kernel)) ggL_law_X8_written
set_option maxRecDepth 100000 in
theorem ggL_law_X7_digest : GoodIn lw_tbl wsX7_digest := goodIn_td 40 (goodIn_r _ [639, 640, 641, 214, 216, 157, 255, 256, 257, 59, 258, 81, 253, 58, 254, 642, 281, 282, 283, 215, 93, 95, 97, 99, 100, 219, 221, 149, 223, 159, 279, 514, 394, 395, 61, 396, 155, 643, 644, 645] rfl (by decide +kernel)) (goodIn_td 40 (goodIn_r _ [62, 646, 647, 127, 130, 465, 466, 467, 468, 126, 469, 549, 457, 458, 63, 459, 147, 225, 227, 229, 231, 233, 235, 237, 239, 241, 243, 245, 161, 163, 165, 167, 82, 102, 104, 106, 108, 110, 150, 152] rfl (by decide +kernel)) (goodIn_r _ [133, 135, 137] rfl (by decide +kernel)))
set_option maxRecDepth 100000 in
theorem gL_law_X7_digest : GoodIn lw_tbl (wsV RL 92 RX7 yX7_digest wsX7_digest) := goodIn_app (goodIn_r _ [636, 637, 638, 58] rfl (by decide +kernel)) ggL_law_X7_digest
set_option maxRecDepth 100000 in
theorem ggL_law_X8_digest : GoodIn lw_tbl wsX8_digest := goodIn_td 40 (goodIn_r _ [985, 986, 987, 654, 669, 670, 668, 671, 988, 772, 773, 66, 774, 655, 656, 657, 658, 659, 660, 661, 663, 664, 666, 770, 685, 687, 689, 691, 693, 695, 697, 699, 701, 703, 705, 707, 709, 711, 713, 715] rfl (by decide +kernel)) (goodIn_r _ [717, 719, 721, 723, 725, 727, 729, 731, 733, 735, 737, 739, 741, 743, 745] rfl (by decide +kernel))
set_option maxRecDepth 100000 in
theorem gL_law_X8_digest : GoodIn lw_tbl (wsV RL 95 RX8 yX8_digest wsX8_digest) := goodIn_app (goodIn_r _ [982, 983, 984, 66] rfl (by decide +kernel)) ggL_law_X8_digest
theorem dL_law_0 : decode cL_law 0 = .ok (.new 7, 3) := by decide +kernel
theorem dL_law_3 : decode cL_law 3 = .ok (.dup, 1) := by decide +kernel
theorem dL_law_4 : decode cL_law 4 = .ok (.invokespecial 9, 3) := by decide +kernel
theorem dL_law_7 : decode cL_law 7 = .ok (.astore_n 1, 1) := by decide +kernel
theorem dL_law_8 : decode cL_law 8 = .ok (.new 10, 3) := by decide +kernel
theorem dL_law_11 : decode cL_law 11 = .ok (.dup, 1) := by decide +kernel
theorem dL_law_12 : decode cL_law 12 = .ok (.invokespecial 12, 3) := by decide +kernel
theorem dL_law_15 : decode cL_law 15 = .ok (.astore_n 2, 1) := by decide +kernel
theorem dL_law_16 : decode cL_law 16 = .ok (.iconst 0, 1) := by decide +kernel
theorem dL_law_17 : decode cL_law 17 = .ok (.istore_n 3, 1) := by decide +kernel
theorem dL_law_18 : decode cL_law 18 = .ok (.iload_n 3, 1) := by decide +kernel
theorem dL_law_19 : decode cL_law 19 = .ok (.aload_n 0, 1) := by decide +kernel
theorem dL_law_20 : decode cL_law 20 = .ok (.arraylength, 1) := by decide +kernel
theorem dL_law_21 : decode cL_law 21 = .ok (.iconst 4, 1) := by decide +kernel
theorem dL_law_22 : decode cL_law 22 = .ok (.isub, 1) := by decide +kernel
theorem dL_law_23 : decode cL_law 23 = .ok (.if_icmp .gt 659, 3) := by decide +kernel
theorem dL_law_26 : decode cL_law 26 = .ok (.aload_n 0, 1) := by decide +kernel
theorem dL_law_27 : decode cL_law 27 = .ok (.iload_n 3, 1) := by decide +kernel
theorem dL_law_28 : decode cL_law 28 = .ok (.iaload, 1) := by decide +kernel
theorem dL_law_29 : decode cL_law 29 = .ok (.bipush 31, 2) := by decide +kernel
theorem dL_law_31 : decode cL_law 31 = .ok (.iand, 1) := by decide +kernel
theorem dL_law_32 : decode cL_law 32 = .ok (.tableswitch 644 0 17 #[88, 111, 144, 168, 192, 255, 304, 327, 340, 354, 388, 451, 474, 497, 521, 584, 597, 630], 88) := by decide +kernel
theorem dL_law_120 : decode cL_law 120 = .ok (.aload_n 1, 1) := by decide +kernel
theorem dL_law_121 : decode cL_law 121 = .ok (.aload_n 0, 1) := by decide +kernel
theorem dL_law_122 : decode cL_law 122 = .ok (.iload_n 3, 1) := by decide +kernel
theorem dL_law_123 : decode cL_law 123 = .ok (.iconst 1, 1) := by decide +kernel
theorem dL_law_124 : decode cL_law 124 = .ok (.iadd, 1) := by decide +kernel
theorem dL_law_125 : decode cL_law 125 = .ok (.iaload, 1) := by decide +kernel
theorem dL_law_126 : decode cL_law 126 = .ok (.invokevirtual 13, 3) := by decide +kernel
theorem dL_law_129 : decode cL_law 129 = .ok (.aload_n 2, 1) := by decide +kernel
theorem dL_law_130 : decode cL_law 130 = .ok (.aload_n 0, 1) := by decide +kernel
theorem dL_law_131 : decode cL_law 131 = .ok (.iload_n 3, 1) := by decide +kernel
theorem dL_law_132 : decode cL_law 132 = .ok (.iconst 1, 1) := by decide +kernel
theorem dL_law_133 : decode cL_law 133 = .ok (.iadd, 1) := by decide +kernel
theorem dL_law_134 : decode cL_law 134 = .ok (.iaload, 1) := by decide +kernel
theorem dL_law_135 : decode cL_law 135 = .ok (.invokevirtual 17, 3) := by decide +kernel
theorem dL_law_138 : decode cL_law 138 = .ok (.if_icmp .eq 538, 3) := by decide +kernel
theorem dL_law_141 : decode cL_law 141 = .ok (.iconst 0, 1) := by decide +kernel
theorem dL_law_142 : decode cL_law 142 = .ok (.ireturn, 1) := by decide +kernel
theorem dL_law_143 : decode cL_law 143 = .ok (.aload_n 1, 1) := by decide +kernel
theorem dL_law_144 : decode cL_law 144 = .ok (.aload_n 0, 1) := by decide +kernel
theorem dL_law_145 : decode cL_law 145 = .ok (.iload_n 3, 1) := by decide +kernel
theorem dL_law_146 : decode cL_law 146 = .ok (.iconst 1, 1) := by decide +kernel
theorem dL_law_147 : decode cL_law 147 = .ok (.iadd, 1) := by decide +kernel
theorem dL_law_148 : decode cL_law 148 = .ok (.iaload, 1) := by decide +kernel
theorem dL_law_149 : decode cL_law 149 = .ok (.aload_n 0, 1) := by decide +kernel
theorem dL_law_150 : decode cL_law 150 = .ok (.iload_n 3, 1) := by decide +kernel
theorem dL_law_151 : decode cL_law 151 = .ok (.iconst 2, 1) := by decide +kernel
theorem dL_law_152 : decode cL_law 152 = .ok (.iadd, 1) := by decide +kernel
theorem dL_law_153 : decode cL_law 153 = .ok (.iaload, 1) := by decide +kernel
theorem dL_law_154 : decode cL_law 154 = .ok (.invokevirtual 18, 3) := by decide +kernel
theorem dL_law_157 : decode cL_law 157 = .ok (.aload_n 2, 1) := by decide +kernel
theorem dL_law_158 : decode cL_law 158 = .ok (.aload_n 0, 1) := by decide +kernel
theorem dL_law_159 : decode cL_law 159 = .ok (.iload_n 3, 1) := by decide +kernel
theorem dL_law_160 : decode cL_law 160 = .ok (.iconst 1, 1) := by decide +kernel
theorem dL_law_161 : decode cL_law 161 = .ok (.iadd, 1) := by decide +kernel
theorem dL_law_162 : decode cL_law 162 = .ok (.iaload, 1) := by decide +kernel
theorem dL_law_163 : decode cL_law 163 = .ok (.aload_n 0, 1) := by decide +kernel
theorem dL_law_164 : decode cL_law 164 = .ok (.iload_n 3, 1) := by decide +kernel
theorem dL_law_165 : decode cL_law 165 = .ok (.iconst 2, 1) := by decide +kernel
theorem dL_law_166 : decode cL_law 166 = .ok (.iadd, 1) := by decide +kernel
theorem dL_law_167 : decode cL_law 167 = .ok (.iaload, 1) := by decide +kernel
theorem dL_law_168 : decode cL_law 168 = .ok (.invokevirtual 22, 3) := by decide +kernel
theorem dL_law_171 : decode cL_law 171 = .ok (.if_icmp .eq 505, 3) := by decide +kernel
theorem dL_law_174 : decode cL_law 174 = .ok (.iconst 0, 1) := by decide +kernel
theorem dL_law_175 : decode cL_law 175 = .ok (.ireturn, 1) := by decide +kernel
theorem dL_law_176 : decode cL_law 176 = .ok (.aload_n 1, 1) := by decide +kernel
theorem dL_law_177 : decode cL_law 177 = .ok (.aload_n 0, 1) := by decide +kernel
theorem dL_law_178 : decode cL_law 178 = .ok (.iload_n 3, 1) := by decide +kernel
theorem dL_law_179 : decode cL_law 179 = .ok (.iconst 1, 1) := by decide +kernel
theorem dL_law_180 : decode cL_law 180 = .ok (.iadd, 1) := by decide +kernel
theorem dL_law_181 : decode cL_law 181 = .ok (.iaload, 1) := by decide +kernel
theorem dL_law_182 : decode cL_law 182 = .ok (.invokevirtual 23, 3) := by decide +kernel
theorem dL_law_185 : decode cL_law 185 = .ok (.aload_n 2, 1) := by decide +kernel
theorem dL_law_186 : decode cL_law 186 = .ok (.aload_n 0, 1) := by decide +kernel
theorem dL_law_187 : decode cL_law 187 = .ok (.iload_n 3, 1) := by decide +kernel
theorem dL_law_188 : decode cL_law 188 = .ok (.iconst 1, 1) := by decide +kernel
theorem dL_law_189 : decode cL_law 189 = .ok (.iadd, 1) := by decide +kernel
theorem dL_law_190 : decode cL_law 190 = .ok (.iaload, 1) := by decide +kernel
theorem dL_law_191 : decode cL_law 191 = .ok (.invokevirtual 27, 3) := by decide +kernel
theorem dL_law_194 : decode cL_law 194 = .ok (.lcmp, 1) := by decide +kernel
theorem dL_law_195 : decode cL_law 195 = .ok (.ifCond .eq 481, 3) := by decide +kernel
theorem dL_law_198 : decode cL_law 198 = .ok (.iconst 0, 1) := by decide +kernel
theorem dL_law_199 : decode cL_law 199 = .ok (.ireturn, 1) := by decide +kernel
theorem dL_law_200 : decode cL_law 200 = .ok (.aload_n 1, 1) := by decide +kernel
theorem dL_law_201 : decode cL_law 201 = .ok (.aload_n 0, 1) := by decide +kernel
theorem dL_law_202 : decode cL_law 202 = .ok (.iload_n 3, 1) := by decide +kernel
theorem dL_law_203 : decode cL_law 203 = .ok (.iconst 1, 1) := by decide +kernel
theorem dL_law_204 : decode cL_law 204 = .ok (.iadd, 1) := by decide +kernel
theorem dL_law_205 : decode cL_law 205 = .ok (.iaload, 1) := by decide +kernel
theorem dL_law_206 : decode cL_law 206 = .ok (.invokevirtual 28, 3) := by decide +kernel
theorem dL_law_209 : decode cL_law 209 = .ok (.aload_n 2, 1) := by decide +kernel
theorem dL_law_210 : decode cL_law 210 = .ok (.aload_n 0, 1) := by decide +kernel
theorem dL_law_211 : decode cL_law 211 = .ok (.iload_n 3, 1) := by decide +kernel
theorem dL_law_212 : decode cL_law 212 = .ok (.iconst 1, 1) := by decide +kernel
theorem dL_law_213 : decode cL_law 213 = .ok (.iadd, 1) := by decide +kernel
theorem dL_law_214 : decode cL_law 214 = .ok (.iaload, 1) := by decide +kernel
theorem dL_law_215 : decode cL_law 215 = .ok (.invokevirtual 31, 3) := by decide +kernel
theorem dL_law_218 : decode cL_law 218 = .ok (.lcmp, 1) := by decide +kernel
theorem dL_law_219 : decode cL_law 219 = .ok (.ifCond .eq 457, 3) := by decide +kernel
theorem dL_law_222 : decode cL_law 222 = .ok (.iconst 0, 1) := by decide +kernel
theorem dL_law_223 : decode cL_law 223 = .ok (.ireturn, 1) := by decide +kernel
theorem dL_law_224 : decode cL_law 224 = .ok (.aload_n 1, 1) := by decide +kernel
theorem dL_law_225 : decode cL_law 225 = .ok (.aload_n 0, 1) := by decide +kernel
theorem dL_law_226 : decode cL_law 226 = .ok (.iload_n 3, 1) := by decide +kernel
theorem dL_law_227 : decode cL_law 227 = .ok (.iconst 1, 1) := by decide +kernel
theorem dL_law_228 : decode cL_law 228 = .ok (.iadd, 1) := by decide +kernel
theorem dL_law_229 : decode cL_law 229 = .ok (.iaload, 1) := by decide +kernel
theorem dL_law_230 : decode cL_law 230 = .ok (.aload_n 0, 1) := by decide +kernel
theorem dL_law_231 : decode cL_law 231 = .ok (.iload_n 3, 1) := by decide +kernel
theorem dL_law_232 : decode cL_law 232 = .ok (.iconst 2, 1) := by decide +kernel
theorem dL_law_233 : decode cL_law 233 = .ok (.iadd, 1) := by decide +kernel
theorem dL_law_234 : decode cL_law 234 = .ok (.iaload, 1) := by decide +kernel
theorem dL_law_235 : decode cL_law 235 = .ok (.i2l, 1) := by decide +kernel
theorem dL_law_236 : decode cL_law 236 = .ok (.bipush 32, 2) := by decide +kernel
theorem dL_law_238 : decode cL_law 238 = .ok (.lshl, 1) := by decide +kernel
theorem dL_law_239 : decode cL_law 239 = .ok (.aload_n 0, 1) := by decide +kernel
theorem dL_law_240 : decode cL_law 240 = .ok (.iload_n 3, 1) := by decide +kernel
theorem dL_law_241 : decode cL_law 241 = .ok (.iconst 3, 1) := by decide +kernel
theorem dL_law_242 : decode cL_law 242 = .ok (.iadd, 1) := by decide +kernel
theorem dL_law_243 : decode cL_law 243 = .ok (.iaload, 1) := by decide +kernel
theorem dL_law_244 : decode cL_law 244 = .ok (.i2l, 1) := by decide +kernel
theorem dL_law_245 : decode cL_law 245 = .ok (.ldc2_w 32, 3) := by decide +kernel
theorem dL_law_248 : decode cL_law 248 = .ok (.land, 1) := by decide +kernel
theorem dL_law_249 : decode cL_law 249 = .ok (.lor, 1) := by decide +kernel
theorem dL_law_250 : decode cL_law 250 = .ok (.invokevirtual 34, 3) := by decide +kernel
theorem dL_law_253 : decode cL_law 253 = .ok (.aload_n 2, 1) := by decide +kernel
theorem dL_law_254 : decode cL_law 254 = .ok (.aload_n 0, 1) := by decide +kernel
theorem dL_law_255 : decode cL_law 255 = .ok (.iload_n 3, 1) := by decide +kernel
theorem dL_law_256 : decode cL_law 256 = .ok (.iconst 1, 1) := by decide +kernel
theorem dL_law_257 : decode cL_law 257 = .ok (.iadd, 1) := by decide +kernel
theorem dL_law_258 : decode cL_law 258 = .ok (.iaload, 1) := by decide +kernel
theorem dL_law_259 : decode cL_law 259 = .ok (.aload_n 0, 1) := by decide +kernel
theorem dL_law_260 : decode cL_law 260 = .ok (.iload_n 3, 1) := by decide +kernel
theorem dL_law_261 : decode cL_law 261 = .ok (.iconst 2, 1) := by decide +kernel
theorem dL_law_262 : decode cL_law 262 = .ok (.iadd, 1) := by decide +kernel
theorem dL_law_263 : decode cL_law 263 = .ok (.iaload, 1) := by decide +kernel
theorem dL_law_264 : decode cL_law 264 = .ok (.i2l, 1) := by decide +kernel
theorem dL_law_265 : decode cL_law 265 = .ok (.bipush 32, 2) := by decide +kernel
theorem dL_law_267 : decode cL_law 267 = .ok (.lshl, 1) := by decide +kernel
theorem dL_law_268 : decode cL_law 268 = .ok (.aload_n 0, 1) := by decide +kernel
theorem dL_law_269 : decode cL_law 269 = .ok (.iload_n 3, 1) := by decide +kernel
theorem dL_law_270 : decode cL_law 270 = .ok (.iconst 3, 1) := by decide +kernel
theorem dL_law_271 : decode cL_law 271 = .ok (.iadd, 1) := by decide +kernel
theorem dL_law_272 : decode cL_law 272 = .ok (.iaload, 1) := by decide +kernel
theorem dL_law_273 : decode cL_law 273 = .ok (.i2l, 1) := by decide +kernel
theorem dL_law_274 : decode cL_law 274 = .ok (.ldc2_w 32, 3) := by decide +kernel
theorem dL_law_277 : decode cL_law 277 = .ok (.land, 1) := by decide +kernel
theorem dL_law_278 : decode cL_law 278 = .ok (.lor, 1) := by decide +kernel
theorem dL_law_279 : decode cL_law 279 = .ok (.invokevirtual 38, 3) := by decide +kernel
theorem dL_law_282 : decode cL_law 282 = .ok (.if_icmp .eq 394, 3) := by decide +kernel
theorem dL_law_285 : decode cL_law 285 = .ok (.iconst 0, 1) := by decide +kernel
theorem dL_law_286 : decode cL_law 286 = .ok (.ireturn, 1) := by decide +kernel
theorem dL_law_287 : decode cL_law 287 = .ok (.aload_n 1, 1) := by decide +kernel
theorem dL_law_288 : decode cL_law 288 = .ok (.aload_n 0, 1) := by decide +kernel
theorem dL_law_289 : decode cL_law 289 = .ok (.iload_n 3, 1) := by decide +kernel
theorem dL_law_290 : decode cL_law 290 = .ok (.iconst 1, 1) := by decide +kernel
theorem dL_law_291 : decode cL_law 291 = .ok (.iadd, 1) := by decide +kernel
theorem dL_law_292 : decode cL_law 292 = .ok (.iaload, 1) := by decide +kernel
theorem dL_law_293 : decode cL_law 293 = .ok (.aload_n 0, 1) := by decide +kernel
theorem dL_law_294 : decode cL_law 294 = .ok (.iload_n 3, 1) := by decide +kernel
theorem dL_law_295 : decode cL_law 295 = .ok (.iconst 2, 1) := by decide +kernel
theorem dL_law_296 : decode cL_law 296 = .ok (.iadd, 1) := by decide +kernel
theorem dL_law_297 : decode cL_law 297 = .ok (.iaload, 1) := by decide +kernel
theorem dL_law_298 : decode cL_law 298 = .ok (.ifCond .eq 7, 3) := by decide +kernel
theorem dL_law_301 : decode cL_law 301 = .ok (.iconst 1, 1) := by decide +kernel
theorem dL_law_302 : decode cL_law 302 = .ok (.goto 4, 3) := by decide +kernel
theorem dL_law_305 : decode cL_law 305 = .ok (.iconst 0, 1) := by decide +kernel
theorem dL_law_306 : decode cL_law 306 = .ok (.invokevirtual 39, 3) := by decide +kernel
theorem dL_law_309 : decode cL_law 309 = .ok (.aload_n 2, 1) := by decide +kernel
theorem dL_law_310 : decode cL_law 310 = .ok (.aload_n 0, 1) := by decide +kernel
theorem dL_law_311 : decode cL_law 311 = .ok (.iload_n 3, 1) := by decide +kernel
theorem dL_law_312 : decode cL_law 312 = .ok (.iconst 1, 1) := by decide +kernel
theorem dL_law_313 : decode cL_law 313 = .ok (.iadd, 1) := by decide +kernel
theorem dL_law_314 : decode cL_law 314 = .ok (.iaload, 1) := by decide +kernel
theorem dL_law_315 : decode cL_law 315 = .ok (.aload_n 0, 1) := by decide +kernel
theorem dL_law_316 : decode cL_law 316 = .ok (.iload_n 3, 1) := by decide +kernel
theorem dL_law_317 : decode cL_law 317 = .ok (.iconst 2, 1) := by decide +kernel
theorem dL_law_318 : decode cL_law 318 = .ok (.iadd, 1) := by decide +kernel
theorem dL_law_319 : decode cL_law 319 = .ok (.iaload, 1) := by decide +kernel
theorem dL_law_320 : decode cL_law 320 = .ok (.ifCond .eq 7, 3) := by decide +kernel
theorem dL_law_323 : decode cL_law 323 = .ok (.iconst 1, 1) := by decide +kernel
theorem dL_law_324 : decode cL_law 324 = .ok (.goto 4, 3) := by decide +kernel
theorem dL_law_327 : decode cL_law 327 = .ok (.iconst 0, 1) := by decide +kernel
theorem dL_law_328 : decode cL_law 328 = .ok (.invokevirtual 43, 3) := by decide +kernel
theorem dL_law_331 : decode cL_law 331 = .ok (.if_icmp .eq 345, 3) := by decide +kernel
theorem dL_law_334 : decode cL_law 334 = .ok (.iconst 0, 1) := by decide +kernel
theorem dL_law_335 : decode cL_law 335 = .ok (.ireturn, 1) := by decide +kernel
theorem dL_law_336 : decode cL_law 336 = .ok (.aload_n 1, 1) := by decide +kernel
theorem dL_law_337 : decode cL_law 337 = .ok (.aload_n 0, 1) := by decide +kernel
theorem dL_law_338 : decode cL_law 338 = .ok (.iload_n 3, 1) := by decide +kernel
theorem dL_law_339 : decode cL_law 339 = .ok (.iconst 1, 1) := by decide +kernel
theorem dL_law_340 : decode cL_law 340 = .ok (.iadd, 1) := by decide +kernel
theorem dL_law_341 : decode cL_law 341 = .ok (.iaload, 1) := by decide +kernel
theorem dL_law_342 : decode cL_law 342 = .ok (.invokevirtual 44, 3) := by decide +kernel
theorem dL_law_345 : decode cL_law 345 = .ok (.aload_n 2, 1) := by decide +kernel
theorem dL_law_346 : decode cL_law 346 = .ok (.aload_n 0, 1) := by decide +kernel
theorem dL_law_347 : decode cL_law 347 = .ok (.iload_n 3, 1) := by decide +kernel
theorem dL_law_348 : decode cL_law 348 = .ok (.iconst 1, 1) := by decide +kernel
theorem dL_law_349 : decode cL_law 349 = .ok (.iadd, 1) := by decide +kernel
theorem dL_law_350 : decode cL_law 350 = .ok (.iaload, 1) := by decide +kernel
theorem dL_law_351 : decode cL_law 351 = .ok (.invokevirtual 47, 3) := by decide +kernel
theorem dL_law_354 : decode cL_law 354 = .ok (.if_icmp .eq 322, 3) := by decide +kernel
theorem dL_law_357 : decode cL_law 357 = .ok (.iconst 0, 1) := by decide +kernel
theorem dL_law_358 : decode cL_law 358 = .ok (.ireturn, 1) := by decide +kernel
theorem dL_law_359 : decode cL_law 359 = .ok (.aload_n 1, 1) := by decide +kernel
theorem dL_law_360 : decode cL_law 360 = .ok (.invokevirtual 48, 3) := by decide +kernel
theorem dL_law_363 : decode cL_law 363 = .ok (.aload_n 2, 1) := by decide +kernel
theorem dL_law_364 : decode cL_law 364 = .ok (.invokevirtual 52, 3) := by decide +kernel
theorem dL_law_367 : decode cL_law 367 = .ok (.if_icmp .eq 309, 3) := by decide +kernel
theorem dL_law_370 : decode cL_law 370 = .ok (.iconst 0, 1) := by decide +kernel
theorem dL_law_371 : decode cL_law 371 = .ok (.ireturn, 1) := by decide +kernel
theorem dL_law_372 : decode cL_law 372 = .ok (.aload_n 1, 1) := by decide +kernel
theorem dL_law_373 : decode cL_law 373 = .ok (.invokevirtual 53, 3) := by decide +kernel
theorem dL_law_376 : decode cL_law 376 = .ok (.aload_n 2, 1) := by decide +kernel
theorem dL_law_377 : decode cL_law 377 = .ok (.invokevirtual 57, 3) := by decide +kernel
theorem dL_law_380 : decode cL_law 380 = .ok (.lcmp, 1) := by decide +kernel
theorem dL_law_381 : decode cL_law 381 = .ok (.ifCond .eq 295, 3) := by decide +kernel
theorem dL_law_384 : decode cL_law 384 = .ok (.iconst 0, 1) := by decide +kernel
theorem dL_law_385 : decode cL_law 385 = .ok (.ireturn, 1) := by decide +kernel
theorem dL_law_386 : decode cL_law 386 = .ok (.aload_n 1, 1) := by decide +kernel
theorem dL_law_387 : decode cL_law 387 = .ok (.aload_n 0, 1) := by decide +kernel
theorem dL_law_388 : decode cL_law 388 = .ok (.iload_n 3, 1) := by decide +kernel
theorem dL_law_389 : decode cL_law 389 = .ok (.iconst 1, 1) := by decide +kernel
theorem dL_law_390 : decode cL_law 390 = .ok (.iadd, 1) := by decide +kernel
theorem dL_law_391 : decode cL_law 391 = .ok (.iaload, 1) := by decide +kernel
theorem dL_law_392 : decode cL_law 392 = .ok (.aload_n 0, 1) := by decide +kernel
theorem dL_law_393 : decode cL_law 393 = .ok (.iload_n 3, 1) := by decide +kernel
theorem dL_law_394 : decode cL_law 394 = .ok (.iconst 2, 1) := by decide +kernel
theorem dL_law_395 : decode cL_law 395 = .ok (.iadd, 1) := by decide +kernel
theorem dL_law_396 : decode cL_law 396 = .ok (.iaload, 1) := by decide +kernel
theorem dL_law_397 : decode cL_law 397 = .ok (.invokevirtual 58, 3) := by decide +kernel
theorem dL_law_400 : decode cL_law 400 = .ok (.aload_n 2, 1) := by decide +kernel
theorem dL_law_401 : decode cL_law 401 = .ok (.aload_n 0, 1) := by decide +kernel
theorem dL_law_402 : decode cL_law 402 = .ok (.iload_n 3, 1) := by decide +kernel
theorem dL_law_403 : decode cL_law 403 = .ok (.iconst 1, 1) := by decide +kernel
theorem dL_law_404 : decode cL_law 404 = .ok (.iadd, 1) := by decide +kernel
theorem dL_law_405 : decode cL_law 405 = .ok (.iaload, 1) := by decide +kernel
theorem dL_law_406 : decode cL_law 406 = .ok (.aload_n 0, 1) := by decide +kernel
theorem dL_law_407 : decode cL_law 407 = .ok (.iload_n 3, 1) := by decide +kernel
theorem dL_law_408 : decode cL_law 408 = .ok (.iconst 2, 1) := by decide +kernel
theorem dL_law_409 : decode cL_law 409 = .ok (.iadd, 1) := by decide +kernel
theorem dL_law_410 : decode cL_law 410 = .ok (.iaload, 1) := by decide +kernel
theorem dL_law_411 : decode cL_law 411 = .ok (.invokevirtual 62, 3) := by decide +kernel
theorem dL_law_414 : decode cL_law 414 = .ok (.lcmp, 1) := by decide +kernel
theorem dL_law_415 : decode cL_law 415 = .ok (.ifCond .eq 261, 3) := by decide +kernel
theorem dL_law_418 : decode cL_law 418 = .ok (.iconst 0, 1) := by decide +kernel
theorem dL_law_419 : decode cL_law 419 = .ok (.ireturn, 1) := by decide +kernel
theorem dL_law_420 : decode cL_law 420 = .ok (.aload_n 1, 1) := by decide +kernel
theorem dL_law_421 : decode cL_law 421 = .ok (.aload_n 0, 1) := by decide +kernel
theorem dL_law_422 : decode cL_law 422 = .ok (.iload_n 3, 1) := by decide +kernel
theorem dL_law_423 : decode cL_law 423 = .ok (.iconst 1, 1) := by decide +kernel
theorem dL_law_424 : decode cL_law 424 = .ok (.iadd, 1) := by decide +kernel
theorem dL_law_425 : decode cL_law 425 = .ok (.iaload, 1) := by decide +kernel
theorem dL_law_426 : decode cL_law 426 = .ok (.aload_n 0, 1) := by decide +kernel
theorem dL_law_427 : decode cL_law 427 = .ok (.iload_n 3, 1) := by decide +kernel
theorem dL_law_428 : decode cL_law 428 = .ok (.iconst 2, 1) := by decide +kernel
theorem dL_law_429 : decode cL_law 429 = .ok (.iadd, 1) := by decide +kernel
theorem dL_law_430 : decode cL_law 430 = .ok (.iaload, 1) := by decide +kernel
theorem dL_law_431 : decode cL_law 431 = .ok (.i2l, 1) := by decide +kernel
theorem dL_law_432 : decode cL_law 432 = .ok (.bipush 32, 2) := by decide +kernel
theorem dL_law_434 : decode cL_law 434 = .ok (.lshl, 1) := by decide +kernel
theorem dL_law_435 : decode cL_law 435 = .ok (.aload_n 0, 1) := by decide +kernel
theorem dL_law_436 : decode cL_law 436 = .ok (.iload_n 3, 1) := by decide +kernel
theorem dL_law_437 : decode cL_law 437 = .ok (.iconst 3, 1) := by decide +kernel
theorem dL_law_438 : decode cL_law 438 = .ok (.iadd, 1) := by decide +kernel
theorem dL_law_439 : decode cL_law 439 = .ok (.iaload, 1) := by decide +kernel
theorem dL_law_440 : decode cL_law 440 = .ok (.i2l, 1) := by decide +kernel
theorem dL_law_441 : decode cL_law 441 = .ok (.ldc2_w 32, 3) := by decide +kernel
theorem dL_law_444 : decode cL_law 444 = .ok (.land, 1) := by decide +kernel
theorem dL_law_445 : decode cL_law 445 = .ok (.lor, 1) := by decide +kernel
theorem dL_law_446 : decode cL_law 446 = .ok (.invokevirtual 63, 3) := by decide +kernel
theorem dL_law_449 : decode cL_law 449 = .ok (.aload_n 2, 1) := by decide +kernel
theorem dL_law_450 : decode cL_law 450 = .ok (.aload_n 0, 1) := by decide +kernel
theorem dL_law_451 : decode cL_law 451 = .ok (.iload_n 3, 1) := by decide +kernel
theorem dL_law_452 : decode cL_law 452 = .ok (.iconst 1, 1) := by decide +kernel
theorem dL_law_453 : decode cL_law 453 = .ok (.iadd, 1) := by decide +kernel
theorem dL_law_454 : decode cL_law 454 = .ok (.iaload, 1) := by decide +kernel
theorem dL_law_455 : decode cL_law 455 = .ok (.aload_n 0, 1) := by decide +kernel
theorem dL_law_456 : decode cL_law 456 = .ok (.iload_n 3, 1) := by decide +kernel
theorem dL_law_457 : decode cL_law 457 = .ok (.iconst 2, 1) := by decide +kernel
theorem dL_law_458 : decode cL_law 458 = .ok (.iadd, 1) := by decide +kernel
theorem dL_law_459 : decode cL_law 459 = .ok (.iaload, 1) := by decide +kernel
theorem dL_law_460 : decode cL_law 460 = .ok (.i2l, 1) := by decide +kernel
theorem dL_law_461 : decode cL_law 461 = .ok (.bipush 32, 2) := by decide +kernel
theorem dL_law_463 : decode cL_law 463 = .ok (.lshl, 1) := by decide +kernel
theorem dL_law_464 : decode cL_law 464 = .ok (.aload_n 0, 1) := by decide +kernel
theorem dL_law_465 : decode cL_law 465 = .ok (.iload_n 3, 1) := by decide +kernel
theorem dL_law_466 : decode cL_law 466 = .ok (.iconst 3, 1) := by decide +kernel
theorem dL_law_467 : decode cL_law 467 = .ok (.iadd, 1) := by decide +kernel
theorem dL_law_468 : decode cL_law 468 = .ok (.iaload, 1) := by decide +kernel
theorem dL_law_469 : decode cL_law 469 = .ok (.i2l, 1) := by decide +kernel
theorem dL_law_470 : decode cL_law 470 = .ok (.ldc2_w 32, 3) := by decide +kernel
theorem dL_law_473 : decode cL_law 473 = .ok (.land, 1) := by decide +kernel
theorem dL_law_474 : decode cL_law 474 = .ok (.lor, 1) := by decide +kernel
theorem dL_law_475 : decode cL_law 475 = .ok (.invokevirtual 66, 3) := by decide +kernel
theorem dL_law_478 : decode cL_law 478 = .ok (.if_icmp .eq 198, 3) := by decide +kernel
theorem dL_law_481 : decode cL_law 481 = .ok (.iconst 0, 1) := by decide +kernel
theorem dL_law_482 : decode cL_law 482 = .ok (.ireturn, 1) := by decide +kernel
theorem dL_law_483 : decode cL_law 483 = .ok (.aload_n 1, 1) := by decide +kernel
theorem dL_law_484 : decode cL_law 484 = .ok (.aload_n 0, 1) := by decide +kernel
theorem dL_law_485 : decode cL_law 485 = .ok (.iload_n 3, 1) := by decide +kernel
theorem dL_law_486 : decode cL_law 486 = .ok (.iconst 1, 1) := by decide +kernel
theorem dL_law_487 : decode cL_law 487 = .ok (.iadd, 1) := by decide +kernel
theorem dL_law_488 : decode cL_law 488 = .ok (.iaload, 1) := by decide +kernel
theorem dL_law_489 : decode cL_law 489 = .ok (.invokevirtual 67, 3) := by decide +kernel
theorem dL_law_492 : decode cL_law 492 = .ok (.aload_n 2, 1) := by decide +kernel
theorem dL_law_493 : decode cL_law 493 = .ok (.aload_n 0, 1) := by decide +kernel
theorem dL_law_494 : decode cL_law 494 = .ok (.iload_n 3, 1) := by decide +kernel
theorem dL_law_495 : decode cL_law 495 = .ok (.iconst 1, 1) := by decide +kernel
theorem dL_law_496 : decode cL_law 496 = .ok (.iadd, 1) := by decide +kernel
theorem dL_law_497 : decode cL_law 497 = .ok (.iaload, 1) := by decide +kernel
theorem dL_law_498 : decode cL_law 498 = .ok (.invokevirtual 70, 3) := by decide +kernel
theorem dL_law_501 : decode cL_law 501 = .ok (.if_icmp .eq 175, 3) := by decide +kernel
theorem dL_law_504 : decode cL_law 504 = .ok (.iconst 0, 1) := by decide +kernel
theorem dL_law_505 : decode cL_law 505 = .ok (.ireturn, 1) := by decide +kernel
theorem dL_law_506 : decode cL_law 506 = .ok (.aload_n 1, 1) := by decide +kernel
theorem dL_law_507 : decode cL_law 507 = .ok (.aload_n 0, 1) := by decide +kernel
theorem dL_law_508 : decode cL_law 508 = .ok (.iload_n 3, 1) := by decide +kernel
theorem dL_law_509 : decode cL_law 509 = .ok (.iconst 1, 1) := by decide +kernel
theorem dL_law_510 : decode cL_law 510 = .ok (.iadd, 1) := by decide +kernel
theorem dL_law_511 : decode cL_law 511 = .ok (.iaload, 1) := by decide +kernel
theorem dL_law_512 : decode cL_law 512 = .ok (.invokevirtual 71, 3) := by decide +kernel
theorem dL_law_515 : decode cL_law 515 = .ok (.aload_n 2, 1) := by decide +kernel
theorem dL_law_516 : decode cL_law 516 = .ok (.aload_n 0, 1) := by decide +kernel
theorem dL_law_517 : decode cL_law 517 = .ok (.iload_n 3, 1) := by decide +kernel
theorem dL_law_518 : decode cL_law 518 = .ok (.iconst 1, 1) := by decide +kernel
theorem dL_law_519 : decode cL_law 519 = .ok (.iadd, 1) := by decide +kernel
theorem dL_law_520 : decode cL_law 520 = .ok (.iaload, 1) := by decide +kernel
theorem dL_law_521 : decode cL_law 521 = .ok (.invokevirtual 74, 3) := by decide +kernel
theorem dL_law_524 : decode cL_law 524 = .ok (.if_icmp .eq 152, 3) := by decide +kernel
theorem dL_law_527 : decode cL_law 527 = .ok (.iconst 0, 1) := by decide +kernel
theorem dL_law_528 : decode cL_law 528 = .ok (.ireturn, 1) := by decide +kernel
theorem dL_law_529 : decode cL_law 529 = .ok (.aload_n 1, 1) := by decide +kernel
theorem dL_law_530 : decode cL_law 530 = .ok (.aload_n 0, 1) := by decide +kernel
theorem dL_law_531 : decode cL_law 531 = .ok (.iload_n 3, 1) := by decide +kernel
theorem dL_law_532 : decode cL_law 532 = .ok (.iconst 1, 1) := by decide +kernel
theorem dL_law_533 : decode cL_law 533 = .ok (.iadd, 1) := by decide +kernel
theorem dL_law_534 : decode cL_law 534 = .ok (.iaload, 1) := by decide +kernel
theorem dL_law_535 : decode cL_law 535 = .ok (.invokevirtual 75, 3) := by decide +kernel
theorem dL_law_538 : decode cL_law 538 = .ok (.aload_n 2, 1) := by decide +kernel
theorem dL_law_539 : decode cL_law 539 = .ok (.aload_n 0, 1) := by decide +kernel
theorem dL_law_540 : decode cL_law 540 = .ok (.iload_n 3, 1) := by decide +kernel
theorem dL_law_541 : decode cL_law 541 = .ok (.iconst 1, 1) := by decide +kernel
theorem dL_law_542 : decode cL_law 542 = .ok (.iadd, 1) := by decide +kernel
theorem dL_law_543 : decode cL_law 543 = .ok (.iaload, 1) := by decide +kernel
theorem dL_law_544 : decode cL_law 544 = .ok (.invokevirtual 78, 3) := by decide +kernel
theorem dL_law_547 : decode cL_law 547 = .ok (.lcmp, 1) := by decide +kernel
theorem dL_law_548 : decode cL_law 548 = .ok (.ifCond .eq 128, 3) := by decide +kernel
theorem dL_law_551 : decode cL_law 551 = .ok (.iconst 0, 1) := by decide +kernel
theorem dL_law_552 : decode cL_law 552 = .ok (.ireturn, 1) := by decide +kernel
theorem dL_law_553 : decode cL_law 553 = .ok (.aload_n 1, 1) := by decide +kernel
theorem dL_law_554 : decode cL_law 554 = .ok (.aload_n 0, 1) := by decide +kernel
theorem dL_law_555 : decode cL_law 555 = .ok (.iload_n 3, 1) := by decide +kernel
theorem dL_law_556 : decode cL_law 556 = .ok (.iconst 1, 1) := by decide +kernel
theorem dL_law_557 : decode cL_law 557 = .ok (.iadd, 1) := by decide +kernel
theorem dL_law_558 : decode cL_law 558 = .ok (.iaload, 1) := by decide +kernel
theorem dL_law_559 : decode cL_law 559 = .ok (.i2l, 1) := by decide +kernel
theorem dL_law_560 : decode cL_law 560 = .ok (.bipush 32, 2) := by decide +kernel
theorem dL_law_562 : decode cL_law 562 = .ok (.lshl, 1) := by decide +kernel
theorem dL_law_563 : decode cL_law 563 = .ok (.aload_n 0, 1) := by decide +kernel
theorem dL_law_564 : decode cL_law 564 = .ok (.iload_n 3, 1) := by decide +kernel
theorem dL_law_565 : decode cL_law 565 = .ok (.iconst 2, 1) := by decide +kernel
theorem dL_law_566 : decode cL_law 566 = .ok (.iadd, 1) := by decide +kernel
theorem dL_law_567 : decode cL_law 567 = .ok (.iaload, 1) := by decide +kernel
theorem dL_law_568 : decode cL_law 568 = .ok (.i2l, 1) := by decide +kernel
theorem dL_law_569 : decode cL_law 569 = .ok (.ldc2_w 32, 3) := by decide +kernel
theorem dL_law_572 : decode cL_law 572 = .ok (.land, 1) := by decide +kernel
theorem dL_law_573 : decode cL_law 573 = .ok (.lor, 1) := by decide +kernel
theorem dL_law_574 : decode cL_law 574 = .ok (.aload_n 0, 1) := by decide +kernel
theorem dL_law_575 : decode cL_law 575 = .ok (.iload_n 3, 1) := by decide +kernel
theorem dL_law_576 : decode cL_law 576 = .ok (.iconst 3, 1) := by decide +kernel
theorem dL_law_577 : decode cL_law 577 = .ok (.iadd, 1) := by decide +kernel
theorem dL_law_578 : decode cL_law 578 = .ok (.iaload, 1) := by decide +kernel
theorem dL_law_579 : decode cL_law 579 = .ok (.invokevirtual 79, 3) := by decide +kernel
theorem dL_law_582 : decode cL_law 582 = .ok (.aload_n 2, 1) := by decide +kernel
theorem dL_law_583 : decode cL_law 583 = .ok (.aload_n 0, 1) := by decide +kernel
theorem dL_law_584 : decode cL_law 584 = .ok (.iload_n 3, 1) := by decide +kernel
theorem dL_law_585 : decode cL_law 585 = .ok (.iconst 1, 1) := by decide +kernel
theorem dL_law_586 : decode cL_law 586 = .ok (.iadd, 1) := by decide +kernel
theorem dL_law_587 : decode cL_law 587 = .ok (.iaload, 1) := by decide +kernel
theorem dL_law_588 : decode cL_law 588 = .ok (.i2l, 1) := by decide +kernel
theorem dL_law_589 : decode cL_law 589 = .ok (.bipush 32, 2) := by decide +kernel
theorem dL_law_591 : decode cL_law 591 = .ok (.lshl, 1) := by decide +kernel
theorem dL_law_592 : decode cL_law 592 = .ok (.aload_n 0, 1) := by decide +kernel
theorem dL_law_593 : decode cL_law 593 = .ok (.iload_n 3, 1) := by decide +kernel
theorem dL_law_594 : decode cL_law 594 = .ok (.iconst 2, 1) := by decide +kernel
theorem dL_law_595 : decode cL_law 595 = .ok (.iadd, 1) := by decide +kernel
theorem dL_law_596 : decode cL_law 596 = .ok (.iaload, 1) := by decide +kernel
theorem dL_law_597 : decode cL_law 597 = .ok (.i2l, 1) := by decide +kernel
theorem dL_law_598 : decode cL_law 598 = .ok (.ldc2_w 32, 3) := by decide +kernel
theorem dL_law_601 : decode cL_law 601 = .ok (.land, 1) := by decide +kernel
theorem dL_law_602 : decode cL_law 602 = .ok (.lor, 1) := by decide +kernel
theorem dL_law_603 : decode cL_law 603 = .ok (.aload_n 0, 1) := by decide +kernel
theorem dL_law_604 : decode cL_law 604 = .ok (.iload_n 3, 1) := by decide +kernel
theorem dL_law_605 : decode cL_law 605 = .ok (.iconst 3, 1) := by decide +kernel
theorem dL_law_606 : decode cL_law 606 = .ok (.iadd, 1) := by decide +kernel
theorem dL_law_607 : decode cL_law 607 = .ok (.iaload, 1) := by decide +kernel
theorem dL_law_608 : decode cL_law 608 = .ok (.invokevirtual 83, 3) := by decide +kernel
theorem dL_law_611 : decode cL_law 611 = .ok (.if_icmp .eq 65, 3) := by decide +kernel
theorem dL_law_614 : decode cL_law 614 = .ok (.iconst 0, 1) := by decide +kernel
theorem dL_law_615 : decode cL_law 615 = .ok (.ireturn, 1) := by decide +kernel
theorem dL_law_616 : decode cL_law 616 = .ok (.aload_n 1, 1) := by decide +kernel
theorem dL_law_617 : decode cL_law 617 = .ok (.invokevirtual 84, 3) := by decide +kernel
theorem dL_law_620 : decode cL_law 620 = .ok (.aload_n 2, 1) := by decide +kernel
theorem dL_law_621 : decode cL_law 621 = .ok (.invokevirtual 87, 3) := by decide +kernel
theorem dL_law_624 : decode cL_law 624 = .ok (.if_icmp .eq 52, 3) := by decide +kernel
theorem dL_law_627 : decode cL_law 627 = .ok (.iconst 0, 1) := by decide +kernel
theorem dL_law_628 : decode cL_law 628 = .ok (.ireturn, 1) := by decide +kernel
theorem dL_law_629 : decode cL_law 629 = .ok (.aload_n 1, 1) := by decide +kernel
theorem dL_law_630 : decode cL_law 630 = .ok (.aload_n 0, 1) := by decide +kernel
theorem dL_law_631 : decode cL_law 631 = .ok (.iload_n 3, 1) := by decide +kernel
theorem dL_law_632 : decode cL_law 632 = .ok (.iconst 1, 1) := by decide +kernel
theorem dL_law_633 : decode cL_law 633 = .ok (.iadd, 1) := by decide +kernel
theorem dL_law_634 : decode cL_law 634 = .ok (.iaload, 1) := by decide +kernel
theorem dL_law_635 : decode cL_law 635 = .ok (.aload_n 0, 1) := by decide +kernel
theorem dL_law_636 : decode cL_law 636 = .ok (.iload_n 3, 1) := by decide +kernel
theorem dL_law_637 : decode cL_law 637 = .ok (.iconst 2, 1) := by decide +kernel
theorem dL_law_638 : decode cL_law 638 = .ok (.iadd, 1) := by decide +kernel
theorem dL_law_639 : decode cL_law 639 = .ok (.iaload, 1) := by decide +kernel
theorem dL_law_640 : decode cL_law 640 = .ok (.invokevirtual 88, 3) := by decide +kernel
theorem dL_law_643 : decode cL_law 643 = .ok (.aload_n 2, 1) := by decide +kernel
theorem dL_law_644 : decode cL_law 644 = .ok (.aload_n 0, 1) := by decide +kernel
theorem dL_law_645 : decode cL_law 645 = .ok (.iload_n 3, 1) := by decide +kernel
theorem dL_law_646 : decode cL_law 646 = .ok (.iconst 1, 1) := by decide +kernel
theorem dL_law_647 : decode cL_law 647 = .ok (.iadd, 1) := by decide +kernel
theorem dL_law_648 : decode cL_law 648 = .ok (.iaload, 1) := by decide +kernel
theorem dL_law_649 : decode cL_law 649 = .ok (.aload_n 0, 1) := by decide +kernel
theorem dL_law_650 : decode cL_law 650 = .ok (.iload_n 3, 1) := by decide +kernel
theorem dL_law_651 : decode cL_law 651 = .ok (.iconst 2, 1) := by decide +kernel
theorem dL_law_652 : decode cL_law 652 = .ok (.iadd, 1) := by decide +kernel
theorem dL_law_653 : decode cL_law 653 = .ok (.iaload, 1) := by decide +kernel
theorem dL_law_654 : decode cL_law 654 = .ok (.invokevirtual 91, 3) := by decide +kernel
theorem dL_law_657 : decode cL_law 657 = .ok (.if_icmp .eq 19, 3) := by decide +kernel
theorem dL_law_660 : decode cL_law 660 = .ok (.iconst 0, 1) := by decide +kernel
theorem dL_law_661 : decode cL_law 661 = .ok (.ireturn, 1) := by decide +kernel
theorem dL_law_662 : decode cL_law 662 = .ok (.aload_n 1, 1) := by decide +kernel
theorem dL_law_663 : decode cL_law 663 = .ok (.invokevirtual 92, 3) := by decide +kernel
theorem dL_law_666 : decode cL_law 666 = .ok (.aload_n 2, 1) := by decide +kernel
theorem dL_law_667 : decode cL_law 667 = .ok (.invokevirtual 95, 3) := by decide +kernel
theorem dL_law_670 : decode cL_law 670 = .ok (.lcmp, 1) := by decide +kernel
theorem dL_law_671 : decode cL_law 671 = .ok (.ifCond .eq 5, 3) := by decide +kernel
theorem dL_law_674 : decode cL_law 674 = .ok (.iconst 0, 1) := by decide +kernel
theorem dL_law_675 : decode cL_law 675 = .ok (.ireturn, 1) := by decide +kernel
theorem dL_law_676 : decode cL_law 676 = .ok (.iinc 3 4, 3) := by decide +kernel
theorem dL_law_679 : decode cL_law 679 = .ok (.goto (-661), 3) := by decide +kernel
theorem dL_law_682 : decode cL_law 682 = .ok (.iconst 1, 1) := by decide +kernel
theorem dL_law_683 : decode cL_law 683 = .ok (.ireturn, 1) := by decide +kernel
