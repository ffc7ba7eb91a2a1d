theorem dX8_init_0 : decode cX8_init 0 = .ok (.aload_n 0, 1) := by decide +kernel
theorem dX8_init_1 : decode cX8_init 1 = .ok (.invokespecial 1, 3) := by decide +kernel
theorem dX8_init_4 : decode cX8_init 4 = .ok (.aload_n 0, 1) := by decide +kernel
theorem dX8_init_5 : decode cX8_init 5 = .ok (.sipush 512, 3) := by decide +kernel
theorem dX8_init_8 : decode cX8_init 8 = .ok (.newarray .int, 2) := by decide +kernel
theorem dX8_init_10 : decode cX8_init 10 = .ok (.putfield 7, 3) := by decide +kernel
theorem dX8_init_13 : decode cX8_init 13 = .ok (.aload_n 0, 1) := by decide +kernel
theorem dX8_init_14 : decode cX8_init 14 = .ok (.sipush 1200, 3) := by decide +kernel
theorem dX8_init_17 : decode cX8_init 17 = .ok (.newarray .long, 2) := by decide +kernel
theorem dX8_init_19 : decode cX8_init 19 = .ok (.putfield 13, 3) := by decide +kernel
theorem dX8_init_22 : decode cX8_init 22 = .ok (.aload_n 0, 1) := by decide +kernel
theorem dX8_init_23 : decode cX8_init 23 = .ok (.iconst 4, 1) := by decide +kernel
theorem dX8_init_24 : decode cX8_init 24 = .ok (.newarray .int, 2) := by decide +kernel
theorem dX8_init_26 : decode cX8_init 26 = .ok (.putfield 17, 3) := by decide +kernel
theorem dX8_init_29 : decode cX8_init 29 = .ok (.aload_n 0, 1) := by decide +kernel
theorem dX8_init_30 : decode cX8_init 30 = .ok (.iconst 4, 1) := by decide +kernel
theorem dX8_init_31 : decode cX8_init 31 = .ok (.newarray .int, 2) := by decide +kernel
theorem dX8_init_33 : decode cX8_init 33 = .ok (.putfield 20, 3) := by decide +kernel
theorem dX8_init_36 : decode cX8_init 36 = .ok (.aload_n 0, 1) := by decide +kernel
theorem dX8_init_37 : decode cX8_init 37 = .ok (.sipush 256, 3) := by decide +kernel
theorem dX8_init_40 : decode cX8_init 40 = .ok (.newarray .long, 2) := by decide +kernel
theorem dX8_init_42 : decode cX8_init 42 = .ok (.putfield 23, 3) := by decide +kernel
theorem dX8_init_45 : decode cX8_init 45 = .ok (.aload_n 0, 1) := by decide +kernel
theorem dX8_init_46 : decode cX8_init 46 = .ok (.sipush 2000, 3) := by decide +kernel
theorem dX8_init_49 : decode cX8_init 49 = .ok (.newarray .byte, 2) := by decide +kernel
theorem dX8_init_51 : decode cX8_init 51 = .ok (.putfield 26, 3) := by decide +kernel
theorem dX8_init_54 : decode cX8_init 54 = .ok (.aload_n 0, 1) := by decide +kernel
theorem dX8_init_55 : decode cX8_init 55 = .ok (.sipush 200, 3) := by decide +kernel
theorem dX8_init_58 : decode cX8_init 58 = .ok (.newarray .int, 2) := by decide +kernel
theorem dX8_init_60 : decode cX8_init 60 = .ok (.putfield 30, 3) := by decide +kernel
theorem dX8_init_63 : decode cX8_init 63 = .ok (.aload_n 0, 1) := by decide +kernel
theorem dX8_init_64 : decode cX8_init 64 = .ok (.sipush 200, 3) := by decide +kernel
theorem dX8_init_67 : decode cX8_init 67 = .ok (.newarray .long, 2) := by decide +kernel
theorem dX8_init_69 : decode cX8_init 69 = .ok (.putfield 33, 3) := by decide +kernel
theorem dX8_init_72 : decode cX8_init 72 = .ok (.aload_n 0, 1) := by decide +kernel
theorem dX8_init_73 : decode cX8_init 73 = .ok (.sipush 200, 3) := by decide +kernel
theorem dX8_init_76 : decode cX8_init 76 = .ok (.newarray .boolean, 2) := by decide +kernel
theorem dX8_init_78 : decode cX8_init 78 = .ok (.putfield 36, 3) := by decide +kernel
theorem dX8_init_81 : decode cX8_init 81 = .ok (.aload_n 0, 1) := by decide +kernel
theorem dX8_init_82 : decode cX8_init 82 = .ok (.bipush 16, 2) := by decide +kernel
theorem dX8_init_84 : decode cX8_init 84 = .ok (.newarray .byte, 2) := by decide +kernel
theorem dX8_init_86 : decode cX8_init 86 = .ok (.putfield 40, 3) := by decide +kernel
theorem dX8_init_89 : decode cX8_init 89 = .ok (.aload_n 0, 1) := by decide +kernel
theorem dX8_init_90 : decode cX8_init 90 = .ok (.iconst 0, 1) := by decide +kernel
theorem dX8_init_91 : decode cX8_init 91 = .ok (.putfield 43, 3) := by decide +kernel
theorem dX8_init_94 : decode cX8_init 94 = .ok (.return_, 1) := by decide +kernel
theorem dX8_in_0 : decode cX8_in 0 = .ok (.lload_n 0, 1) := by decide +kernel
theorem dX8_in_1 : decode cX8_in 1 = .ok (.lload_n 2, 1) := by decide +kernel
theorem dX8_in_2 : decode cX8_in 2 = .ok (.lcmp, 1) := by decide +kernel
theorem dX8_in_3 : decode cX8_in 3 = .ok (.ifCond .lt 14, 3) := by decide +kernel
theorem dX8_in_6 : decode cX8_in 6 = .ok (.lload_n 0, 1) := by decide +kernel
theorem dX8_in_7 : decode cX8_in 7 = .ok (.lload 4, 2) := by decide +kernel
theorem dX8_in_9 : decode cX8_in 9 = .ok (.lcmp, 1) := by decide +kernel
theorem dX8_in_10 : decode cX8_in 10 = .ok (.ifCond .gt 7, 3) := by decide +kernel
theorem dX8_in_13 : decode cX8_in 13 = .ok (.iconst 1, 1) := by decide +kernel
theorem dX8_in_14 : decode cX8_in 14 = .ok (.goto 4, 3) := by decide +kernel
theorem dX8_in_17 : decode cX8_in 17 = .ok (.iconst 0, 1) := by decide +kernel
theorem dX8_in_18 : decode cX8_in 18 = .ok (.ireturn, 1) := by decide +kernel
set_option maxRecDepth 100000 in
theorem ggX8_half_X8_in : GoodIn wsX8_half wsX8_in := goodIn_r _ [6] rfl (by decide +kernel)
set_option maxRecDepth 100000 in
theorem gX8_half_X8_in : GoodIn wsX8_half (va_wsS RX8 49 yX8_in wsX8_in) := goodIn_app (goodIn_r _ [3, 4, 5] rfl (by decide +kernel)) ggX8_half_X8_in
theorem dX8_half_0 : decode cX8_half 0 = .ok (.iload_n 1, 1) := by decide +kernel
theorem dX8_half_1 : decode cX8_half 1 = .ok (.i2l, 1) := by decide +kernel
theorem dX8_half_2 : decode cX8_half 2 = .ok (.lconst 0, 1) := by decide +kernel
theorem dX8_half_3 : decode cX8_half 3 = .ok (.ldc2_w 47, 3) := by decide +kernel
theorem dX8_half_6 : decode cX8_half 6 = .ok (.invokestatic 49, 3) := by decide +kernel
theorem dX8_half_9 : decode cX8_half 9 = .ok (.ifCond .eq 12, 3) := by decide +kernel
theorem dX8_half_12 : decode cX8_half 12 = .ok (.aload_n 0, 1) := by decide +kernel
theorem dX8_half_13 : decode cX8_half 13 = .ok (.getfield 7, 3) := by decide +kernel
theorem dX8_half_16 : decode cX8_half 16 = .ok (.iload_n 1, 1) := by decide +kernel
theorem dX8_half_17 : decode cX8_half 17 = .ok (.iaload, 1) := by decide +kernel
theorem dX8_half_18 : decode cX8_half 18 = .ok (.goto 4, 3) := by decide +kernel
theorem dX8_half_21 : decode cX8_half 21 = .ok (.iconst (-1), 1) := by decide +kernel
theorem dX8_half_22 : decode cX8_half 22 = .ok (.ireturn, 1) := by decide +kernel
set_option maxRecDepth 100000 in
theorem ggX8_put_X8_in : GoodIn wsX8_put wsX8_in := goodIn_r _ [7] rfl (by decide +kernel)
set_option maxRecDepth 100000 in
theorem gX8_put_X8_in : GoodIn wsX8_put (va_wsS RX8 49 yX8_in wsX8_in) := goodIn_app (goodIn_r _ [4, 5, 6] rfl (by decide +kernel)) ggX8_put_X8_in
theorem dX8_put_0 : decode cX8_put 0 = .ok (.iload_n 1, 1) := by decide +kernel
theorem dX8_put_1 : decode cX8_put 1 = .ok (.i2l, 1) := by decide +kernel
theorem dX8_put_2 : decode cX8_put 2 = .ok (.lconst 0, 1) := by decide +kernel
theorem dX8_put_3 : decode cX8_put 3 = .ok (.ldc2_w 47, 3) := by decide +kernel
theorem dX8_put_6 : decode cX8_put 6 = .ok (.invokestatic 49, 3) := by decide +kernel
theorem dX8_put_9 : decode cX8_put 9 = .ok (.ifCond .eq 15, 3) := by decide +kernel
theorem dX8_put_12 : decode cX8_put 12 = .ok (.iload_n 2, 1) := by decide +kernel
theorem dX8_put_13 : decode cX8_put 13 = .ok (.i2l, 1) := by decide +kernel
theorem dX8_put_14 : decode cX8_put 14 = .ok (.lconst 0, 1) := by decide +kernel
theorem dX8_put_15 : decode cX8_put 15 = .ok (.ldc2_w 53, 3) := by decide +kernel
theorem dX8_put_18 : decode cX8_put 18 = .ok (.invokestatic 49, 3) := by decide +kernel
theorem dX8_put_21 : decode cX8_put 21 = .ok (.ifCond .ne 5, 3) := by decide +kernel
theorem dX8_put_24 : decode cX8_put 24 = .ok (.iconst (-1), 1) := by decide +kernel
theorem dX8_put_25 : decode cX8_put 25 = .ok (.ireturn, 1) := by decide +kernel
theorem dX8_put_26 : decode cX8_put 26 = .ok (.aload_n 0, 1) := by decide +kernel
theorem dX8_put_27 : decode cX8_put 27 = .ok (.getfield 7, 3) := by decide +kernel
theorem dX8_put_30 : decode cX8_put 30 = .ok (.iload_n 1, 1) := by decide +kernel
theorem dX8_put_31 : decode cX8_put 31 = .ok (.iaload, 1) := by decide +kernel
theorem dX8_put_32 : decode cX8_put 32 = .ok (.istore_n 3, 1) := by decide +kernel
theorem dX8_put_33 : decode cX8_put 33 = .ok (.aload_n 0, 1) := by decide +kernel
theorem dX8_put_34 : decode cX8_put 34 = .ok (.getfield 7, 3) := by decide +kernel
theorem dX8_put_37 : decode cX8_put 37 = .ok (.iload_n 1, 1) := by decide +kernel
theorem dX8_put_38 : decode cX8_put 38 = .ok (.iload_n 2, 1) := by decide +kernel
theorem dX8_put_39 : decode cX8_put 39 = .ok (.iastore, 1) := by decide +kernel
theorem dX8_put_40 : decode cX8_put 40 = .ok (.iload_n 3, 1) := by decide +kernel
theorem dX8_put_41 : decode cX8_put 41 = .ok (.ireturn, 1) := by decide +kernel
theorem dX8_wholeAt_0 : decode cX8_wholeAt 0 = .ok (.aload_n 0, 1) := by decide +kernel
theorem dX8_wholeAt_1 : decode cX8_wholeAt 1 = .ok (.getfield 7, 3) := by decide +kernel
theorem dX8_wholeAt_4 : decode cX8_wholeAt 4 = .ok (.iload_n 1, 1) := by decide +kernel
theorem dX8_wholeAt_5 : decode cX8_wholeAt 5 = .ok (.iaload, 1) := by decide +kernel
theorem dX8_wholeAt_6 : decode cX8_wholeAt 6 = .ok (.i2l, 1) := by decide +kernel
theorem dX8_wholeAt_7 : decode cX8_wholeAt 7 = .ok (.bipush 18, 2) := by decide +kernel
theorem dX8_wholeAt_9 : decode cX8_wholeAt 9 = .ok (.lshl, 1) := by decide +kernel
theorem dX8_wholeAt_10 : decode cX8_wholeAt 10 = .ok (.aload_n 0, 1) := by decide +kernel
theorem dX8_wholeAt_11 : decode cX8_wholeAt 11 = .ok (.getfield 7, 3) := by decide +kernel
theorem dX8_wholeAt_14 : decode cX8_wholeAt 14 = .ok (.iload_n 1, 1) := by decide +kernel
theorem dX8_wholeAt_15 : decode cX8_wholeAt 15 = .ok (.iconst 1, 1) := by decide +kernel
theorem dX8_wholeAt_16 : decode cX8_wholeAt 16 = .ok (.iadd, 1) := by decide +kernel
theorem dX8_wholeAt_17 : decode cX8_wholeAt 17 = .ok (.iaload, 1) := by decide +kernel
theorem dX8_wholeAt_18 : decode cX8_wholeAt 18 = .ok (.i2l, 1) := by decide +kernel
theorem dX8_wholeAt_19 : decode cX8_wholeAt 19 = .ok (.lor, 1) := by decide +kernel
theorem dX8_wholeAt_20 : decode cX8_wholeAt 20 = .ok (.lreturn, 1) := by decide +kernel
theorem dX8_putWhole_0 : decode cX8_putWhole 0 = .ok (.aload_n 0, 1) := by decide +kernel
theorem dX8_putWhole_1 : decode cX8_putWhole 1 = .ok (.getfield 7, 3) := by decide +kernel
theorem dX8_putWhole_4 : decode cX8_putWhole 4 = .ok (.iload_n 1, 1) := by decide +kernel
theorem dX8_putWhole_5 : decode cX8_putWhole 5 = .ok (.lload_n 2, 1) := by decide +kernel
theorem dX8_putWhole_6 : decode cX8_putWhole 6 = .ok (.bipush 18, 2) := by decide +kernel
theorem dX8_putWhole_8 : decode cX8_putWhole 8 = .ok (.lshr, 1) := by decide +kernel
theorem dX8_putWhole_9 : decode cX8_putWhole 9 = .ok (.ldc2_w 53, 3) := by decide +kernel
theorem dX8_putWhole_12 : decode cX8_putWhole 12 = .ok (.land, 1) := by decide +kernel
theorem dX8_putWhole_13 : decode cX8_putWhole 13 = .ok (.l2i, 1) := by decide +kernel
theorem dX8_putWhole_14 : decode cX8_putWhole 14 = .ok (.iastore, 1) := by decide +kernel
theorem dX8_putWhole_15 : decode cX8_putWhole 15 = .ok (.aload_n 0, 1) := by decide +kernel
theorem dX8_putWhole_16 : decode cX8_putWhole 16 = .ok (.getfield 7, 3) := by decide +kernel
theorem dX8_putWhole_19 : decode cX8_putWhole 19 = .ok (.iload_n 1, 1) := by decide +kernel
theorem dX8_putWhole_20 : decode cX8_putWhole 20 = .ok (.iconst 1, 1) := by decide +kernel
theorem dX8_putWhole_21 : decode cX8_putWhole 21 = .ok (.iadd, 1) := by decide +kernel
theorem dX8_putWhole_22 : decode cX8_putWhole 22 = .ok (.lload_n 2, 1) := by decide +kernel
theorem dX8_putWhole_23 : decode cX8_putWhole 23 = .ok (.ldc2_w 53, 3) := by decide +kernel
theorem dX8_putWhole_26 : decode cX8_putWhole 26 = .ok (.land, 1) := by decide +kernel
theorem dX8_putWhole_27 : decode cX8_putWhole 27 = .ok (.l2i, 1) := by decide +kernel
theorem dX8_putWhole_28 : decode cX8_putWhole 28 = .ok (.iastore, 1) := by decide +kernel
theorem dX8_putWhole_29 : decode cX8_putWhole 29 = .ok (.return_, 1) := by decide +kernel
set_option maxRecDepth 100000 in
theorem ggX8_whole_X8_in : GoodIn wsX8_whole wsX8_in := goodIn_r _ [6] rfl (by decide +kernel)
set_option maxRecDepth 100000 in
theorem gX8_whole_X8_in : GoodIn wsX8_whole (va_wsS RX8 49 yX8_in wsX8_in) := goodIn_app (goodIn_r _ [3, 4, 5] rfl (by decide +kernel)) ggX8_whole_X8_in
set_option maxRecDepth 100000 in
theorem ggX8_whole_X8_wholeAt : GoodIn wsX8_whole wsX8_wholeAt := goodIn_r _ [10, 11, 12, 13, 14, 15, 16, 17, 18, 19, 20, 21, 22, 23, 24, 25, 26, 27, 28, 29, 30, 31, 32, 33, 34, 35, 36, 37, 38, 39, 40, 41, 42] rfl (by decide +kernel)
set_option maxRecDepth 100000 in
theorem gX8_whole_X8_wholeAt : GoodIn wsX8_whole (wsV RX8 55 RX8 yX8_wholeAt wsX8_wholeAt) := goodIn_app (goodIn_r _ [7, 8, 9, 5] rfl (by decide +kernel)) ggX8_whole_X8_wholeAt
theorem dX8_whole_0 : decode cX8_whole 0 = .ok (.iload_n 1, 1) := by decide +kernel
theorem dX8_whole_1 : decode cX8_whole 1 = .ok (.i2l, 1) := by decide +kernel
theorem dX8_whole_2 : decode cX8_whole 2 = .ok (.lconst 0, 1) := by decide +kernel
theorem dX8_whole_3 : decode cX8_whole 3 = .ok (.ldc2_w 47, 3) := by decide +kernel
theorem dX8_whole_6 : decode cX8_whole 6 = .ok (.invokestatic 49, 3) := by decide +kernel
theorem dX8_whole_9 : decode cX8_whole 9 = .ok (.ifCond .eq 17, 3) := by decide +kernel
theorem dX8_whole_12 : decode cX8_whole 12 = .ok (.iload_n 1, 1) := by decide +kernel
theorem dX8_whole_13 : decode cX8_whole 13 = .ok (.iconst 2, 1) := by decide +kernel
theorem dX8_whole_14 : decode cX8_whole 14 = .ok (.irem, 1) := by decide +kernel
theorem dX8_whole_15 : decode cX8_whole 15 = .ok (.ifCond .ne 11, 3) := by decide +kernel
theorem dX8_whole_18 : decode cX8_whole 18 = .ok (.aload_n 0, 1) := by decide +kernel
theorem dX8_whole_19 : decode cX8_whole 19 = .ok (.iload_n 1, 1) := by decide +kernel
theorem dX8_whole_20 : decode cX8_whole 20 = .ok (.invokevirtual 55, 3) := by decide +kernel
theorem dX8_whole_23 : decode cX8_whole 23 = .ok (.goto 6, 3) := by decide +kernel
theorem dX8_whole_26 : decode cX8_whole 26 = .ok (.ldc2_w 59, 3) := by decide +kernel
theorem dX8_whole_29 : decode cX8_whole 29 = .ok (.lreturn, 1) := by decide +kernel
theorem dX8_told_0 : decode cX8_told 0 = .ok (.iload_n 1, 1) := by decide +kernel
theorem dX8_told_1 : decode cX8_told 1 = .ok (.tableswitch 134 0 9 #[55, 68, 73, 86, 91, 104, 110, 116, 122, 128], 55) := by decide +kernel
theorem dX8_told_56 : decode cX8_told 56 = .ok (.aload_n 0, 1) := by decide +kernel
theorem dX8_told_57 : decode cX8_told 57 = .ok (.getfield 61, 3) := by decide +kernel
theorem dX8_told_60 : decode cX8_told 60 = .ok (.ifCond .eq 7, 3) := by decide +kernel
theorem dX8_told_63 : decode cX8_told 63 = .ok (.lconst 1, 1) := by decide +kernel
theorem dX8_told_64 : decode cX8_told 64 = .ok (.goto 4, 3) := by decide +kernel
theorem dX8_told_67 : decode cX8_told 67 = .ok (.lconst 0, 1) := by decide +kernel
theorem dX8_told_68 : decode cX8_told 68 = .ok (.lreturn, 1) := by decide +kernel
theorem dX8_told_69 : decode cX8_told 69 = .ok (.aload_n 0, 1) := by decide +kernel
theorem dX8_told_70 : decode cX8_told 70 = .ok (.getfield 65, 3) := by decide +kernel
theorem dX8_told_73 : decode cX8_told 73 = .ok (.lreturn, 1) := by decide +kernel
theorem dX8_told_74 : decode cX8_told 74 = .ok (.aload_n 0, 1) := by decide +kernel
theorem dX8_told_75 : decode cX8_told 75 = .ok (.getfield 69, 3) := by decide +kernel
theorem dX8_told_78 : decode cX8_told 78 = .ok (.ifCond .eq 7, 3) := by decide +kernel
theorem dX8_told_81 : decode cX8_told 81 = .ok (.lconst 1, 1) := by decide +kernel
theorem dX8_told_82 : decode cX8_told 82 = .ok (.goto 4, 3) := by decide +kernel
theorem dX8_told_85 : decode cX8_told 85 = .ok (.lconst 0, 1) := by decide +kernel
theorem dX8_told_86 : decode cX8_told 86 = .ok (.lreturn, 1) := by decide +kernel
theorem dX8_told_87 : decode cX8_told 87 = .ok (.aload_n 0, 1) := by decide +kernel
theorem dX8_told_88 : decode cX8_told 88 = .ok (.getfield 72, 3) := by decide +kernel
theorem dX8_told_91 : decode cX8_told 91 = .ok (.lreturn, 1) := by decide +kernel
theorem dX8_told_92 : decode cX8_told 92 = .ok (.aload_n 0, 1) := by decide +kernel
theorem dX8_told_93 : decode cX8_told 93 = .ok (.getfield 75, 3) := by decide +kernel
theorem dX8_told_96 : decode cX8_told 96 = .ok (.ifCond .eq 7, 3) := by decide +kernel
theorem dX8_told_99 : decode cX8_told 99 = .ok (.lconst 1, 1) := by decide +kernel
theorem dX8_told_100 : decode cX8_told 100 = .ok (.goto 4, 3) := by decide +kernel
theorem dX8_told_103 : decode cX8_told 103 = .ok (.lconst 0, 1) := by decide +kernel
theorem dX8_told_104 : decode cX8_told 104 = .ok (.lreturn, 1) := by decide +kernel
theorem dX8_told_105 : decode cX8_told 105 = .ok (.aload_n 0, 1) := by decide +kernel
theorem dX8_told_106 : decode cX8_told 106 = .ok (.getfield 78, 3) := by decide +kernel
theorem dX8_told_109 : decode cX8_told 109 = .ok (.i2l, 1) := by decide +kernel
theorem dX8_told_110 : decode cX8_told 110 = .ok (.lreturn, 1) := by decide +kernel
theorem dX8_told_111 : decode cX8_told 111 = .ok (.aload_n 0, 1) := by decide +kernel
theorem dX8_told_112 : decode cX8_told 112 = .ok (.getfield 81, 3) := by decide +kernel
theorem dX8_told_115 : decode cX8_told 115 = .ok (.i2l, 1) := by decide +kernel
theorem dX8_told_116 : decode cX8_told 116 = .ok (.lreturn, 1) := by decide +kernel
theorem dX8_told_117 : decode cX8_told 117 = .ok (.aload_n 0, 1) := by decide +kernel
theorem dX8_told_118 : decode cX8_told 118 = .ok (.getfield 84, 3) := by decide +kernel
theorem dX8_told_121 : decode cX8_told 121 = .ok (.i2l, 1) := by decide +kernel
theorem dX8_told_122 : decode cX8_told 122 = .ok (.lreturn, 1) := by decide +kernel
theorem dX8_told_123 : decode cX8_told 123 = .ok (.aload_n 0, 1) := by decide +kernel
theorem dX8_told_124 : decode cX8_told 124 = .ok (.getfield 87, 3) := by decide +kernel
theorem dX8_told_127 : decode cX8_told 127 = .ok (.i2l, 1) := by decide +kernel
theorem dX8_told_128 : decode cX8_told 128 = .ok (.lreturn, 1) := by decide +kernel
theorem dX8_told_129 : decode cX8_told 129 = .ok (.aload_n 0, 1) := by decide +kernel
theorem dX8_told_130 : decode cX8_told 130 = .ok (.getfield 43, 3) := by decide +kernel
theorem dX8_told_133 : decode cX8_told 133 = .ok (.i2l, 1) := by decide +kernel
theorem dX8_told_134 : decode cX8_told 134 = .ok (.lreturn, 1) := by decide +kernel
theorem dX8_told_135 : decode cX8_told 135 = .ok (.ldc2_w 59, 3) := by decide +kernel
theorem dX8_told_138 : decode cX8_told 138 = .ok (.lreturn, 1) := by decide +kernel
set_option maxRecDepth 100000 in
theorem ggX8_set_X8_in : GoodIn wsX8_set wsX8_in := goodIn_r _ [14] rfl (by decide +kernel)
set_option maxRecDepth 100000 in
theorem gX8_set_X8_in : GoodIn wsX8_set (va_wsS RX8 49 yX8_in wsX8_in) := goodIn_app (goodIn_r _ [11, 12, 13] rfl (by decide +kernel)) ggX8_set_X8_in
theorem dX8_set_0 : decode cX8_set 0 = .ok (.iload_n 1, 1) := by decide +kernel
theorem dX8_set_1 : decode cX8_set 1 = .ok (.ifCond .eq 13, 3) := by decide +kernel
theorem dX8_set_4 : decode cX8_set 4 = .ok (.iload_n 1, 1) := by decide +kernel
theorem dX8_set_5 : decode cX8_set 5 = .ok (.iconst 2, 1) := by decide +kernel
theorem dX8_set_6 : decode cX8_set 6 = .ok (.if_icmp .eq 8, 3) := by decide +kernel
theorem dX8_set_9 : decode cX8_set 9 = .ok (.iload_n 1, 1) := by decide +kernel
theorem dX8_set_10 : decode cX8_set 10 = .ok (.iconst 4, 1) := by decide +kernel
theorem dX8_set_11 : decode cX8_set 11 = .ok (.if_icmp .ne 7, 3) := by decide +kernel
theorem dX8_set_14 : decode cX8_set 14 = .ok (.lconst 1, 1) := by decide +kernel
theorem dX8_set_15 : decode cX8_set 15 = .ok (.goto 28, 3) := by decide +kernel
theorem dX8_set_18 : decode cX8_set 18 = .ok (.iload_n 1, 1) := by decide +kernel
theorem dX8_set_19 : decode cX8_set 19 = .ok (.iconst 1, 1) := by decide +kernel
theorem dX8_set_20 : decode cX8_set 20 = .ok (.if_icmp .ne 9, 3) := by decide +kernel
theorem dX8_set_23 : decode cX8_set 23 = .ok (.ldc2_w 90, 3) := by decide +kernel
theorem dX8_set_26 : decode cX8_set 26 = .ok (.goto 17, 3) := by decide +kernel
theorem dX8_set_29 : decode cX8_set 29 = .ok (.iload_n 1, 1) := by decide +kernel
theorem dX8_set_30 : decode cX8_set 30 = .ok (.iconst 3, 1) := by decide +kernel
theorem dX8_set_31 : decode cX8_set 31 = .ok (.if_icmp .ne 9, 3) := by decide +kernel
theorem dX8_set_34 : decode cX8_set 34 = .ok (.ldc2_w 92, 3) := by decide +kernel
theorem dX8_set_37 : decode cX8_set 37 = .ok (.goto 6, 3) := by decide +kernel
theorem dX8_set_40 : decode cX8_set 40 = .ok (.ldc2_w 47, 3) := by decide +kernel
theorem dX8_set_43 : decode cX8_set 43 = .ok (.lstore 4, 2) := by decide +kernel
theorem dX8_set_45 : decode cX8_set 45 = .ok (.iload_n 1, 1) := by decide +kernel
theorem dX8_set_46 : decode cX8_set 46 = .ok (.i2l, 1) := by decide +kernel
theorem dX8_set_47 : decode cX8_set 47 = .ok (.lconst 0, 1) := by decide +kernel
theorem dX8_set_48 : decode cX8_set 48 = .ok (.ldc2_w 94, 3) := by decide +kernel
theorem dX8_set_51 : decode cX8_set 51 = .ok (.invokestatic 49, 3) := by decide +kernel
theorem dX8_set_54 : decode cX8_set 54 = .ok (.ifCond .eq 13, 3) := by decide +kernel
theorem dX8_set_57 : decode cX8_set 57 = .ok (.lload_n 2, 1) := by decide +kernel
theorem dX8_set_58 : decode cX8_set 58 = .ok (.lconst 0, 1) := by decide +kernel
theorem dX8_set_59 : decode cX8_set 59 = .ok (.lload 4, 2) := by decide +kernel
theorem dX8_set_61 : decode cX8_set 61 = .ok (.invokestatic 49, 3) := by decide +kernel
theorem dX8_set_64 : decode cX8_set 64 = .ok (.ifCond .ne 5, 3) := by decide +kernel
theorem dX8_set_67 : decode cX8_set 67 = .ok (.iconst (-1), 1) := by decide +kernel
theorem dX8_set_68 : decode cX8_set 68 = .ok (.ireturn, 1) := by decide +kernel
theorem dX8_set_69 : decode cX8_set 69 = .ok (.iload_n 1, 1) := by decide +kernel
theorem dX8_set_70 : decode cX8_set 70 = .ok (.tableswitch 104 0 4 #[34, 52, 60, 78, 86], 34) := by decide +kernel
theorem dX8_set_104 : decode cX8_set 104 = .ok (.aload_n 0, 1) := by decide +kernel
theorem dX8_set_105 : decode cX8_set 105 = .ok (.lload_n 2, 1) := by decide +kernel
theorem dX8_set_106 : decode cX8_set 106 = .ok (.lconst 1, 1) := by decide +kernel
theorem dX8_set_107 : decode cX8_set 107 = .ok (.lcmp, 1) := by decide +kernel
theorem dX8_set_108 : decode cX8_set 108 = .ok (.ifCond .ne 7, 3) := by decide +kernel
theorem dX8_set_111 : decode cX8_set 111 = .ok (.iconst 1, 1) := by decide +kernel
theorem dX8_set_112 : decode cX8_set 112 = .ok (.goto 4, 3) := by decide +kernel
theorem dX8_set_115 : decode cX8_set 115 = .ok (.iconst 0, 1) := by decide +kernel
theorem dX8_set_116 : decode cX8_set 116 = .ok (.putfield 61, 3) := by decide +kernel
theorem dX8_set_119 : decode cX8_set 119 = .ok (.goto 61, 3) := by decide +kernel
theorem dX8_set_122 : decode cX8_set 122 = .ok (.aload_n 0, 1) := by decide +kernel
theorem dX8_set_123 : decode cX8_set 123 = .ok (.lload_n 2, 1) := by decide +kernel
theorem dX8_set_124 : decode cX8_set 124 = .ok (.putfield 65, 3) := by decide +kernel
theorem dX8_set_127 : decode cX8_set 127 = .ok (.goto 53, 3) := by decide +kernel
theorem dX8_set_130 : decode cX8_set 130 = .ok (.aload_n 0, 1) := by decide +kernel
theorem dX8_set_131 : decode cX8_set 131 = .ok (.lload_n 2, 1) := by decide +kernel
theorem dX8_set_132 : decode cX8_set 132 = .ok (.lconst 1, 1) := by decide +kernel
theorem dX8_set_133 : decode cX8_set 133 = .ok (.lcmp, 1) := by decide +kernel
theorem dX8_set_134 : decode cX8_set 134 = .ok (.ifCond .ne 7, 3) := by decide +kernel
theorem dX8_set_137 : decode cX8_set 137 = .ok (.iconst 1, 1) := by decide +kernel
theorem dX8_set_138 : decode cX8_set 138 = .ok (.goto 4, 3) := by decide +kernel
theorem dX8_set_141 : decode cX8_set 141 = .ok (.iconst 0, 1) := by decide +kernel
theorem dX8_set_142 : decode cX8_set 142 = .ok (.putfield 69, 3) := by decide +kernel
theorem dX8_set_145 : decode cX8_set 145 = .ok (.goto 35, 3) := by decide +kernel
theorem dX8_set_148 : decode cX8_set 148 = .ok (.aload_n 0, 1) := by decide +kernel
theorem dX8_set_149 : decode cX8_set 149 = .ok (.lload_n 2, 1) := by decide +kernel
theorem dX8_set_150 : decode cX8_set 150 = .ok (.putfield 72, 3) := by decide +kernel
theorem dX8_set_153 : decode cX8_set 153 = .ok (.goto 27, 3) := by decide +kernel
theorem dX8_set_156 : decode cX8_set 156 = .ok (.aload_n 0, 1) := by decide +kernel
theorem dX8_set_157 : decode cX8_set 157 = .ok (.lload_n 2, 1) := by decide +kernel
theorem dX8_set_158 : decode cX8_set 158 = .ok (.lconst 1, 1) := by decide +kernel
theorem dX8_set_159 : decode cX8_set 159 = .ok (.lcmp, 1) := by decide +kernel
theorem dX8_set_160 : decode cX8_set 160 = .ok (.ifCond .ne 7, 3) := by decide +kernel
theorem dX8_set_163 : decode cX8_set 163 = .ok (.iconst 1, 1) := by decide +kernel
theorem dX8_set_164 : decode cX8_set 164 = .ok (.goto 4, 3) := by decide +kernel
theorem dX8_set_167 : decode cX8_set 167 = .ok (.iconst 0, 1) := by decide +kernel
theorem dX8_set_168 : decode cX8_set 168 = .ok (.putfield 75, 3) := by decide +kernel
theorem dX8_set_171 : decode cX8_set 171 = .ok (.goto 9, 3) := by decide +kernel
theorem dX8_set_174 : decode cX8_set 174 = .ok (.aload_n 0, 1) := by decide +kernel
theorem dX8_set_175 : decode cX8_set 175 = .ok (.lload_n 2, 1) := by decide +kernel
theorem dX8_set_176 : decode cX8_set 176 = .ok (.l2i, 1) := by decide +kernel
theorem dX8_set_177 : decode cX8_set 177 = .ok (.putfield 78, 3) := by decide +kernel
theorem dX8_set_180 : decode cX8_set 180 = .ok (.iconst 1, 1) := by decide +kernel
theorem dX8_set_181 : decode cX8_set 181 = .ok (.ireturn, 1) := by decide +kernel
set_option maxRecDepth 100000 in
theorem ggX8_turn_X8_in : GoodIn wsX8_turn wsX8_in := goodIn_r _ [6] rfl (by decide +kernel)
set_option maxRecDepth 100000 in
theorem gX8_turn_X8_in : GoodIn wsX8_turn (va_wsS RX8 49 yX8_in wsX8_in) := goodIn_app (goodIn_r _ [3, 4, 5] rfl (by decide +kernel)) ggX8_turn_X8_in
theorem dX8_turn_0 : decode cX8_turn 0 = .ok (.iload_n 1, 1) := by decide +kernel
theorem dX8_turn_1 : decode cX8_turn 1 = .ok (.i2l, 1) := by decide +kernel
theorem dX8_turn_2 : decode cX8_turn 2 = .ok (.lconst 1, 1) := by decide +kernel
theorem dX8_turn_3 : decode cX8_turn 3 = .ok (.ldc2_w 96, 3) := by decide +kernel
theorem dX8_turn_6 : decode cX8_turn 6 = .ok (.invokestatic 49, 3) := by decide +kernel
theorem dX8_turn_9 : decode cX8_turn 9 = .ok (.ifCond .ne 5, 3) := by decide +kernel
theorem dX8_turn_12 : decode cX8_turn 12 = .ok (.iconst (-1), 1) := by decide +kernel
theorem dX8_turn_13 : decode cX8_turn 13 = .ok (.ireturn, 1) := by decide +kernel
theorem dX8_turn_14 : decode cX8_turn 14 = .ok (.aload_n 0, 1) := by decide +kernel
theorem dX8_turn_15 : decode cX8_turn 15 = .ok (.getfield 98, 3) := by decide +kernel
theorem dX8_turn_18 : decode cX8_turn 18 = .ok (.iload_n 1, 1) := by decide +kernel
theorem dX8_turn_19 : decode cX8_turn 19 = .ok (.iconst 1, 1) := by decide +kernel
theorem dX8_turn_20 : decode cX8_turn 20 = .ok (.isub, 1) := by decide +kernel
theorem dX8_turn_21 : decode cX8_turn 21 = .ok (.ishr, 1) := by decide +kernel
theorem dX8_turn_22 : decode cX8_turn 22 = .ok (.iconst 1, 1) := by decide +kernel
theorem dX8_turn_23 : decode cX8_turn 23 = .ok (.iand, 1) := by decide +kernel
theorem dX8_turn_24 : decode cX8_turn 24 = .ok (.istore_n 3, 1) := by decide +kernel
theorem dX8_turn_25 : decode cX8_turn 25 = .ok (.aload_n 0, 1) := by decide +kernel
theorem dX8_turn_26 : decode cX8_turn 26 = .ok (.iload_n 2, 1) := by decide +kernel
theorem dX8_turn_27 : decode cX8_turn 27 = .ok (.ifCond .eq 16, 3) := by decide +kernel
theorem dX8_turn_30 : decode cX8_turn 30 = .ok (.aload_n 0, 1) := by decide +kernel
theorem dX8_turn_31 : decode cX8_turn 31 = .ok (.getfield 98, 3) := by decide +kernel
theorem dX8_turn_34 : decode cX8_turn 34 = .ok (.iconst 1, 1) := by decide +kernel
theorem dX8_turn_35 : decode cX8_turn 35 = .ok (.iload_n 1, 1) := by decide +kernel
theorem dX8_turn_36 : decode cX8_turn 36 = .ok (.iconst 1, 1) := by decide +kernel
theorem dX8_turn_37 : decode cX8_turn 37 = .ok (.isub, 1) := by decide +kernel
theorem dX8_turn_38 : decode cX8_turn 38 = .ok (.ishl, 1) := by decide +kernel
theorem dX8_turn_39 : decode cX8_turn 39 = .ok (.ior, 1) := by decide +kernel
theorem dX8_turn_40 : decode cX8_turn 40 = .ok (.goto 15, 3) := by decide +kernel
theorem dX8_turn_43 : decode cX8_turn 43 = .ok (.aload_n 0, 1) := by decide +kernel
theorem dX8_turn_44 : decode cX8_turn 44 = .ok (.getfield 98, 3) := by decide +kernel
theorem dX8_turn_47 : decode cX8_turn 47 = .ok (.iconst 1, 1) := by decide +kernel
theorem dX8_turn_48 : decode cX8_turn 48 = .ok (.iload_n 1, 1) := by decide +kernel
theorem dX8_turn_49 : decode cX8_turn 49 = .ok (.iconst 1, 1) := by decide +kernel
theorem dX8_turn_50 : decode cX8_turn 50 = .ok (.isub, 1) := by decide +kernel
theorem dX8_turn_51 : decode cX8_turn 51 = .ok (.ishl, 1) := by decide +kernel
theorem dX8_turn_52 : decode cX8_turn 52 = .ok (.iconst (-1), 1) := by decide +kernel
theorem dX8_turn_53 : decode cX8_turn 53 = .ok (.ixor, 1) := by decide +kernel
theorem dX8_turn_54 : decode cX8_turn 54 = .ok (.iand, 1) := by decide +kernel
theorem dX8_turn_55 : decode cX8_turn 55 = .ok (.putfield 98, 3) := by decide +kernel
theorem dX8_turn_58 : decode cX8_turn 58 = .ok (.iload_n 3, 1) := by decide +kernel
theorem dX8_turn_59 : decode cX8_turn 59 = .ok (.ireturn, 1) := by decide +kernel
set_option maxRecDepth 100000 in
theorem ggX8_isTape_X8_in : GoodIn wsX8_isTape wsX8_in := goodIn_r _ [5] rfl (by decide +kernel)
set_option maxRecDepth 100000 in
theorem gX8_isTape_X8_in : GoodIn wsX8_isTape (va_wsS RX8 49 yX8_in wsX8_in) := goodIn_app (goodIn_r _ [2, 3, 4] rfl (by decide +kernel)) ggX8_isTape_X8_in
theorem dX8_isTape_0 : decode cX8_isTape 0 = .ok (.iload_n 1, 1) := by decide +kernel
theorem dX8_isTape_1 : decode cX8_isTape 1 = .ok (.i2l, 1) := by decide +kernel
theorem dX8_isTape_2 : decode cX8_isTape 2 = .ok (.lconst 0, 1) := by decide +kernel
theorem dX8_isTape_3 : decode cX8_isTape 3 = .ok (.ldc2_w 101, 3) := by decide +kernel
theorem dX8_isTape_6 : decode cX8_isTape 6 = .ok (.invokestatic 49, 3) := by decide +kernel
theorem dX8_isTape_9 : decode cX8_isTape 9 = .ok (.ireturn, 1) := by decide +kernel
set_option maxRecDepth 100000 in
theorem ggX8_item_X8_isTape : GoodIn wsX8_item wsX8_isTape := goodIn_r _ [9, 10, 11, 12, 8, 13] rfl (by decide +kernel)
set_option maxRecDepth 100000 in
theorem gX8_item_X8_isTape : GoodIn wsX8_item (wsV RX8 103 RX8 yX8_isTape wsX8_isTape) := goodIn_app (goodIn_r _ [5, 6, 7, 8] rfl (by decide +kernel)) ggX8_item_X8_isTape
set_option maxRecDepth 100000 in
theorem ggX8_item_X8_in : GoodIn wsX8_item wsX8_in := goodIn_r _ [13] rfl (by decide +kernel)
set_option maxRecDepth 100000 in
theorem gX8_item_X8_in : GoodIn wsX8_item (va_wsS RX8 49 yX8_in wsX8_in) := goodIn_app (goodIn_r _ [11, 12, 8] rfl (by decide +kernel)) ggX8_item_X8_in
theorem dX8_item_0 : decode cX8_item 0 = .ok (.aload_n 0, 1) := by decide +kernel
theorem dX8_item_1 : decode cX8_item 1 = .ok (.iload_n 1, 1) := by decide +kernel
theorem dX8_item_2 : decode cX8_item 2 = .ok (.invokevirtual 103, 3) := by decide +kernel
theorem dX8_item_5 : decode cX8_item 5 = .ok (.ifCond .ne 9, 3) := by decide +kernel
theorem dX8_item_8 : decode cX8_item 8 = .ok (.ldc2_w 59, 3) := by decide +kernel
theorem dX8_item_11 : decode cX8_item 11 = .ok (.goto 39, 3) := by decide +kernel
theorem dX8_item_14 : decode cX8_item 14 = .ok (.iload_n 2, 1) := by decide +kernel
theorem dX8_item_15 : decode cX8_item 15 = .ok (.i2l, 1) := by decide +kernel
theorem dX8_item_16 : decode cX8_item 16 = .ok (.lconst 0, 1) := by decide +kernel
theorem dX8_item_17 : decode cX8_item 17 = .ok (.aload_n 0, 1) := by decide +kernel
theorem dX8_item_18 : decode cX8_item 18 = .ok (.getfield 17, 3) := by decide +kernel
theorem dX8_item_21 : decode cX8_item 21 = .ok (.iload_n 1, 1) := by decide +kernel
theorem dX8_item_22 : decode cX8_item 22 = .ok (.iaload, 1) := by decide +kernel
theorem dX8_item_23 : decode cX8_item 23 = .ok (.iconst 1, 1) := by decide +kernel
theorem dX8_item_24 : decode cX8_item 24 = .ok (.isub, 1) := by decide +kernel
theorem dX8_item_25 : decode cX8_item 25 = .ok (.i2l, 1) := by decide +kernel
theorem dX8_item_26 : decode cX8_item 26 = .ok (.invokestatic 49, 3) := by decide +kernel
theorem dX8_item_29 : decode cX8_item 29 = .ok (.ifCond .eq 18, 3) := by decide +kernel
theorem dX8_item_32 : decode cX8_item 32 = .ok (.aload_n 0, 1) := by decide +kernel
theorem dX8_item_33 : decode cX8_item 33 = .ok (.getfield 13, 3) := by decide +kernel
theorem dX8_item_36 : decode cX8_item 36 = .ok (.sipush 300, 3) := by decide +kernel
theorem dX8_item_39 : decode cX8_item 39 = .ok (.iload_n 1, 1) := by decide +kernel
theorem dX8_item_40 : decode cX8_item 40 = .ok (.imul, 1) := by decide +kernel
theorem dX8_item_41 : decode cX8_item 41 = .ok (.iload_n 2, 1) := by decide +kernel
theorem dX8_item_42 : decode cX8_item 42 = .ok (.iadd, 1) := by decide +kernel
theorem dX8_item_43 : decode cX8_item 43 = .ok (.laload, 1) := by decide +kernel
theorem dX8_item_44 : decode cX8_item 44 = .ok (.goto 6, 3) := by decide +kernel
theorem dX8_item_47 : decode cX8_item 47 = .ok (.ldc2_w 107, 3) := by decide +kernel
theorem dX8_item_50 : decode cX8_item 50 = .ok (.lreturn, 1) := by decide +kernel
set_option maxRecDepth 100000 in
theorem ggX8_lay_X8_isTape : GoodIn wsX8_lay wsX8_isTape := goodIn_r _ [10, 11, 12, 13, 9, 14] rfl (by decide +kernel)
set_option maxRecDepth 100000 in
theorem gX8_lay_X8_isTape : GoodIn wsX8_lay (wsV RX8 103 RX8 yX8_isTape wsX8_isTape) := goodIn_app (goodIn_r _ [6, 7, 8, 9] rfl (by decide +kernel)) ggX8_lay_X8_isTape
set_option maxRecDepth 100000 in
theorem ggX8_lay_X8_in : GoodIn wsX8_lay wsX8_in := goodIn_r _ [14] rfl (by decide +kernel)
set_option maxRecDepth 100000 in
theorem gX8_lay_X8_in : GoodIn wsX8_lay (va_wsS RX8 49 yX8_in wsX8_in) := goodIn_app (goodIn_r _ [12, 13, 9] rfl (by decide +kernel)) ggX8_lay_X8_in
theorem dX8_lay_0 : decode cX8_lay 0 = .ok (.aload_n 0, 1) := by decide +kernel
theorem dX8_lay_1 : decode cX8_lay 1 = .ok (.iload_n 1, 1) := by decide +kernel
theorem dX8_lay_2 : decode cX8_lay 2 = .ok (.invokevirtual 103, 3) := by decide +kernel
theorem dX8_lay_5 : decode cX8_lay 5 = .ok (.ifCond .eq 30, 3) := by decide +kernel
theorem dX8_lay_8 : decode cX8_lay 8 = .ok (.lload_n 2, 1) := by decide +kernel
theorem dX8_lay_9 : decode cX8_lay 9 = .ok (.lconst 0, 1) := by decide +kernel
theorem dX8_lay_10 : decode cX8_lay 10 = .ok (.ldc2_w 109, 3) := by decide +kernel
theorem dX8_lay_13 : decode cX8_lay 13 = .ok (.invokestatic 49, 3) := by decide +kernel
theorem dX8_lay_16 : decode cX8_lay 16 = .ok (.ifCond .ne 21, 3) := by decide +kernel
theorem dX8_lay_19 : decode cX8_lay 19 = .ok (.lload_n 2, 1) := by decide +kernel
theorem dX8_lay_20 : decode cX8_lay 20 = .ok (.ldc2_w 111, 3) := by decide +kernel
theorem dX8_lay_23 : decode cX8_lay 23 = .ok (.lcmp, 1) := by decide +kernel
theorem dX8_lay_24 : decode cX8_lay 24 = .ok (.ifCond .eq 13, 3) := by decide +kernel
theorem dX8_lay_27 : decode cX8_lay 27 = .ok (.lload_n 2, 1) := by decide +kernel
theorem dX8_lay_28 : decode cX8_lay 28 = .ok (.ldc2_w 113, 3) := by decide +kernel
theorem dX8_lay_31 : decode cX8_lay 31 = .ok (.lcmp, 1) := by decide +kernel
theorem dX8_lay_32 : decode cX8_lay 32 = .ok (.ifCond .eq 5, 3) := by decide +kernel
theorem dX8_lay_35 : decode cX8_lay 35 = .ok (.iconst (-1), 1) := by decide +kernel
theorem dX8_lay_36 : decode cX8_lay 36 = .ok (.ireturn, 1) := by decide +kernel
theorem dX8_lay_37 : decode cX8_lay 37 = .ok (.aload_n 0, 1) := by decide +kernel
theorem dX8_lay_38 : decode cX8_lay 38 = .ok (.getfield 17, 3) := by decide +kernel
theorem dX8_lay_41 : decode cX8_lay 41 = .ok (.iload_n 1, 1) := by decide +kernel
theorem dX8_lay_42 : decode cX8_lay 42 = .ok (.iaload, 1) := by decide +kernel
theorem dX8_lay_43 : decode cX8_lay 43 = .ok (.sipush 300, 3) := by decide +kernel
theorem dX8_lay_46 : decode cX8_lay 46 = .ok (.if_icmp .ne 6, 3) := by decide +kernel
theorem dX8_lay_49 : decode cX8_lay 49 = .ok (.bipush (-2), 2) := by decide +kernel
theorem dX8_lay_51 : decode cX8_lay 51 = .ok (.ireturn, 1) := by decide +kernel
theorem dX8_lay_52 : decode cX8_lay 52 = .ok (.aload_n 0, 1) := by decide +kernel
theorem dX8_lay_53 : decode cX8_lay 53 = .ok (.getfield 13, 3) := by decide +kernel
theorem dX8_lay_56 : decode cX8_lay 56 = .ok (.sipush 300, 3) := by decide +kernel
theorem dX8_lay_59 : decode cX8_lay 59 = .ok (.iload_n 1, 1) := by decide +kernel
theorem dX8_lay_60 : decode cX8_lay 60 = .ok (.imul, 1) := by decide +kernel
theorem dX8_lay_61 : decode cX8_lay 61 = .ok (.aload_n 0, 1) := by decide +kernel
theorem dX8_lay_62 : decode cX8_lay 62 = .ok (.getfield 17, 3) := by decide +kernel
theorem dX8_lay_65 : decode cX8_lay 65 = .ok (.iload_n 1, 1) := by decide +kernel
theorem dX8_lay_66 : decode cX8_lay 66 = .ok (.iaload, 1) := by decide +kernel
theorem dX8_lay_67 : decode cX8_lay 67 = .ok (.iadd, 1) := by decide +kernel
theorem dX8_lay_68 : decode cX8_lay 68 = .ok (.lload_n 2, 1) := by decide +kernel
theorem dX8_lay_69 : decode cX8_lay 69 = .ok (.lastore, 1) := by decide +kernel
theorem dX8_lay_70 : decode cX8_lay 70 = .ok (.aload_n 0, 1) := by decide +kernel
theorem dX8_lay_71 : decode cX8_lay 71 = .ok (.getfield 17, 3) := by decide +kernel
theorem dX8_lay_74 : decode cX8_lay 74 = .ok (.iload_n 1, 1) := by decide +kernel
theorem dX8_lay_75 : decode cX8_lay 75 = .ok (.dup2, 1) := by decide +kernel
theorem dX8_lay_76 : decode cX8_lay 76 = .ok (.iaload, 1) := by decide +kernel
theorem dX8_lay_77 : decode cX8_lay 77 = .ok (.iconst 1, 1) := by decide +kernel
theorem dX8_lay_78 : decode cX8_lay 78 = .ok (.iadd, 1) := by decide +kernel
theorem dX8_lay_79 : decode cX8_lay 79 = .ok (.iastore, 1) := by decide +kernel
theorem dX8_lay_80 : decode cX8_lay 80 = .ok (.aload_n 0, 1) := by decide +kernel
theorem dX8_lay_81 : decode cX8_lay 81 = .ok (.getfield 17, 3) := by decide +kernel
theorem dX8_lay_84 : decode cX8_lay 84 = .ok (.iload_n 1, 1) := by decide +kernel
theorem dX8_lay_85 : decode cX8_lay 85 = .ok (.iaload, 1) := by decide +kernel
theorem dX8_lay_86 : decode cX8_lay 86 = .ok (.ireturn, 1) := by decide +kernel
set_option maxRecDepth 100000 in
theorem ggX8_stands_X8_isTape : GoodIn wsX8_stands wsX8_isTape := goodIn_r _ [6, 7, 8, 9, 5, 10] rfl (by decide +kernel)
set_option maxRecDepth 100000 in
theorem gX8_stands_X8_isTape : GoodIn wsX8_stands (wsV RX8 103 RX8 yX8_isTape wsX8_isTape) := goodIn_app (goodIn_r _ [2, 3, 4, 5] rfl (by decide +kernel)) ggX8_stands_X8_isTape
theorem dX8_stands_0 : decode cX8_stands 0 = .ok (.aload_n 0, 1) := by decide +kernel
theorem dX8_stands_1 : decode cX8_stands 1 = .ok (.iload_n 1, 1) := by decide +kernel
theorem dX8_stands_2 : decode cX8_stands 2 = .ok (.invokevirtual 103, 3) := by decide +kernel
theorem dX8_stands_5 : decode cX8_stands 5 = .ok (.ifCond .eq 12, 3) := by decide +kernel
theorem dX8_stands_8 : decode cX8_stands 8 = .ok (.aload_n 0, 1) := by decide +kernel
theorem dX8_stands_9 : decode cX8_stands 9 = .ok (.getfield 20, 3) := by decide +kernel
theorem dX8_stands_12 : decode cX8_stands 12 = .ok (.iload_n 1, 1) := by decide +kernel
theorem dX8_stands_13 : decode cX8_stands 13 = .ok (.iaload, 1) := by decide +kernel
theorem dX8_stands_14 : decode cX8_stands 14 = .ok (.goto 4, 3) := by decide +kernel
theorem dX8_stands_17 : decode cX8_stands 17 = .ok (.iconst (-1), 1) := by decide +kernel
theorem dX8_stands_18 : decode cX8_stands 18 = .ok (.ireturn, 1) := by decide +kernel
set_option maxRecDepth 100000 in
theorem ggX8_blank_X8_isTape : GoodIn wsX8_blank wsX8_isTape := goodIn_r _ [9, 10, 11, 12, 8, 13] rfl (by decide +kernel)
set_option maxRecDepth 100000 in
theorem gX8_blank_X8_isTape : GoodIn wsX8_blank (wsV RX8 103 RX8 yX8_isTape wsX8_isTape) := goodIn_app (goodIn_r _ [5, 6, 7, 8] rfl (by decide +kernel)) ggX8_blank_X8_isTape
theorem dX8_blank_0 : decode cX8_blank 0 = .ok (.aload_n 0, 1) := by decide +kernel
theorem dX8_blank_1 : decode cX8_blank 1 = .ok (.iload_n 1, 1) := by decide +kernel
theorem dX8_blank_2 : decode cX8_blank 2 = .ok (.invokevirtual 103, 3) := by decide +kernel
theorem dX8_blank_5 : decode cX8_blank 5 = .ok (.ifCond .ne 5, 3) := by decide +kernel
theorem dX8_blank_8 : decode cX8_blank 8 = .ok (.iconst (-1), 1) := by decide +kernel
theorem dX8_blank_9 : decode cX8_blank 9 = .ok (.ireturn, 1) := by decide +kernel
theorem dX8_blank_10 : decode cX8_blank 10 = .ok (.aload_n 0, 1) := by decide +kernel
theorem dX8_blank_11 : decode cX8_blank 11 = .ok (.getfield 17, 3) := by decide +kernel
theorem dX8_blank_14 : decode cX8_blank 14 = .ok (.iload_n 1, 1) := by decide +kernel
theorem dX8_blank_15 : decode cX8_blank 15 = .ok (.iaload, 1) := by decide +kernel
theorem dX8_blank_16 : decode cX8_blank 16 = .ok (.istore_n 2, 1) := by decide +kernel
theorem dX8_blank_17 : decode cX8_blank 17 = .ok (.aload_n 0, 1) := by decide +kernel
theorem dX8_blank_18 : decode cX8_blank 18 = .ok (.getfield 17, 3) := by decide +kernel
theorem dX8_blank_21 : decode cX8_blank 21 = .ok (.iload_n 1, 1) := by decide +kernel
theorem dX8_blank_22 : decode cX8_blank 22 = .ok (.iconst 0, 1) := by decide +kernel
theorem dX8_blank_23 : decode cX8_blank 23 = .ok (.iastore, 1) := by decide +kernel
theorem dX8_blank_24 : decode cX8_blank 24 = .ok (.aload_n 0, 1) := by decide +kernel
theorem dX8_blank_25 : decode cX8_blank 25 = .ok (.getfield 20, 3) := by decide +kernel
theorem dX8_blank_28 : decode cX8_blank 28 = .ok (.iload_n 1, 1) := by decide +kernel
theorem dX8_blank_29 : decode cX8_blank 29 = .ok (.iconst 0, 1) := by decide +kernel
theorem dX8_blank_30 : decode cX8_blank 30 = .ok (.iastore, 1) := by decide +kernel
theorem dX8_blank_31 : decode cX8_blank 31 = .ok (.aload_n 0, 1) := by decide +kernel
theorem dX8_blank_32 : decode cX8_blank 32 = .ok (.aload_n 0, 1) := by decide +kernel
theorem dX8_blank_33 : decode cX8_blank 33 = .ok (.getfield 115, 3) := by decide +kernel
theorem dX8_blank_36 : decode cX8_blank 36 = .ok (.ifCond .eq 18, 3) := by decide +kernel
theorem dX8_blank_39 : decode cX8_blank 39 = .ok (.aload_n 0, 1) := by decide +kernel
theorem dX8_blank_40 : decode cX8_blank 40 = .ok (.getfield 43, 3) := by decide +kernel
theorem dX8_blank_43 : decode cX8_blank 43 = .ok (.bipush 9, 2) := by decide +kernel
theorem dX8_blank_45 : decode cX8_blank 45 = .ok (.iload_n 1, 1) := by decide +kernel
theorem dX8_blank_46 : decode cX8_blank 46 = .ok (.iadd, 1) := by decide +kernel
theorem dX8_blank_47 : decode cX8_blank 47 = .ok (.if_icmp .eq 7, 3) := by decide +kernel
theorem dX8_blank_50 : decode cX8_blank 50 = .ok (.iconst 1, 1) := by decide +kernel
theorem dX8_blank_51 : decode cX8_blank 51 = .ok (.goto 4, 3) := by decide +kernel
theorem dX8_blank_54 : decode cX8_blank 54 = .ok (.iconst 0, 1) := by decide +kernel
theorem dX8_blank_55 : decode cX8_blank 55 = .ok (.putfield 115, 3) := by decide +kernel
theorem dX8_blank_58 : decode cX8_blank 58 = .ok (.iload_n 2, 1) := by decide +kernel
theorem dX8_blank_59 : decode cX8_blank 59 = .ok (.ireturn, 1) := by decide +kernel
set_option maxRecDepth 100000 in
theorem ggX8_drum_X8_in : GoodIn wsX8_drum wsX8_in := goodIn_r _ [7] rfl (by decide +kernel)
set_option maxRecDepth 100000 in
theorem gX8_drum_X8_in : GoodIn wsX8_drum (va_wsS RX8 49 yX8_in wsX8_in) := goodIn_app (goodIn_r _ [4, 5, 6] rfl (by decide +kernel)) ggX8_drum_X8_in
theorem dX8_drum_0 : decode cX8_drum 0 = .ok (.iload_n 1, 1) := by decide +kernel
theorem dX8_drum_1 : decode cX8_drum 1 = .ok (.i2l, 1) := by decide +kernel
theorem dX8_drum_2 : decode cX8_drum 2 = .ok (.lconst 0, 1) := by decide +kernel
theorem dX8_drum_3 : decode cX8_drum 3 = .ok (.ldc2_w 118, 3) := by decide +kernel
theorem dX8_drum_6 : decode cX8_drum 6 = .ok (.invokestatic 49, 3) := by decide +kernel
theorem dX8_drum_9 : decode cX8_drum 9 = .ok (.ifCond .eq 12, 3) := by decide +kernel
theorem dX8_drum_12 : decode cX8_drum 12 = .ok (.aload_n 0, 1) := by decide +kernel
theorem dX8_drum_13 : decode cX8_drum 13 = .ok (.getfield 23, 3) := by decide +kernel
theorem dX8_drum_16 : decode cX8_drum 16 = .ok (.iload_n 1, 1) := by decide +kernel
theorem dX8_drum_17 : decode cX8_drum 17 = .ok (.laload, 1) := by decide +kernel
theorem dX8_drum_18 : decode cX8_drum 18 = .ok (.goto 6, 3) := by decide +kernel
theorem dX8_drum_21 : decode cX8_drum 21 = .ok (.ldc2_w 59, 3) := by decide +kernel
theorem dX8_drum_24 : decode cX8_drum 24 = .ok (.lreturn, 1) := by decide +kernel
theorem dX8_puts_0 : decode cX8_puts 0 = .ok (.aload_n 0, 1) := by decide +kernel
theorem dX8_puts_1 : decode cX8_puts 1 = .ok (.getfield 20, 3) := by decide +kernel
theorem dX8_puts_4 : decode cX8_puts 4 = .ok (.iload_n 1, 1) := by decide +kernel
theorem dX8_puts_5 : decode cX8_puts 5 = .ok (.iaload, 1) := by decide +kernel
theorem dX8_puts_6 : decode cX8_puts 6 = .ok (.sipush 300, 3) := by decide +kernel
theorem dX8_puts_9 : decode cX8_puts 9 = .ok (.if_icmp .ne 5, 3) := by decide +kernel
theorem dX8_puts_12 : decode cX8_puts 12 = .ok (.iconst 0, 1) := by decide +kernel
theorem dX8_puts_13 : decode cX8_puts 13 = .ok (.ireturn, 1) := by decide +kernel
theorem dX8_puts_14 : decode cX8_puts 14 = .ok (.aload_n 0, 1) := by decide +kernel
theorem dX8_puts_15 : decode cX8_puts 15 = .ok (.getfield 13, 3) := by decide +kernel
theorem dX8_puts_18 : decode cX8_puts 18 = .ok (.sipush 300, 3) := by decide +kernel
theorem dX8_puts_21 : decode cX8_puts 21 = .ok (.iload_n 1, 1) := by decide +kernel
theorem dX8_puts_22 : decode cX8_puts 22 = .ok (.imul, 1) := by decide +kernel
theorem dX8_puts_23 : decode cX8_puts 23 = .ok (.aload_n 0, 1) := by decide +kernel
theorem dX8_puts_24 : decode cX8_puts 24 = .ok (.getfield 20, 3) := by decide +kernel
theorem dX8_puts_27 : decode cX8_puts 27 = .ok (.iload_n 1, 1) := by decide +kernel
theorem dX8_puts_28 : decode cX8_puts 28 = .ok (.iaload, 1) := by decide +kernel
theorem dX8_puts_29 : decode cX8_puts 29 = .ok (.iadd, 1) := by decide +kernel
theorem dX8_puts_30 : decode cX8_puts 30 = .ok (.lload_n 2, 1) := by decide +kernel
theorem dX8_puts_31 : decode cX8_puts 31 = .ok (.lastore, 1) := by decide +kernel
theorem dX8_puts_32 : decode cX8_puts 32 = .ok (.aload_n 0, 1) := by decide +kernel
theorem dX8_puts_33 : decode cX8_puts 33 = .ok (.getfield 20, 3) := by decide +kernel
theorem dX8_puts_36 : decode cX8_puts 36 = .ok (.iload_n 1, 1) := by decide +kernel
theorem dX8_puts_37 : decode cX8_puts 37 = .ok (.dup2, 1) := by decide +kernel
theorem dX8_puts_38 : decode cX8_puts 38 = .ok (.iaload, 1) := by decide +kernel
theorem dX8_puts_39 : decode cX8_puts 39 = .ok (.iconst 1, 1) := by decide +kernel
theorem dX8_puts_40 : decode cX8_puts 40 = .ok (.iadd, 1) := by decide +kernel
theorem dX8_puts_41 : decode cX8_puts 41 = .ok (.iastore, 1) := by decide +kernel
theorem dX8_puts_42 : decode cX8_puts 42 = .ok (.aload_n 0, 1) := by decide +kernel
theorem dX8_puts_43 : decode cX8_puts 43 = .ok (.getfield 17, 3) := by decide +kernel
theorem dX8_puts_46 : decode cX8_puts 46 = .ok (.iload_n 1, 1) := by decide +kernel
theorem dX8_puts_47 : decode cX8_puts 47 = .ok (.aload_n 0, 1) := by decide +kernel
theorem dX8_puts_48 : decode cX8_puts 48 = .ok (.getfield 20, 3) := by decide +kernel
theorem dX8_puts_51 : decode cX8_puts 51 = .ok (.iload_n 1, 1) := by decide +kernel
theorem dX8_puts_52 : decode cX8_puts 52 = .ok (.iaload, 1) := by decide +kernel
theorem dX8_puts_53 : decode cX8_puts 53 = .ok (.iastore, 1) := by decide +kernel
theorem dX8_puts_54 : decode cX8_puts 54 = .ok (.iconst 1, 1) := by decide +kernel
theorem dX8_puts_55 : decode cX8_puts 55 = .ok (.ireturn, 1) := by decide +kernel
set_option maxRecDepth 100000 in
theorem ggX8_endsRecord_X8_puts : GoodIn wsX8_endsRecord wsX8_puts := goodIn_r _ [8, 9, 10, 11, 12, 13, 14, 15, 16, 17, 18, 19, 20, 21, 22, 23, 24, 25, 26, 27, 28, 29, 30, 31, 32, 33, 34, 35, 36, 37, 38, 39, 40, 41, 42] rfl (by decide +kernel)
set_option maxRecDepth 100000 in
theorem gX8_endsRecord_X8_puts : GoodIn wsX8_endsRecord (wsV RX8 120 RX8 yX8_puts wsX8_puts) := goodIn_app (goodIn_r _ [4, 5, 6, 7] rfl (by decide +kernel)) ggX8_endsRecord_X8_puts
theorem dX8_endsRecord_0 : decode cX8_endsRecord 0 = .ok (.aload_n 0, 1) := by decide +kernel
theorem dX8_endsRecord_1 : decode cX8_endsRecord 1 = .ok (.getfield 115, 3) := by decide +kernel
theorem dX8_endsRecord_4 : decode cX8_endsRecord 4 = .ok (.ifCond .ne 5, 3) := by decide +kernel
theorem dX8_endsRecord_7 : decode cX8_endsRecord 7 = .ok (.iconst 1, 1) := by decide +kernel
theorem dX8_endsRecord_8 : decode cX8_endsRecord 8 = .ok (.ireturn, 1) := by decide +kernel
theorem dX8_endsRecord_9 : decode cX8_endsRecord 9 = .ok (.aload_n 0, 1) := by decide +kernel
theorem dX8_endsRecord_10 : decode cX8_endsRecord 10 = .ok (.aload_n 0, 1) := by decide +kernel
theorem dX8_endsRecord_11 : decode cX8_endsRecord 11 = .ok (.getfield 43, 3) := by decide +kernel
theorem dX8_endsRecord_14 : decode cX8_endsRecord 14 = .ok (.bipush 9, 2) := by decide +kernel
theorem dX8_endsRecord_16 : decode cX8_endsRecord 16 = .ok (.isub, 1) := by decide +kernel
theorem dX8_endsRecord_17 : decode cX8_endsRecord 17 = .ok (.ldc2_w 111, 3) := by decide +kernel
theorem dX8_endsRecord_20 : decode cX8_endsRecord 20 = .ok (.invokevirtual 120, 3) := by decide +kernel
theorem dX8_endsRecord_23 : decode cX8_endsRecord 23 = .ok (.ifCond .ne 5, 3) := by decide +kernel
theorem dX8_endsRecord_26 : decode cX8_endsRecord 26 = .ok (.iconst 0, 1) := by decide +kernel
theorem dX8_endsRecord_27 : decode cX8_endsRecord 27 = .ok (.ireturn, 1) := by decide +kernel
theorem dX8_endsRecord_28 : decode cX8_endsRecord 28 = .ok (.aload_n 0, 1) := by decide +kernel
theorem dX8_endsRecord_29 : decode cX8_endsRecord 29 = .ok (.iconst 0, 1) := by decide +kernel
theorem dX8_endsRecord_30 : decode cX8_endsRecord 30 = .ok (.putfield 115, 3) := by decide +kernel
theorem dX8_endsRecord_33 : decode cX8_endsRecord 33 = .ok (.iconst 1, 1) := by decide +kernel
theorem dX8_endsRecord_34 : decode cX8_endsRecord 34 = .ok (.ireturn, 1) := by decide +kernel
set_option maxRecDepth 100000 in
theorem ggX8_stop_X8_endsRecord : GoodIn wsX8_stop wsX8_endsRecord := goodIn_td 40 (goodIn_r _ [8, 1, 2, 9, 10, 11, 12, 7, 13, 14, 15, 16, 17, 18, 19, 20, 21, 22, 23, 24, 25, 26, 27, 28, 29, 30, 31, 32, 33, 34, 35, 36, 37, 38, 39, 40, 41, 42, 43, 44] rfl (by decide +kernel)) (goodIn_r _ [45, 46, 47] rfl (by decide +kernel))
set_option maxRecDepth 100000 in
theorem gX8_stop_X8_endsRecord : GoodIn wsX8_stop (wsV RX8 124 RX8 yX8_endsRecord wsX8_endsRecord) := goodIn_app (goodIn_r _ [4, 5, 6, 7] rfl (by decide +kernel)) ggX8_stop_X8_endsRecord
theorem dX8_stop_0 : decode cX8_stop 0 = .ok (.aload_n 0, 1) := by decide +kernel
theorem dX8_stop_1 : decode cX8_stop 1 = .ok (.invokevirtual 124, 3) := by decide +kernel
theorem dX8_stop_4 : decode cX8_stop 4 = .ok (.istore_n 2, 1) := by decide +kernel
theorem dX8_stop_5 : decode cX8_stop 5 = .ok (.aload_n 0, 1) := by decide +kernel
theorem dX8_stop_6 : decode cX8_stop 6 = .ok (.iconst 0, 1) := by decide +kernel
theorem dX8_stop_7 : decode cX8_stop 7 = .ok (.putfield 115, 3) := by decide +kernel
theorem dX8_stop_10 : decode cX8_stop 10 = .ok (.aload_n 0, 1) := by decide +kernel
theorem dX8_stop_11 : decode cX8_stop 11 = .ok (.iconst 0, 1) := by decide +kernel
theorem dX8_stop_12 : decode cX8_stop 12 = .ok (.putfield 43, 3) := by decide +kernel
theorem dX8_stop_15 : decode cX8_stop 15 = .ok (.aload_n 0, 1) := by decide +kernel
theorem dX8_stop_16 : decode cX8_stop 16 = .ok (.iload_n 1, 1) := by decide +kernel
theorem dX8_stop_17 : decode cX8_stop 17 = .ok (.putfield 87, 3) := by decide +kernel
theorem dX8_stop_20 : decode cX8_stop 20 = .ok (.iload_n 1, 1) := by decide +kernel
theorem dX8_stop_21 : decode cX8_stop 21 = .ok (.ireturn, 1) := by decide +kernel
set_option maxRecDepth 100000 in
theorem ggX8_wants_X8_in : GoodIn wsX8_wants wsX8_in := goodIn_r _ [8] rfl (by decide +kernel)
set_option maxRecDepth 100000 in
theorem gX8_wants_X8_in : GoodIn wsX8_wants (va_wsS RX8 49 yX8_in wsX8_in) := goodIn_app (goodIn_r _ [5, 6, 7] rfl (by decide +kernel)) ggX8_wants_X8_in
theorem dX8_wants_0 : decode cX8_wants 0 = .ok (.iload_n 0, 1) := by decide +kernel
theorem dX8_wants_1 : decode cX8_wants 1 = .ok (.i2l, 1) := by decide +kernel
theorem dX8_wants_2 : decode cX8_wants 2 = .ok (.ldc2_w 94, 3) := by decide +kernel
theorem dX8_wants_5 : decode cX8_wants 5 = .ok (.ldc2_w 128, 3) := by decide +kernel
theorem dX8_wants_8 : decode cX8_wants 8 = .ok (.invokestatic 49, 3) := by decide +kernel
theorem dX8_wants_11 : decode cX8_wants 11 = .ok (.ifCond .ne 23, 3) := by decide +kernel
theorem dX8_wants_14 : decode cX8_wants 14 = .ok (.iload_n 0, 1) := by decide +kernel
theorem dX8_wants_15 : decode cX8_wants 15 = .ok (.i2l, 1) := by decide +kernel
theorem dX8_wants_16 : decode cX8_wants 16 = .ok (.ldc2_w 130, 3) := by decide +kernel
theorem dX8_wants_19 : decode cX8_wants 19 = .ok (.ldc2_w 132, 3) := by decide +kernel
theorem dX8_wants_22 : decode cX8_wants 22 = .ok (.invokestatic 49, 3) := by decide +kernel
theorem dX8_wants_25 : decode cX8_wants 25 = .ok (.ifCond .ne 9, 3) := by decide +kernel
theorem dX8_wants_28 : decode cX8_wants 28 = .ok (.iload_n 0, 1) := by decide +kernel
theorem dX8_wants_29 : decode cX8_wants 29 = .ok (.bipush 31, 2) := by decide +kernel
theorem dX8_wants_31 : decode cX8_wants 31 = .ok (.if_icmp .ne 7, 3) := by decide +kernel
theorem dX8_wants_34 : decode cX8_wants 34 = .ok (.iconst 1, 1) := by decide +kernel
theorem dX8_wants_35 : decode cX8_wants 35 = .ok (.goto 4, 3) := by decide +kernel
theorem dX8_wants_38 : decode cX8_wants 38 = .ok (.iconst 0, 1) := by decide +kernel
theorem dX8_wants_39 : decode cX8_wants 39 = .ok (.ireturn, 1) := by decide +kernel
set_option maxRecDepth 100000 in
theorem ggX8_operand_X8_wholeAt : GoodIn wsX8_operand wsX8_wholeAt := goodIn_r _ [12, 3, 13, 14, 15, 16, 17, 18, 19, 20, 21, 22, 23, 24, 25, 26, 27, 28, 29, 30, 31, 32, 33, 34, 35, 36, 37, 38, 39, 40, 41, 42, 43] rfl (by decide +kernel)
set_option maxRecDepth 100000 in
theorem gX8_operand_X8_wholeAt : GoodIn wsX8_operand (wsV RX8 55 RX8 yX8_wholeAt wsX8_wholeAt) := goodIn_app (goodIn_r _ [8, 9, 10, 11] rfl (by decide +kernel)) ggX8_operand_X8_wholeAt
theorem dX8_operand_0 : decode cX8_operand 0 = .ok (.aload_n 0, 1) := by decide +kernel
theorem dX8_operand_1 : decode cX8_operand 1 = .ok (.getfield 134, 3) := by decide +kernel
theorem dX8_operand_4 : decode cX8_operand 4 = .ok (.ifCond .eq 14, 3) := by decide +kernel
theorem dX8_operand_7 : decode cX8_operand 7 = .ok (.aload_n 0, 1) := by decide +kernel
theorem dX8_operand_8 : decode cX8_operand 8 = .ok (.aload_n 0, 1) := by decide +kernel
theorem dX8_operand_9 : decode cX8_operand 9 = .ok (.getfield 137, 3) := by decide +kernel
theorem dX8_operand_12 : decode cX8_operand 12 = .ok (.invokevirtual 55, 3) := by decide +kernel
theorem dX8_operand_15 : decode cX8_operand 15 = .ok (.goto 16, 3) := by decide +kernel
theorem dX8_operand_18 : decode cX8_operand 18 = .ok (.aload_n 0, 1) := by decide +kernel
theorem dX8_operand_19 : decode cX8_operand 19 = .ok (.getfield 7, 3) := by decide +kernel
theorem dX8_operand_22 : decode cX8_operand 22 = .ok (.aload_n 0, 1) := by decide +kernel
theorem dX8_operand_23 : decode cX8_operand 23 = .ok (.getfield 137, 3) := by decide +kernel
theorem dX8_operand_26 : decode cX8_operand 26 = .ok (.iaload, 1) := by decide +kernel
theorem dX8_operand_27 : decode cX8_operand 27 = .ok (.i2l, 1) := by decide +kernel
theorem dX8_operand_28 : decode cX8_operand 28 = .ok (.bipush 18, 2) := by decide +kernel
theorem dX8_operand_30 : decode cX8_operand 30 = .ok (.lshl, 1) := by decide +kernel
theorem dX8_operand_31 : decode cX8_operand 31 = .ok (.lstore_n 1, 1) := by decide +kernel
theorem dX8_operand_32 : decode cX8_operand 32 = .ok (.aload_n 0, 1) := by decide +kernel
theorem dX8_operand_33 : decode cX8_operand 33 = .ok (.lload_n 1, 1) := by decide +kernel
theorem dX8_operand_34 : decode cX8_operand 34 = .ok (.ldc2_w 140, 3) := by decide +kernel
theorem dX8_operand_37 : decode cX8_operand 37 = .ok (.land, 1) := by decide +kernel
theorem dX8_operand_38 : decode cX8_operand 38 = .ok (.lconst 0, 1) := by decide +kernel
theorem dX8_operand_39 : decode cX8_operand 39 = .ok (.lcmp, 1) := by decide +kernel
theorem dX8_operand_40 : decode cX8_operand 40 = .ok (.ifCond .eq 7, 3) := by decide +kernel
theorem dX8_operand_43 : decode cX8_operand 43 = .ok (.iconst 1, 1) := by decide +kernel
theorem dX8_operand_44 : decode cX8_operand 44 = .ok (.goto 4, 3) := by decide +kernel
theorem dX8_operand_47 : decode cX8_operand 47 = .ok (.iconst 0, 1) := by decide +kernel
theorem dX8_operand_48 : decode cX8_operand 48 = .ok (.putfield 142, 3) := by decide +kernel
theorem dX8_operand_51 : decode cX8_operand 51 = .ok (.aload_n 0, 1) := by decide +kernel
theorem dX8_operand_52 : decode cX8_operand 52 = .ok (.lload_n 1, 1) := by decide +kernel
theorem dX8_operand_53 : decode cX8_operand 53 = .ok (.ldc2_w 92, 3) := by decide +kernel
theorem dX8_operand_56 : decode cX8_operand 56 = .ok (.land, 1) := by decide +kernel
theorem dX8_operand_57 : decode cX8_operand 57 = .ok (.putfield 145, 3) := by decide +kernel
theorem dX8_operand_60 : decode cX8_operand 60 = .ok (.return_, 1) := by decide +kernel
set_option maxRecDepth 100000 in
theorem ggX8_operandBits_X8_wholeAt : GoodIn wsX8_operandBits wsX8_wholeAt := goodIn_r _ [8, 3, 9, 10, 11, 12, 13, 14, 15, 16, 17, 18, 19, 20, 21, 22, 23, 24, 25, 26, 27, 28, 29, 30, 31, 32, 33, 34, 35, 36, 37, 38, 39] rfl (by decide +kernel)
set_option maxRecDepth 100000 in
theorem gX8_operandBits_X8_wholeAt : GoodIn wsX8_operandBits (wsV RX8 55 RX8 yX8_wholeAt wsX8_wholeAt) := goodIn_app (goodIn_r _ [4, 5, 6, 7] rfl (by decide +kernel)) ggX8_operandBits_X8_wholeAt
theorem dX8_operandBits_0 : decode cX8_operandBits 0 = .ok (.aload_n 0, 1) := by decide +kernel
theorem dX8_operandBits_1 : decode cX8_operandBits 1 = .ok (.getfield 134, 3) := by decide +kernel
theorem dX8_operandBits_4 : decode cX8_operandBits 4 = .ok (.ifCond .eq 14, 3) := by decide +kernel
theorem dX8_operandBits_7 : decode cX8_operandBits 7 = .ok (.aload_n 0, 1) := by decide +kernel
theorem dX8_operandBits_8 : decode cX8_operandBits 8 = .ok (.aload_n 0, 1) := by decide +kernel
theorem dX8_operandBits_9 : decode cX8_operandBits 9 = .ok (.getfield 137, 3) := by decide +kernel
theorem dX8_operandBits_12 : decode cX8_operandBits 12 = .ok (.invokevirtual 55, 3) := by decide +kernel
theorem dX8_operandBits_15 : decode cX8_operandBits 15 = .ok (.goto 16, 3) := by decide +kernel
theorem dX8_operandBits_18 : decode cX8_operandBits 18 = .ok (.aload_n 0, 1) := by decide +kernel
theorem dX8_operandBits_19 : decode cX8_operandBits 19 = .ok (.getfield 7, 3) := by decide +kernel
theorem dX8_operandBits_22 : decode cX8_operandBits 22 = .ok (.aload_n 0, 1) := by decide +kernel
theorem dX8_operandBits_23 : decode cX8_operandBits 23 = .ok (.getfield 137, 3) := by decide +kernel
theorem dX8_operandBits_26 : decode cX8_operandBits 26 = .ok (.iaload, 1) := by decide +kernel
theorem dX8_operandBits_27 : decode cX8_operandBits 27 = .ok (.i2l, 1) := by decide +kernel
theorem dX8_operandBits_28 : decode cX8_operandBits 28 = .ok (.bipush 18, 2) := by decide +kernel
theorem dX8_operandBits_30 : decode cX8_operandBits 30 = .ok (.lshl, 1) := by decide +kernel
theorem dX8_operandBits_31 : decode cX8_operandBits 31 = .ok (.lreturn, 1) := by decide +kernel
set_option maxRecDepth 100000 in
theorem ggX8_store_X8_putWhole : GoodIn wsX8_store wsX8_putWhole := goodIn_r _ [9, 3, 4, 10, 11, 12, 13, 14, 15, 16, 17, 18, 19, 20, 21, 22, 23, 24, 25, 26, 27, 28, 29, 30, 31, 32, 33, 34, 35, 36, 37, 38, 39, 40] rfl (by decide +kernel)
set_option maxRecDepth 100000 in
theorem gX8_store_X8_putWhole : GoodIn wsX8_store (wsV RX8 148 RX8 yX8_putWhole wsX8_putWhole) := goodIn_app (goodIn_r _ [5, 6, 7, 8] rfl (by decide +kernel)) ggX8_store_X8_putWhole
theorem dX8_store_0 : decode cX8_store 0 = .ok (.aload_n 0, 1) := by decide +kernel
theorem dX8_store_1 : decode cX8_store 1 = .ok (.getfield 134, 3) := by decide +kernel
theorem dX8_store_4 : decode cX8_store 4 = .ok (.ifCond .eq 15, 3) := by decide +kernel
theorem dX8_store_7 : decode cX8_store 7 = .ok (.aload_n 0, 1) := by decide +kernel
theorem dX8_store_8 : decode cX8_store 8 = .ok (.aload_n 0, 1) := by decide +kernel
theorem dX8_store_9 : decode cX8_store 9 = .ok (.getfield 137, 3) := by decide +kernel
theorem dX8_store_12 : decode cX8_store 12 = .ok (.lload_n 1, 1) := by decide +kernel
theorem dX8_store_13 : decode cX8_store 13 = .ok (.invokevirtual 148, 3) := by decide +kernel
theorem dX8_store_16 : decode cX8_store 16 = .ok (.goto 21, 3) := by decide +kernel
theorem dX8_store_19 : decode cX8_store 19 = .ok (.aload_n 0, 1) := by decide +kernel
theorem dX8_store_20 : decode cX8_store 20 = .ok (.getfield 7, 3) := by decide +kernel
theorem dX8_store_23 : decode cX8_store 23 = .ok (.aload_n 0, 1) := by decide +kernel
theorem dX8_store_24 : decode cX8_store 24 = .ok (.getfield 137, 3) := by decide +kernel
theorem dX8_store_27 : decode cX8_store 27 = .ok (.lload_n 1, 1) := by decide +kernel
theorem dX8_store_28 : decode cX8_store 28 = .ok (.bipush 18, 2) := by decide +kernel
theorem dX8_store_30 : decode cX8_store 30 = .ok (.lshr, 1) := by decide +kernel
theorem dX8_store_31 : decode cX8_store 31 = .ok (.ldc2_w 53, 3) := by decide +kernel
theorem dX8_store_34 : decode cX8_store 34 = .ok (.land, 1) := by decide +kernel
theorem dX8_store_35 : decode cX8_store 35 = .ok (.l2i, 1) := by decide +kernel
theorem dX8_store_36 : decode cX8_store 36 = .ok (.iastore, 1) := by decide +kernel
theorem dX8_store_37 : decode cX8_store 37 = .ok (.return_, 1) := by decide +kernel
theorem dX8_bits_0 : decode cX8_bits 0 = .ok (.iload_n 0, 1) := by decide +kernel
theorem dX8_bits_1 : decode cX8_bits 1 = .ok (.ifCond .eq 9, 3) := by decide +kernel
theorem dX8_bits_4 : decode cX8_bits 4 = .ok (.ldc2_w 140, 3) := by decide +kernel
theorem dX8_bits_7 : decode cX8_bits 7 = .ok (.goto 4, 3) := by decide +kernel
theorem dX8_bits_10 : decode cX8_bits 10 = .ok (.lconst 0, 1) := by decide +kernel
theorem dX8_bits_11 : decode cX8_bits 11 = .ok (.lload_n 1, 1) := by decide +kernel
theorem dX8_bits_12 : decode cX8_bits 12 = .ok (.ldc2_w 92, 3) := by decide +kernel
theorem dX8_bits_15 : decode cX8_bits 15 = .ok (.land, 1) := by decide +kernel
theorem dX8_bits_16 : decode cX8_bits 16 = .ok (.lor, 1) := by decide +kernel
theorem dX8_bits_17 : decode cX8_bits 17 = .ok (.lreturn, 1) := by decide +kernel
theorem dX8_more_0 : decode cX8_more 0 = .ok (.aload_n 0, 1) := by decide +kernel
theorem dX8_more_1 : decode cX8_more 1 = .ok (.aload_n 0, 1) := by decide +kernel
theorem dX8_more_2 : decode cX8_more 2 = .ok (.getfield 75, 3) := by decide +kernel
theorem dX8_more_5 : decode cX8_more 5 = .ok (.ifCond .ne 24, 3) := by decide +kernel
theorem dX8_more_8 : decode cX8_more 8 = .ok (.aload_n 0, 1) := by decide +kernel
theorem dX8_more_9 : decode cX8_more 9 = .ok (.getfield 65, 3) := by decide +kernel
theorem dX8_more_12 : decode cX8_more 12 = .ok (.ldc2_w 92, 3) := by decide +kernel
theorem dX8_more_15 : decode cX8_more 15 = .ok (.land, 1) := by decide +kernel
theorem dX8_more_16 : decode cX8_more 16 = .ok (.lload_n 1, 1) := by decide +kernel
theorem dX8_more_17 : decode cX8_more 17 = .ok (.ldc2_w 92, 3) := by decide +kernel
theorem dX8_more_20 : decode cX8_more 20 = .ok (.land, 1) := by decide +kernel
theorem dX8_more_21 : decode cX8_more 21 = .ok (.ladd, 1) := by decide +kernel
theorem dX8_more_22 : decode cX8_more 22 = .ok (.ldc2_w 140, 3) := by decide +kernel
theorem dX8_more_25 : decode cX8_more 25 = .ok (.lcmp, 1) := by decide +kernel
theorem dX8_more_26 : decode cX8_more 26 = .ok (.ifCond .lt 7, 3) := by decide +kernel
theorem dX8_more_29 : decode cX8_more 29 = .ok (.iconst 1, 1) := by decide +kernel
theorem dX8_more_30 : decode cX8_more 30 = .ok (.goto 4, 3) := by decide +kernel
theorem dX8_more_33 : decode cX8_more 33 = .ok (.iconst 0, 1) := by decide +kernel
theorem dX8_more_34 : decode cX8_more 34 = .ok (.putfield 75, 3) := by decide +kernel
theorem dX8_more_37 : decode cX8_more 37 = .ok (.aload_n 0, 1) := by decide +kernel
theorem dX8_more_38 : decode cX8_more 38 = .ok (.aload_n 0, 1) := by decide +kernel
theorem dX8_more_39 : decode cX8_more 39 = .ok (.getfield 65, 3) := by decide +kernel
theorem dX8_more_42 : decode cX8_more 42 = .ok (.lload_n 1, 1) := by decide +kernel
theorem dX8_more_43 : decode cX8_more 43 = .ok (.ladd, 1) := by decide +kernel
theorem dX8_more_44 : decode cX8_more 44 = .ok (.ldc2_w 90, 3) := by decide +kernel
theorem dX8_more_47 : decode cX8_more 47 = .ok (.land, 1) := by decide +kernel
theorem dX8_more_48 : decode cX8_more 48 = .ok (.putfield 65, 3) := by decide +kernel
theorem dX8_more_51 : decode cX8_more 51 = .ok (.return_, 1) := by decide +kernel
set_option maxRecDepth 100000 in
theorem ggX8_add_X8_more : GoodIn wsX8_add wsX8_more := goodIn_r _ [7, 8, 2, 9, 10, 11, 12, 13, 14, 15, 16, 17, 18, 19, 20, 21, 22, 23, 24, 25, 26, 27, 28, 29, 30, 31, 32, 33, 34, 35, 36, 37, 38, 39, 40, 41, 42] rfl (by decide +kernel)
set_option maxRecDepth 100000 in
theorem gX8_add_X8_more : GoodIn wsX8_add (wsV RX8 152 RX8 yX8_more wsX8_more) := goodIn_app (goodIn_r _ [3, 4, 5, 6] rfl (by decide +kernel)) ggX8_add_X8_more
theorem dX8_add_0 : decode cX8_add 0 = .ok (.iload_n 1, 1) := by decide +kernel
theorem dX8_add_1 : decode cX8_add 1 = .ok (.aload_n 0, 1) := by decide +kernel
theorem dX8_add_2 : decode cX8_add 2 = .ok (.getfield 61, 3) := by decide +kernel
theorem dX8_add_5 : decode cX8_add 5 = .ok (.if_icmp .ne 11, 3) := by decide +kernel
theorem dX8_add_8 : decode cX8_add 8 = .ok (.aload_n 0, 1) := by decide +kernel
theorem dX8_add_9 : decode cX8_add 9 = .ok (.lload_n 2, 1) := by decide +kernel
theorem dX8_add_10 : decode cX8_add 10 = .ok (.invokevirtual 152, 3) := by decide +kernel
theorem dX8_add_13 : decode cX8_add 13 = .ok (.goto 40, 3) := by decide +kernel
theorem dX8_add_16 : decode cX8_add 16 = .ok (.lload_n 2, 1) := by decide +kernel
theorem dX8_add_17 : decode cX8_add 17 = .ok (.aload_n 0, 1) := by decide +kernel
theorem dX8_add_18 : decode cX8_add 18 = .ok (.getfield 65, 3) := by decide +kernel
theorem dX8_add_21 : decode cX8_add 21 = .ok (.lcmp, 1) := by decide +kernel
theorem dX8_add_22 : decode cX8_add 22 = .ok (.ifCond .le 21, 3) := by decide +kernel
theorem dX8_add_25 : decode cX8_add 25 = .ok (.aload_n 0, 1) := by decide +kernel
theorem dX8_add_26 : decode cX8_add 26 = .ok (.lload_n 2, 1) := by decide +kernel
theorem dX8_add_27 : decode cX8_add 27 = .ok (.aload_n 0, 1) := by decide +kernel
theorem dX8_add_28 : decode cX8_add 28 = .ok (.getfield 65, 3) := by decide +kernel
theorem dX8_add_31 : decode cX8_add 31 = .ok (.lsub, 1) := by decide +kernel
theorem dX8_add_32 : decode cX8_add 32 = .ok (.putfield 65, 3) := by decide +kernel
theorem dX8_add_35 : decode cX8_add 35 = .ok (.aload_n 0, 1) := by decide +kernel
theorem dX8_add_36 : decode cX8_add 36 = .ok (.iload_n 1, 1) := by decide +kernel
theorem dX8_add_37 : decode cX8_add 37 = .ok (.putfield 61, 3) := by decide +kernel
theorem dX8_add_40 : decode cX8_add 40 = .ok (.goto 13, 3) := by decide +kernel
theorem dX8_add_43 : decode cX8_add 43 = .ok (.aload_n 0, 1) := by decide +kernel
theorem dX8_add_44 : decode cX8_add 44 = .ok (.aload_n 0, 1) := by decide +kernel
theorem dX8_add_45 : decode cX8_add 45 = .ok (.getfield 65, 3) := by decide +kernel
theorem dX8_add_48 : decode cX8_add 48 = .ok (.lload_n 2, 1) := by decide +kernel
theorem dX8_add_49 : decode cX8_add 49 = .ok (.lsub, 1) := by decide +kernel
theorem dX8_add_50 : decode cX8_add 50 = .ok (.putfield 65, 3) := by decide +kernel
theorem dX8_add_53 : decode cX8_add 53 = .ok (.return_, 1) := by decide +kernel
theorem dX8_times_0 : decode cX8_times 0 = .ok (.aload_n 0, 1) := by decide +kernel
theorem dX8_times_1 : decode cX8_times 1 = .ok (.getfield 72, 3) := by decide +kernel
theorem dX8_times_4 : decode cX8_times 4 = .ok (.bipush 18, 2) := by decide +kernel
theorem dX8_times_6 : decode cX8_times 6 = .ok (.lshr, 1) := by decide +kernel
theorem dX8_times_7 : decode cX8_times 7 = .ok (.lstore_n 1, 1) := by decide +kernel
theorem dX8_times_8 : decode cX8_times 8 = .ok (.aload_n 0, 1) := by decide +kernel
theorem dX8_times_9 : decode cX8_times 9 = .ok (.getfield 72, 3) := by decide +kernel
theorem dX8_times_12 : decode cX8_times 12 = .ok (.ldc2_w 53, 3) := by decide +kernel
theorem dX8_times_15 : decode cX8_times 15 = .ok (.land, 1) := by decide +kernel
theorem dX8_times_16 : decode cX8_times 16 = .ok (.lstore_n 3, 1) := by decide +kernel
theorem dX8_times_17 : decode cX8_times 17 = .ok (.lload_n 3, 1) := by decide +kernel
theorem dX8_times_18 : decode cX8_times 18 = .ok (.aload_n 0, 1) := by decide +kernel
theorem dX8_times_19 : decode cX8_times 19 = .ok (.getfield 145, 3) := by decide +kernel
theorem dX8_times_22 : decode cX8_times 22 = .ok (.lmul, 1) := by decide +kernel
theorem dX8_times_23 : decode cX8_times 23 = .ok (.lstore 5, 2) := by decide +kernel
theorem dX8_times_25 : decode cX8_times 25 = .ok (.lload_n 1, 1) := by decide +kernel
theorem dX8_times_26 : decode cX8_times 26 = .ok (.aload_n 0, 1) := by decide +kernel
theorem dX8_times_27 : decode cX8_times 27 = .ok (.getfield 145, 3) := by decide +kernel
theorem dX8_times_30 : decode cX8_times 30 = .ok (.lmul, 1) := by decide +kernel
theorem dX8_times_31 : decode cX8_times 31 = .ok (.lstore 7, 2) := by decide +kernel
theorem dX8_times_33 : decode cX8_times 33 = .ok (.lload 7, 2) := by decide +kernel
theorem dX8_times_35 : decode cX8_times 35 = .ok (.ldc2_w 156, 3) := by decide +kernel
theorem dX8_times_38 : decode cX8_times 38 = .ok (.land, 1) := by decide +kernel
theorem dX8_times_39 : decode cX8_times 39 = .ok (.bipush 18, 2) := by decide +kernel
theorem dX8_times_41 : decode cX8_times 41 = .ok (.lshl, 1) := by decide +kernel
theorem dX8_times_42 : decode cX8_times 42 = .ok (.lload 5, 2) := by decide +kernel
theorem dX8_times_44 : decode cX8_times 44 = .ok (.ladd, 1) := by decide +kernel
theorem dX8_times_45 : decode cX8_times 45 = .ok (.lstore 9, 2) := by decide +kernel
theorem dX8_times_47 : decode cX8_times 47 = .ok (.aload_n 0, 1) := by decide +kernel
theorem dX8_times_48 : decode cX8_times 48 = .ok (.lload 7, 2) := by decide +kernel
theorem dX8_times_50 : decode cX8_times 50 = .ok (.bipush 17, 2) := by decide +kernel
theorem dX8_times_52 : decode cX8_times 52 = .ok (.lshr, 1) := by decide +kernel
theorem dX8_times_53 : decode cX8_times 53 = .ok (.lload 9, 2) := by decide +kernel
theorem dX8_times_55 : decode cX8_times 55 = .ok (.bipush 35, 2) := by decide +kernel
theorem dX8_times_57 : decode cX8_times 57 = .ok (.lshr, 1) := by decide +kernel
theorem dX8_times_58 : decode cX8_times 58 = .ok (.ladd, 1) := by decide +kernel
theorem dX8_times_59 : decode cX8_times 59 = .ok (.putfield 65, 3) := by decide +kernel
theorem dX8_times_62 : decode cX8_times 62 = .ok (.aload_n 0, 1) := by decide +kernel
theorem dX8_times_63 : decode cX8_times 63 = .ok (.lload 9, 2) := by decide +kernel
theorem dX8_times_65 : decode cX8_times 65 = .ok (.ldc2_w 92, 3) := by decide +kernel
theorem dX8_times_68 : decode cX8_times 68 = .ok (.land, 1) := by decide +kernel
theorem dX8_times_69 : decode cX8_times 69 = .ok (.putfield 72, 3) := by decide +kernel
theorem dX8_times_72 : decode cX8_times 72 = .ok (.aload_n 0, 1) := by decide +kernel
theorem dX8_times_73 : decode cX8_times 73 = .ok (.getfield 69, 3) := by decide +kernel
theorem dX8_times_76 : decode cX8_times 76 = .ok (.aload_n 0, 1) := by decide +kernel
theorem dX8_times_77 : decode cX8_times 77 = .ok (.getfield 142, 3) := by decide +kernel
theorem dX8_times_80 : decode cX8_times 80 = .ok (.if_icmp .eq 7, 3) := by decide +kernel
theorem dX8_times_83 : decode cX8_times 83 = .ok (.iconst 1, 1) := by decide +kernel
theorem dX8_times_84 : decode cX8_times 84 = .ok (.goto 4, 3) := by decide +kernel
theorem dX8_times_87 : decode cX8_times 87 = .ok (.iconst 0, 1) := by decide +kernel
theorem dX8_times_88 : decode cX8_times 88 = .ok (.istore 11, 2) := by decide +kernel
theorem dX8_times_90 : decode cX8_times 90 = .ok (.aload_n 0, 1) := by decide +kernel
theorem dX8_times_91 : decode cX8_times 91 = .ok (.iload 11, 2) := by decide +kernel
theorem dX8_times_93 : decode cX8_times 93 = .ok (.putfield 61, 3) := by decide +kernel
theorem dX8_times_96 : decode cX8_times 96 = .ok (.aload_n 0, 1) := by decide +kernel
theorem dX8_times_97 : decode cX8_times 97 = .ok (.iload 11, 2) := by decide +kernel
theorem dX8_times_99 : decode cX8_times 99 = .ok (.putfield 69, 3) := by decide +kernel
theorem dX8_times_102 : decode cX8_times 102 = .ok (.return_, 1) := by decide +kernel
set_option maxRecDepth 100000 in
theorem ggX8_round_X8_more : GoodIn wsX8_round wsX8_more := goodIn_r _ [6, 7, 8, 9, 10, 11, 12, 13, 14, 15, 16, 17, 18, 19, 20, 21, 22, 23, 24, 25, 26, 27, 28, 29, 30, 31, 32, 33, 34, 35, 36, 37, 38, 39, 40, 41, 42] rfl (by decide +kernel)
set_option maxRecDepth 100000 in
theorem gX8_round_X8_more : GoodIn wsX8_round (wsV RX8 152 RX8 yX8_more wsX8_more) := goodIn_app (goodIn_r _ [2, 3, 4, 5] rfl (by decide +kernel)) ggX8_round_X8_more
theorem dX8_round_0 : decode cX8_round 0 = .ok (.aload_n 0, 1) := by decide +kernel
theorem dX8_round_1 : decode cX8_round 1 = .ok (.getfield 72, 3) := by decide +kernel
theorem dX8_round_4 : decode cX8_round 4 = .ok (.bipush 34, 2) := by decide +kernel
theorem dX8_round_6 : decode cX8_round 6 = .ok (.lshr, 1) := by decide +kernel
theorem dX8_round_7 : decode cX8_round 7 = .ok (.lconst 1, 1) := by decide +kernel
theorem dX8_round_8 : decode cX8_round 8 = .ok (.land, 1) := by decide +kernel
theorem dX8_round_9 : decode cX8_round 9 = .ok (.lconst 1, 1) := by decide +kernel
theorem dX8_round_10 : decode cX8_round 10 = .ok (.lcmp, 1) := by decide +kernel
theorem dX8_round_11 : decode cX8_round 11 = .ok (.ifCond .ne 8, 3) := by decide +kernel
theorem dX8_round_14 : decode cX8_round 14 = .ok (.aload_n 0, 1) := by decide +kernel
theorem dX8_round_15 : decode cX8_round 15 = .ok (.lconst 1, 1) := by decide +kernel
theorem dX8_round_16 : decode cX8_round 16 = .ok (.invokevirtual 152, 3) := by decide +kernel
theorem dX8_round_19 : decode cX8_round 19 = .ok (.return_, 1) := by decide +kernel
theorem dX8_shares_0 : decode cX8_shares 0 = .ok (.aload_n 0, 1) := by decide +kernel
theorem dX8_shares_1 : decode cX8_shares 1 = .ok (.getfield 145, 3) := by decide +kernel
theorem dX8_shares_4 : decode cX8_shares 4 = .ok (.aload_n 0, 1) := by decide +kernel
theorem dX8_shares_5 : decode cX8_shares 5 = .ok (.getfield 65, 3) := by decide +kernel
theorem dX8_shares_8 : decode cX8_shares 8 = .ok (.lcmp, 1) := by decide +kernel
theorem dX8_shares_9 : decode cX8_shares 9 = .ok (.ifCond .gt 5, 3) := by decide +kernel
theorem dX8_shares_12 : decode cX8_shares 12 = .ok (.iconst 0, 1) := by decide +kernel
theorem dX8_shares_13 : decode cX8_shares 13 = .ok (.ireturn, 1) := by decide +kernel
theorem dX8_shares_14 : decode cX8_shares 14 = .ok (.aload_n 0, 1) := by decide +kernel
theorem dX8_shares_15 : decode cX8_shares 15 = .ok (.getfield 65, 3) := by decide +kernel
theorem dX8_shares_18 : decode cX8_shares 18 = .ok (.lstore_n 1, 1) := by decide +kernel
theorem dX8_shares_19 : decode cX8_shares 19 = .ok (.lconst 0, 1) := by decide +kernel
theorem dX8_shares_20 : decode cX8_shares 20 = .ok (.lstore_n 3, 1) := by decide +kernel
theorem dX8_shares_21 : decode cX8_shares 21 = .ok (.bipush 34, 2) := by decide +kernel
theorem dX8_shares_23 : decode cX8_shares 23 = .ok (.istore 5, 2) := by decide +kernel
theorem dX8_shares_25 : decode cX8_shares 25 = .ok (.iload 5, 2) := by decide +kernel
theorem dX8_shares_27 : decode cX8_shares 27 = .ok (.ifCond .lt 47, 3) := by decide +kernel
theorem dX8_shares_30 : decode cX8_shares 30 = .ok (.lload_n 1, 1) := by decide +kernel
theorem dX8_shares_31 : decode cX8_shares 31 = .ok (.iconst 1, 1) := by decide +kernel
theorem dX8_shares_32 : decode cX8_shares 32 = .ok (.lshl, 1) := by decide +kernel
theorem dX8_shares_33 : decode cX8_shares 33 = .ok (.aload_n 0, 1) := by decide +kernel
theorem dX8_shares_34 : decode cX8_shares 34 = .ok (.getfield 72, 3) := by decide +kernel
theorem dX8_shares_37 : decode cX8_shares 37 = .ok (.iload 5, 2) := by decide +kernel
theorem dX8_shares_39 : decode cX8_shares 39 = .ok (.lshr, 1) := by decide +kernel
theorem dX8_shares_40 : decode cX8_shares 40 = .ok (.lconst 1, 1) := by decide +kernel
theorem dX8_shares_41 : decode cX8_shares 41 = .ok (.land, 1) := by decide +kernel
theorem dX8_shares_42 : decode cX8_shares 42 = .ok (.lor, 1) := by decide +kernel
theorem dX8_shares_43 : decode cX8_shares 43 = .ok (.lstore_n 1, 1) := by decide +kernel
theorem dX8_shares_44 : decode cX8_shares 44 = .ok (.lload_n 3, 1) := by decide +kernel
theorem dX8_shares_45 : decode cX8_shares 45 = .ok (.iconst 1, 1) := by decide +kernel
theorem dX8_shares_46 : decode cX8_shares 46 = .ok (.lshl, 1) := by decide +kernel
theorem dX8_shares_47 : decode cX8_shares 47 = .ok (.lstore_n 3, 1) := by decide +kernel
theorem dX8_shares_48 : decode cX8_shares 48 = .ok (.lload_n 1, 1) := by decide +kernel
theorem dX8_shares_49 : decode cX8_shares 49 = .ok (.aload_n 0, 1) := by decide +kernel
theorem dX8_shares_50 : decode cX8_shares 50 = .ok (.getfield 145, 3) := by decide +kernel
theorem dX8_shares_53 : decode cX8_shares 53 = .ok (.lcmp, 1) := by decide +kernel
theorem dX8_shares_54 : decode cX8_shares 54 = .ok (.ifCond .lt 14, 3) := by decide +kernel
theorem dX8_shares_57 : decode cX8_shares 57 = .ok (.lload_n 1, 1) := by decide +kernel
theorem dX8_shares_58 : decode cX8_shares 58 = .ok (.aload_n 0, 1) := by decide +kernel
theorem dX8_shares_59 : decode cX8_shares 59 = .ok (.getfield 145, 3) := by decide +kernel
theorem dX8_shares_62 : decode cX8_shares 62 = .ok (.lsub, 1) := by decide +kernel
theorem dX8_shares_63 : decode cX8_shares 63 = .ok (.lstore_n 1, 1) := by decide +kernel
theorem dX8_shares_64 : decode cX8_shares 64 = .ok (.lload_n 3, 1) := by decide +kernel
theorem dX8_shares_65 : decode cX8_shares 65 = .ok (.lconst 1, 1) := by decide +kernel
theorem dX8_shares_66 : decode cX8_shares 66 = .ok (.lor, 1) := by decide +kernel
theorem dX8_shares_67 : decode cX8_shares 67 = .ok (.lstore_n 3, 1) := by decide +kernel
theorem dX8_shares_68 : decode cX8_shares 68 = .ok (.iinc 5 (-1), 3) := by decide +kernel
theorem dX8_shares_71 : decode cX8_shares 71 = .ok (.goto (-46), 3) := by decide +kernel
theorem dX8_shares_74 : decode cX8_shares 74 = .ok (.aload_n 0, 1) := by decide +kernel
theorem dX8_shares_75 : decode cX8_shares 75 = .ok (.lload_n 1, 1) := by decide +kernel
theorem dX8_shares_76 : decode cX8_shares 76 = .ok (.putfield 65, 3) := by decide +kernel
theorem dX8_shares_79 : decode cX8_shares 79 = .ok (.aload_n 0, 1) := by decide +kernel
theorem dX8_shares_80 : decode cX8_shares 80 = .ok (.lload_n 3, 1) := by decide +kernel
theorem dX8_shares_81 : decode cX8_shares 81 = .ok (.putfield 72, 3) := by decide +kernel
theorem dX8_shares_84 : decode cX8_shares 84 = .ok (.aload_n 0, 1) := by decide +kernel
theorem dX8_shares_85 : decode cX8_shares 85 = .ok (.aload_n 0, 1) := by decide +kernel
theorem dX8_shares_86 : decode cX8_shares 86 = .ok (.getfield 61, 3) := by decide +kernel
theorem dX8_shares_89 : decode cX8_shares 89 = .ok (.aload_n 0, 1) := by decide +kernel
theorem dX8_shares_90 : decode cX8_shares 90 = .ok (.getfield 142, 3) := by decide +kernel
theorem dX8_shares_93 : decode cX8_shares 93 = .ok (.if_icmp .eq 7, 3) := by decide +kernel
theorem dX8_shares_96 : decode cX8_shares 96 = .ok (.iconst 1, 1) := by decide +kernel
theorem dX8_shares_97 : decode cX8_shares 97 = .ok (.goto 4, 3) := by decide +kernel
theorem dX8_shares_100 : decode cX8_shares 100 = .ok (.iconst 0, 1) := by decide +kernel
theorem dX8_shares_101 : decode cX8_shares 101 = .ok (.putfield 69, 3) := by decide +kernel
theorem dX8_shares_104 : decode cX8_shares 104 = .ok (.iconst 1, 1) := by decide +kernel
theorem dX8_shares_105 : decode cX8_shares 105 = .ok (.ireturn, 1) := by decide +kernel
theorem dX8_left_0 : decode cX8_left 0 = .ok (.iconst 0, 1) := by decide +kernel
theorem dX8_left_1 : decode cX8_left 1 = .ok (.istore_n 3, 1) := by decide +kernel
theorem dX8_left_2 : decode cX8_left 2 = .ok (.iload_n 3, 1) := by decide +kernel
theorem dX8_left_3 : decode cX8_left 3 = .ok (.iload_n 1, 1) := by decide +kernel
theorem dX8_left_4 : decode cX8_left 4 = .ok (.if_icmp .ge 99, 3) := by decide +kernel
theorem dX8_left_7 : decode cX8_left 7 = .ok (.iload_n 2, 1) := by decide +kernel
theorem dX8_left_8 : decode cX8_left 8 = .ok (.ifCond .eq 15, 3) := by decide +kernel
theorem dX8_left_11 : decode cX8_left 11 = .ok (.aload_n 0, 1) := by decide +kernel
theorem dX8_left_12 : decode cX8_left 12 = .ok (.getfield 72, 3) := by decide +kernel
theorem dX8_left_15 : decode cX8_left 15 = .ok (.bipush 34, 2) := by decide +kernel
theorem dX8_left_17 : decode cX8_left 17 = .ok (.lshr, 1) := by decide +kernel
theorem dX8_left_18 : decode cX8_left 18 = .ok (.lconst 1, 1) := by decide +kernel
theorem dX8_left_19 : decode cX8_left 19 = .ok (.land, 1) := by decide +kernel
theorem dX8_left_20 : decode cX8_left 20 = .ok (.goto 4, 3) := by decide +kernel
theorem dX8_left_23 : decode cX8_left 23 = .ok (.lconst 0, 1) := by decide +kernel
theorem dX8_left_24 : decode cX8_left 24 = .ok (.lstore 4, 2) := by decide +kernel
theorem dX8_left_26 : decode cX8_left 26 = .ok (.aload_n 0, 1) := by decide +kernel
theorem dX8_left_27 : decode cX8_left 27 = .ok (.aload_n 0, 1) := by decide +kernel
theorem dX8_left_28 : decode cX8_left 28 = .ok (.getfield 65, 3) := by decide +kernel
theorem dX8_left_31 : decode cX8_left 31 = .ok (.iconst 1, 1) := by decide +kernel
theorem dX8_left_32 : decode cX8_left 32 = .ok (.lshl, 1) := by decide +kernel
theorem dX8_left_33 : decode cX8_left 33 = .ok (.lload 4, 2) := by decide +kernel
theorem dX8_left_35 : decode cX8_left 35 = .ok (.lor, 1) := by decide +kernel
theorem dX8_left_36 : decode cX8_left 36 = .ok (.ldc2_w 90, 3) := by decide +kernel
theorem dX8_left_39 : decode cX8_left 39 = .ok (.land, 1) := by decide +kernel
theorem dX8_left_40 : decode cX8_left 40 = .ok (.putfield 65, 3) := by decide +kernel
theorem dX8_left_43 : decode cX8_left 43 = .ok (.aload_n 0, 1) := by decide +kernel
theorem dX8_left_44 : decode cX8_left 44 = .ok (.iload_n 2, 1) := by decide +kernel
theorem dX8_left_45 : decode cX8_left 45 = .ok (.ifCond .eq 16, 3) := by decide +kernel
theorem dX8_left_48 : decode cX8_left 48 = .ok (.aload_n 0, 1) := by decide +kernel
theorem dX8_left_49 : decode cX8_left 49 = .ok (.getfield 72, 3) := by decide +kernel
theorem dX8_left_52 : decode cX8_left 52 = .ok (.iconst 1, 1) := by decide +kernel
theorem dX8_left_53 : decode cX8_left 53 = .ok (.lshl, 1) := by decide +kernel
theorem dX8_left_54 : decode cX8_left 54 = .ok (.ldc2_w 92, 3) := by decide +kernel
theorem dX8_left_57 : decode cX8_left 57 = .ok (.land, 1) := by decide +kernel
theorem dX8_left_58 : decode cX8_left 58 = .ok (.goto 7, 3) := by decide +kernel
theorem dX8_left_61 : decode cX8_left 61 = .ok (.aload_n 0, 1) := by decide +kernel
theorem dX8_left_62 : decode cX8_left 62 = .ok (.getfield 72, 3) := by decide +kernel
theorem dX8_left_65 : decode cX8_left 65 = .ok (.putfield 72, 3) := by decide +kernel
theorem dX8_left_68 : decode cX8_left 68 = .ok (.aload_n 0, 1) := by decide +kernel
theorem dX8_left_69 : decode cX8_left 69 = .ok (.aload_n 0, 1) := by decide +kernel
theorem dX8_left_70 : decode cX8_left 70 = .ok (.getfield 75, 3) := by decide +kernel
theorem dX8_left_73 : decode cX8_left 73 = .ok (.ifCond .ne 16, 3) := by decide +kernel
theorem dX8_left_76 : decode cX8_left 76 = .ok (.aload_n 0, 1) := by decide +kernel
theorem dX8_left_77 : decode cX8_left 77 = .ok (.getfield 65, 3) := by decide +kernel
theorem dX8_left_80 : decode cX8_left 80 = .ok (.ldc2_w 140, 3) := by decide +kernel
theorem dX8_left_83 : decode cX8_left 83 = .ok (.land, 1) := by decide +kernel
theorem dX8_left_84 : decode cX8_left 84 = .ok (.lconst 0, 1) := by decide +kernel
theorem dX8_left_85 : decode cX8_left 85 = .ok (.lcmp, 1) := by decide +kernel
theorem dX8_left_86 : decode cX8_left 86 = .ok (.ifCond .eq 7, 3) := by decide +kernel
theorem dX8_left_89 : decode cX8_left 89 = .ok (.iconst 1, 1) := by decide +kernel
theorem dX8_left_90 : decode cX8_left 90 = .ok (.goto 4, 3) := by decide +kernel
theorem dX8_left_93 : decode cX8_left 93 = .ok (.iconst 0, 1) := by decide +kernel
theorem dX8_left_94 : decode cX8_left 94 = .ok (.putfield 75, 3) := by decide +kernel
theorem dX8_left_97 : decode cX8_left 97 = .ok (.iinc 3 1, 3) := by decide +kernel
theorem dX8_left_100 : decode cX8_left 100 = .ok (.goto (-98), 3) := by decide +kernel
theorem dX8_left_103 : decode cX8_left 103 = .ok (.aload_n 0, 1) := by decide +kernel
theorem dX8_left_104 : decode cX8_left 104 = .ok (.iload_n 2, 1) := by decide +kernel
theorem dX8_left_105 : decode cX8_left 105 = .ok (.ifCond .eq 10, 3) := by decide +kernel
theorem dX8_left_108 : decode cX8_left 108 = .ok (.aload_n 0, 1) := by decide +kernel
theorem dX8_left_109 : decode cX8_left 109 = .ok (.getfield 69, 3) := by decide +kernel
theorem dX8_left_112 : decode cX8_left 112 = .ok (.goto 7, 3) := by decide +kernel
theorem dX8_left_115 : decode cX8_left 115 = .ok (.aload_n 0, 1) := by decide +kernel
theorem dX8_left_116 : decode cX8_left 116 = .ok (.getfield 61, 3) := by decide +kernel
theorem dX8_left_119 : decode cX8_left 119 = .ok (.putfield 61, 3) := by decide +kernel
theorem dX8_left_122 : decode cX8_left 122 = .ok (.return_, 1) := by decide +kernel
theorem dX8_right_0 : decode cX8_right 0 = .ok (.iconst 0, 1) := by decide +kernel
theorem dX8_right_1 : decode cX8_right 1 = .ok (.istore_n 3, 1) := by decide +kernel
theorem dX8_right_2 : decode cX8_right 2 = .ok (.iload_n 3, 1) := by decide +kernel
theorem dX8_right_3 : decode cX8_right 3 = .ok (.iload_n 1, 1) := by decide +kernel
theorem dX8_right_4 : decode cX8_right 4 = .ok (.if_icmp .ge 54, 3) := by decide +kernel
theorem dX8_right_7 : decode cX8_right 7 = .ok (.aload_n 0, 1) := by decide +kernel
theorem dX8_right_8 : decode cX8_right 8 = .ok (.getfield 65, 3) := by decide +kernel
theorem dX8_right_11 : decode cX8_right 11 = .ok (.lconst 1, 1) := by decide +kernel
theorem dX8_right_12 : decode cX8_right 12 = .ok (.land, 1) := by decide +kernel
theorem dX8_right_13 : decode cX8_right 13 = .ok (.lstore 4, 2) := by decide +kernel
theorem dX8_right_15 : decode cX8_right 15 = .ok (.aload_n 0, 1) := by decide +kernel
theorem dX8_right_16 : decode cX8_right 16 = .ok (.aload_n 0, 1) := by decide +kernel
theorem dX8_right_17 : decode cX8_right 17 = .ok (.getfield 65, 3) := by decide +kernel
theorem dX8_right_20 : decode cX8_right 20 = .ok (.iconst 1, 1) := by decide +kernel
theorem dX8_right_21 : decode cX8_right 21 = .ok (.lshr, 1) := by decide +kernel
theorem dX8_right_22 : decode cX8_right 22 = .ok (.putfield 65, 3) := by decide +kernel
theorem dX8_right_25 : decode cX8_right 25 = .ok (.aload_n 0, 1) := by decide +kernel
theorem dX8_right_26 : decode cX8_right 26 = .ok (.iload_n 2, 1) := by decide +kernel
theorem dX8_right_27 : decode cX8_right 27 = .ok (.ifCond .eq 18, 3) := by decide +kernel
theorem dX8_right_30 : decode cX8_right 30 = .ok (.aload_n 0, 1) := by decide +kernel
theorem dX8_right_31 : decode cX8_right 31 = .ok (.getfield 72, 3) := by decide +kernel
theorem dX8_right_34 : decode cX8_right 34 = .ok (.iconst 1, 1) := by decide +kernel
theorem dX8_right_35 : decode cX8_right 35 = .ok (.lshr, 1) := by decide +kernel
theorem dX8_right_36 : decode cX8_right 36 = .ok (.lload 4, 2) := by decide +kernel
theorem dX8_right_38 : decode cX8_right 38 = .ok (.bipush 34, 2) := by decide +kernel
theorem dX8_right_40 : decode cX8_right 40 = .ok (.lshl, 1) := by decide +kernel
theorem dX8_right_41 : decode cX8_right 41 = .ok (.lor, 1) := by decide +kernel
theorem dX8_right_42 : decode cX8_right 42 = .ok (.goto 7, 3) := by decide +kernel
theorem dX8_right_45 : decode cX8_right 45 = .ok (.aload_n 0, 1) := by decide +kernel
theorem dX8_right_46 : decode cX8_right 46 = .ok (.getfield 72, 3) := by decide +kernel
theorem dX8_right_49 : decode cX8_right 49 = .ok (.putfield 72, 3) := by decide +kernel
theorem dX8_right_52 : decode cX8_right 52 = .ok (.iinc 3 1, 3) := by decide +kernel
theorem dX8_right_55 : decode cX8_right 55 = .ok (.goto (-53), 3) := by decide +kernel
theorem dX8_right_58 : decode cX8_right 58 = .ok (.aload_n 0, 1) := by decide +kernel
theorem dX8_right_59 : decode cX8_right 59 = .ok (.iload_n 2, 1) := by decide +kernel
theorem dX8_right_60 : decode cX8_right 60 = .ok (.ifCond .eq 10, 3) := by decide +kernel
theorem dX8_right_63 : decode cX8_right 63 = .ok (.aload_n 0, 1) := by decide +kernel
theorem dX8_right_64 : decode cX8_right 64 = .ok (.getfield 61, 3) := by decide +kernel
theorem dX8_right_67 : decode cX8_right 67 = .ok (.goto 7, 3) := by decide +kernel
theorem dX8_right_70 : decode cX8_right 70 = .ok (.aload_n 0, 1) := by decide +kernel
theorem dX8_right_71 : decode cX8_right 71 = .ok (.getfield 69, 3) := by decide +kernel
theorem dX8_right_74 : decode cX8_right 74 = .ok (.putfield 69, 3) := by decide +kernel
theorem dX8_right_77 : decode cX8_right 77 = .ok (.return_, 1) := by decide +kernel
theorem dX8_go_0 : decode cX8_go 0 = .ok (.aload_n 0, 1) := by decide +kernel
theorem dX8_go_1 : decode cX8_go 1 = .ok (.aload_n 0, 1) := by decide +kernel
theorem dX8_go_2 : decode cX8_go 2 = .ok (.getfield 78, 3) := by decide +kernel
theorem dX8_go_5 : decode cX8_go 5 = .ok (.iload_n 1, 1) := by decide +kernel
theorem dX8_go_6 : decode cX8_go 6 = .ok (.iadd, 1) := by decide +kernel
theorem dX8_go_7 : decode cX8_go 7 = .ok (.sipush 511, 3) := by decide +kernel
theorem dX8_go_10 : decode cX8_go 10 = .ok (.iand, 1) := by decide +kernel
theorem dX8_go_11 : decode cX8_go 11 = .ok (.putfield 78, 3) := by decide +kernel
theorem dX8_go_14 : decode cX8_go 14 = .ok (.return_, 1) := by decide +kernel
set_option maxRecDepth 100000 in
theorem ggX8_act_X8_wants : GoodIn wsX8_act wsX8_wants := goodIn_r _ [12, 13, 14, 15, 16, 17, 18, 11, 19] rfl (by decide +kernel)
set_option maxRecDepth 100000 in
theorem gX8_act_X8_wants : GoodIn wsX8_act (va_wsS RX8 161 yX8_wants wsX8_wants) := goodIn_app (goodIn_r _ [9, 10, 11] rfl (by decide +kernel)) ggX8_act_X8_wants
set_option maxRecDepth 100000 in
theorem ggX8_act_X8_stop : GoodIn wsX8_act wsX8_stop := goodIn_td 40 (goodIn_r _ [23, 24, 25, 26, 27, 28, 29, 11, 30, 31, 32, 33, 34, 35, 36, 37, 38, 138, 139, 140, 141, 142, 143, 144, 145, 146, 147, 148, 149, 150, 151, 152, 153, 154, 155, 156, 157, 158, 159, 160] rfl (by decide +kernel)) (goodIn_r _ [161, 162, 163, 164, 165, 166, 167, 168] rfl (by decide +kernel))
set_option maxRecDepth 100000 in
theorem gX8_act_X8_stop : GoodIn wsX8_act (wsV RX8 164 RX8 yX8_stop wsX8_stop) := goodIn_app (goodIn_r _ [20, 21, 22, 11] rfl (by decide +kernel)) ggX8_act_X8_stop
set_option maxRecDepth 100000 in
theorem ggX8_act_X8_reckons : GoodIn wsX8_act wsX8_reckons := goodIn_td 40 (goodIn_r _ [42, 43, 44, 8, 7, 45, 46, 9, 10, 11, 12, 13, 14, 15, 16, 17, 18, 19, 47, 48, 49, 50, 4, 5, 2, 51, 52, 53, 54, 55, 56, 57, 58, 59, 60, 61, 62, 63, 64, 6] rfl (by decide +kernel)) (goodIn_td 40 (goodIn_r _ [65, 66, 67, 68, 69, 70, 71, 72, 73, 74, 75, 76, 77, 78, 79, 80, 81, 82, 83, 84, 85, 86, 87, 88, 89, 90, 91, 92, 93, 94, 95, 138, 139, 140, 141, 142, 143, 144, 145, 146] rfl (by decide +kernel)) (goodIn_r _ [147, 148, 149, 150, 151, 152, 153, 154, 155, 156, 157, 158, 159, 160, 161, 162, 163, 164, 165, 166, 167, 168] rfl (by decide +kernel)))
set_option maxRecDepth 100000 in
theorem gX8_act_X8_reckons : GoodIn wsX8_act (wsV RX8 168 RX8 yX8_reckons wsX8_reckons) := goodIn_app (goodIn_r _ [39, 40, 41, 11] rfl (by decide +kernel)) ggX8_act_X8_reckons
set_option maxRecDepth 100000 in
theorem ggX8_act_X8_moves : GoodIn wsX8_act wsX8_moves := goodIn_td 40 (goodIn_r _ [99, 100, 101, 102, 11, 103, 46, 8, 65, 52, 6, 51, 45, 7, 104, 105, 106, 107, 138, 139, 140, 141, 142, 143, 144, 145, 146, 147, 148, 149, 150, 151, 152, 153, 154, 155, 156, 157, 158, 159] rfl (by decide +kernel)) (goodIn_r _ [160, 161, 162, 163, 164, 165, 166, 167, 168] rfl (by decide +kernel))
set_option maxRecDepth 100000 in
theorem gX8_act_X8_moves : GoodIn wsX8_act (wsV RX8 171 RX8 yX8_moves wsX8_moves) := goodIn_app (goodIn_r _ [96, 97, 98, 11] rfl (by decide +kernel)) ggX8_act_X8_moves
set_option maxRecDepth 100000 in
theorem ggX8_act_X8_copies : GoodIn wsX8_act wsX8_copies := goodIn_td 40 (goodIn_r _ [111, 25, 112, 113, 24, 36, 38, 37, 114, 31, 69, 70, 71, 11, 72, 4, 5, 2, 73, 74, 75, 76, 77, 115, 116, 117, 118, 53, 54, 55, 56, 32, 33, 34, 35, 17, 18, 19, 119, 120] rfl (by decide +kernel)) (goodIn_r _ [121, 122, 3, 138, 139, 140, 141, 142, 143, 144, 145, 146, 147, 148, 149, 150, 151, 152, 153, 154, 155, 156, 157, 158, 159, 160, 161, 162, 163, 164, 165, 166, 167, 168] rfl (by decide +kernel))
set_option maxRecDepth 100000 in
theorem gX8_act_X8_copies : GoodIn wsX8_act (wsV RX8 175 RX8 yX8_copies wsX8_copies) := goodIn_app (goodIn_r _ [108, 109, 110, 11] rfl (by decide +kernel)) ggX8_act_X8_copies
set_option maxRecDepth 100000 in
theorem ggX8_act_X8_reaches : GoodIn wsX8_act wsX8_reaches := goodIn_td 40 (goodIn_r _ [126, 25, 113, 127, 128, 38, 36, 129, 130, 131, 132, 11, 133, 134, 135, 136, 137, 17, 18, 19, 119, 120, 121, 122, 3, 27, 28, 29, 30, 24, 31, 32, 33, 34, 35, 37, 138, 139, 140, 141] rfl (by decide +kernel)) (goodIn_r _ [142, 143, 144, 145, 146, 147, 148, 149, 150, 151, 152, 153, 154, 155, 156, 157, 158, 159, 160, 161, 162, 163, 164, 165, 166, 167, 168] rfl (by decide +kernel))
set_option maxRecDepth 100000 in
theorem gX8_act_X8_reaches : GoodIn wsX8_act (wsV RX8 179 RX8 yX8_reaches wsX8_reaches) := goodIn_app (goodIn_r _ [123, 124, 125, 11] rfl (by decide +kernel)) ggX8_act_X8_reaches
set_option maxRecDepth 100000 in
theorem ggX8_act_X8_go : GoodIn wsX8_act wsX8_go := goodIn_r _ [122, 3, 138, 139, 140, 141, 142, 143, 144, 145, 146, 147, 148, 149, 150, 151, 152, 153, 154, 155, 156, 157, 158, 159, 160, 161, 162, 163, 164, 165, 166, 167, 168] rfl (by decide +kernel)
set_option maxRecDepth 100000 in
theorem gX8_act_X8_go : GoodIn wsX8_act (wsV RX8 182 RX8 yX8_go wsX8_go) := goodIn_app (goodIn_r _ [119, 120, 121, 11] rfl (by decide +kernel)) ggX8_act_X8_go
theorem dX8_act_0 : decode cX8_act 0 = .ok (.aload_n 0, 1) := by decide +kernel
theorem dX8_act_1 : decode cX8_act 1 = .ok (.dup, 1) := by decide +kernel
theorem dX8_act_2 : decode cX8_act 2 = .ok (.getfield 158, 3) := by decide +kernel
theorem dX8_act_5 : decode cX8_act 5 = .ok (.lconst 1, 1) := by decide +kernel
theorem dX8_act_6 : decode cX8_act 6 = .ok (.ladd, 1) := by decide +kernel
theorem dX8_act_7 : decode cX8_act 7 = .ok (.putfield 158, 3) := by decide +kernel
theorem dX8_act_10 : decode cX8_act 10 = .ok (.aload_n 0, 1) := by decide +kernel
theorem dX8_act_11 : decode cX8_act 11 = .ok (.getfield 7, 3) := by decide +kernel
theorem dX8_act_14 : decode cX8_act 14 = .ok (.aload_n 0, 1) := by decide +kernel
theorem dX8_act_15 : decode cX8_act 15 = .ok (.getfield 78, 3) := by decide +kernel
theorem dX8_act_18 : decode cX8_act 18 = .ok (.iaload, 1) := by decide +kernel
theorem dX8_act_19 : decode cX8_act 19 = .ok (.istore_n 1, 1) := by decide +kernel
theorem dX8_act_20 : decode cX8_act 20 = .ok (.iload_n 1, 1) := by decide +kernel
theorem dX8_act_21 : decode cX8_act 21 = .ok (.bipush 12, 2) := by decide +kernel
theorem dX8_act_23 : decode cX8_act 23 = .ok (.ishr, 1) := by decide +kernel
theorem dX8_act_24 : decode cX8_act 24 = .ok (.bipush 31, 2) := by decide +kernel
theorem dX8_act_26 : decode cX8_act 26 = .ok (.iand, 1) := by decide +kernel
theorem dX8_act_27 : decode cX8_act 27 = .ok (.istore_n 2, 1) := by decide +kernel
theorem dX8_act_28 : decode cX8_act 28 = .ok (.aload_n 0, 1) := by decide +kernel
theorem dX8_act_29 : decode cX8_act 29 = .ok (.iload_n 1, 1) := by decide +kernel
theorem dX8_act_30 : decode cX8_act 30 = .ok (.bipush 17, 2) := by decide +kernel
theorem dX8_act_32 : decode cX8_act 32 = .ok (.ishr, 1) := by decide +kernel
theorem dX8_act_33 : decode cX8_act 33 = .ok (.iconst 1, 1) := by decide +kernel
theorem dX8_act_34 : decode cX8_act 34 = .ok (.iand, 1) := by decide +kernel
theorem dX8_act_35 : decode cX8_act 35 = .ok (.iconst 1, 1) := by decide +kernel
theorem dX8_act_36 : decode cX8_act 36 = .ok (.if_icmp .ne 7, 3) := by decide +kernel
theorem dX8_act_39 : decode cX8_act 39 = .ok (.iconst 1, 1) := by decide +kernel
theorem dX8_act_40 : decode cX8_act 40 = .ok (.goto 4, 3) := by decide +kernel
theorem dX8_act_43 : decode cX8_act 43 = .ok (.iconst 0, 1) := by decide +kernel
theorem dX8_act_44 : decode cX8_act 44 = .ok (.putfield 134, 3) := by decide +kernel
theorem dX8_act_47 : decode cX8_act 47 = .ok (.iload_n 1, 1) := by decide +kernel
theorem dX8_act_48 : decode cX8_act 48 = .ok (.sipush 4095, 3) := by decide +kernel
theorem dX8_act_51 : decode cX8_act 51 = .ok (.iand, 1) := by decide +kernel
theorem dX8_act_52 : decode cX8_act 52 = .ok (.istore_n 3, 1) := by decide +kernel
theorem dX8_act_53 : decode cX8_act 53 = .ok (.aload_n 0, 1) := by decide +kernel
theorem dX8_act_54 : decode cX8_act 54 = .ok (.iload_n 2, 1) := by decide +kernel
theorem dX8_act_55 : decode cX8_act 55 = .ok (.invokestatic 161, 3) := by decide +kernel
theorem dX8_act_58 : decode cX8_act 58 = .ok (.ifCond .eq 17, 3) := by decide +kernel
theorem dX8_act_61 : decode cX8_act 61 = .ok (.aload_n 0, 1) := by decide +kernel
theorem dX8_act_62 : decode cX8_act 62 = .ok (.getfield 134, 3) := by decide +kernel
theorem dX8_act_65 : decode cX8_act 65 = .ok (.ifCond .eq 10, 3) := by decide +kernel
theorem dX8_act_68 : decode cX8_act 68 = .ok (.iload_n 3, 1) := by decide +kernel
theorem dX8_act_69 : decode cX8_act 69 = .ok (.bipush (-2), 2) := by decide +kernel
theorem dX8_act_71 : decode cX8_act 71 = .ok (.iand, 1) := by decide +kernel
theorem dX8_act_72 : decode cX8_act 72 = .ok (.goto 4, 3) := by decide +kernel
theorem dX8_act_75 : decode cX8_act 75 = .ok (.iload_n 3, 1) := by decide +kernel
theorem dX8_act_76 : decode cX8_act 76 = .ok (.putfield 137, 3) := by decide +kernel
theorem dX8_act_79 : decode cX8_act 79 = .ok (.iload_n 2, 1) := by decide +kernel
theorem dX8_act_80 : decode cX8_act 80 = .ok (.invokestatic 161, 3) := by decide +kernel
theorem dX8_act_83 : decode cX8_act 83 = .ok (.ifCond .ne 8, 3) := by decide +kernel
theorem dX8_act_86 : decode cX8_act 86 = .ok (.iload_n 2, 1) := by decide +kernel
theorem dX8_act_87 : decode cX8_act 87 = .ok (.iconst 5, 1) := by decide +kernel
theorem dX8_act_88 : decode cX8_act 88 = .ok (.if_icmp .ge 19, 3) := by decide +kernel
theorem dX8_act_91 : decode cX8_act 91 = .ok (.aload_n 0, 1) := by decide +kernel
theorem dX8_act_92 : decode cX8_act 92 = .ok (.getfield 137, 3) := by decide +kernel
theorem dX8_act_95 : decode cX8_act 95 = .ok (.sipush 511, 3) := by decide +kernel
theorem dX8_act_98 : decode cX8_act 98 = .ok (.if_icmp .le 9, 3) := by decide +kernel
theorem dX8_act_101 : decode cX8_act 101 = .ok (.aload_n 0, 1) := by decide +kernel
theorem dX8_act_102 : decode cX8_act 102 = .ok (.iconst 2, 1) := by decide +kernel
theorem dX8_act_103 : decode cX8_act 103 = .ok (.invokevirtual 164, 3) := by decide +kernel
theorem dX8_act_106 : decode cX8_act 106 = .ok (.ireturn, 1) := by decide +kernel
theorem dX8_act_107 : decode cX8_act 107 = .ok (.iload_n 2, 1) := by decide +kernel
theorem dX8_act_108 : decode cX8_act 108 = .ok (.ifCond .ne 17, 3) := by decide +kernel
theorem dX8_act_111 : decode cX8_act 111 = .ok (.aload_n 0, 1) := by decide +kernel
theorem dX8_act_112 : decode cX8_act 112 = .ok (.aload_n 0, 1) := by decide +kernel
theorem dX8_act_113 : decode cX8_act 113 = .ok (.getfield 137, 3) := by decide +kernel
theorem dX8_act_116 : decode cX8_act 116 = .ok (.putfield 78, 3) := by decide +kernel
theorem dX8_act_119 : decode cX8_act 119 = .ok (.aload_n 0, 1) := by decide +kernel
theorem dX8_act_120 : decode cX8_act 120 = .ok (.iconst 1, 1) := by decide +kernel
theorem dX8_act_121 : decode cX8_act 121 = .ok (.invokevirtual 164, 3) := by decide +kernel
theorem dX8_act_124 : decode cX8_act 124 = .ok (.ireturn, 1) := by decide +kernel
theorem dX8_act_125 : decode cX8_act 125 = .ok (.iload_n 2, 1) := by decide +kernel
theorem dX8_act_126 : decode cX8_act 126 = .ok (.iconst 5, 1) := by decide +kernel
theorem dX8_act_127 : decode cX8_act 127 = .ok (.if_icmp .ge 102, 3) := by decide +kernel
theorem dX8_act_130 : decode cX8_act 130 = .ok (.iload_n 2, 1) := by decide +kernel
theorem dX8_act_131 : decode cX8_act 131 = .ok (.iconst 1, 1) := by decide +kernel
theorem dX8_act_132 : decode cX8_act 132 = .ok (.if_icmp .eq 41, 3) := by decide +kernel
theorem dX8_act_135 : decode cX8_act 135 = .ok (.iload_n 2, 1) := by decide +kernel
theorem dX8_act_136 : decode cX8_act 136 = .ok (.iconst 2, 1) := by decide +kernel
theorem dX8_act_137 : decode cX8_act 137 = .ok (.if_icmp .ne 10, 3) := by decide +kernel
theorem dX8_act_140 : decode cX8_act 140 = .ok (.aload_n 0, 1) := by decide +kernel
theorem dX8_act_141 : decode cX8_act 141 = .ok (.getfield 75, 3) := by decide +kernel
theorem dX8_act_144 : decode cX8_act 144 = .ok (.ifCond .ne 29, 3) := by decide +kernel
theorem dX8_act_147 : decode cX8_act 147 = .ok (.iload_n 2, 1) := by decide +kernel
theorem dX8_act_148 : decode cX8_act 148 = .ok (.iconst 3, 1) := by decide +kernel
theorem dX8_act_149 : decode cX8_act 149 = .ok (.if_icmp .ne 10, 3) := by decide +kernel
theorem dX8_act_152 : decode cX8_act 152 = .ok (.aload_n 0, 1) := by decide +kernel
theorem dX8_act_153 : decode cX8_act 153 = .ok (.getfield 61, 3) := by decide +kernel
theorem dX8_act_156 : decode cX8_act 156 = .ok (.ifCond .eq 17, 3) := by decide +kernel
theorem dX8_act_159 : decode cX8_act 159 = .ok (.iload_n 2, 1) := by decide +kernel
theorem dX8_act_160 : decode cX8_act 160 = .ok (.iconst 4, 1) := by decide +kernel
theorem dX8_act_161 : decode cX8_act 161 = .ok (.if_icmp .ne 16, 3) := by decide +kernel
theorem dX8_act_164 : decode cX8_act 164 = .ok (.aload_n 0, 1) := by decide +kernel
theorem dX8_act_165 : decode cX8_act 165 = .ok (.getfield 65, 3) := by decide +kernel
theorem dX8_act_168 : decode cX8_act 168 = .ok (.lconst 0, 1) := by decide +kernel
theorem dX8_act_169 : decode cX8_act 169 = .ok (.lcmp, 1) := by decide +kernel
theorem dX8_act_170 : decode cX8_act 170 = .ok (.ifCond .ne 7, 3) := by decide +kernel
theorem dX8_act_173 : decode cX8_act 173 = .ok (.iconst 1, 1) := by decide +kernel
theorem dX8_act_174 : decode cX8_act 174 = .ok (.goto 4, 3) := by decide +kernel
theorem dX8_act_177 : decode cX8_act 177 = .ok (.iconst 0, 1) := by decide +kernel
theorem dX8_act_178 : decode cX8_act 178 = .ok (.istore 4, 2) := by decide +kernel
theorem dX8_act_180 : decode cX8_act 180 = .ok (.aload_n 0, 1) := by decide +kernel
theorem dX8_act_181 : decode cX8_act 181 = .ok (.aload_n 0, 1) := by decide +kernel
theorem dX8_act_182 : decode cX8_act 182 = .ok (.getfield 75, 3) := by decide +kernel
theorem dX8_act_185 : decode cX8_act 185 = .ok (.ifCond .eq 12, 3) := by decide +kernel
theorem dX8_act_188 : decode cX8_act 188 = .ok (.iload_n 2, 1) := by decide +kernel
theorem dX8_act_189 : decode cX8_act 189 = .ok (.iconst 2, 1) := by decide +kernel
theorem dX8_act_190 : decode cX8_act 190 = .ok (.if_icmp .eq 7, 3) := by decide +kernel
theorem dX8_act_193 : decode cX8_act 193 = .ok (.iconst 1, 1) := by decide +kernel
theorem dX8_act_194 : decode cX8_act 194 = .ok (.goto 4, 3) := by decide +kernel
theorem dX8_act_197 : decode cX8_act 197 = .ok (.iconst 0, 1) := by decide +kernel
theorem dX8_act_198 : decode cX8_act 198 = .ok (.putfield 75, 3) := by decide +kernel
theorem dX8_act_201 : decode cX8_act 201 = .ok (.aload_n 0, 1) := by decide +kernel
theorem dX8_act_202 : decode cX8_act 202 = .ok (.iload 4, 2) := by decide +kernel
theorem dX8_act_204 : decode cX8_act 204 = .ok (.ifCond .eq 10, 3) := by decide +kernel
theorem dX8_act_207 : decode cX8_act 207 = .ok (.aload_n 0, 1) := by decide +kernel
theorem dX8_act_208 : decode cX8_act 208 = .ok (.getfield 137, 3) := by decide +kernel
theorem dX8_act_211 : decode cX8_act 211 = .ok (.goto 13, 3) := by decide +kernel
theorem dX8_act_214 : decode cX8_act 214 = .ok (.aload_n 0, 1) := by decide +kernel
theorem dX8_act_215 : decode cX8_act 215 = .ok (.getfield 78, 3) := by decide +kernel
theorem dX8_act_218 : decode cX8_act 218 = .ok (.iconst 1, 1) := by decide +kernel
theorem dX8_act_219 : decode cX8_act 219 = .ok (.iadd, 1) := by decide +kernel
theorem dX8_act_220 : decode cX8_act 220 = .ok (.sipush 511, 3) := by decide +kernel
theorem dX8_act_223 : decode cX8_act 223 = .ok (.iand, 1) := by decide +kernel
theorem dX8_act_224 : decode cX8_act 224 = .ok (.putfield 78, 3) := by decide +kernel
theorem dX8_act_227 : decode cX8_act 227 = .ok (.iconst 0, 1) := by decide +kernel
theorem dX8_act_228 : decode cX8_act 228 = .ok (.ireturn, 1) := by decide +kernel
theorem dX8_act_229 : decode cX8_act 229 = .ok (.iload_n 2, 1) := by decide +kernel
theorem dX8_act_230 : decode cX8_act 230 = .ok (.bipush 20, 2) := by decide +kernel
theorem dX8_act_232 : decode cX8_act 232 = .ok (.if_icmp .ge 11, 3) := by decide +kernel
theorem dX8_act_235 : decode cX8_act 235 = .ok (.aload_n 0, 1) := by decide +kernel
theorem dX8_act_236 : decode cX8_act 236 = .ok (.iload_n 2, 1) := by decide +kernel
theorem dX8_act_237 : decode cX8_act 237 = .ok (.invokevirtual 168, 3) := by decide +kernel
theorem dX8_act_240 : decode cX8_act 240 = .ok (.goto 40, 3) := by decide +kernel
theorem dX8_act_243 : decode cX8_act 243 = .ok (.iload_n 2, 1) := by decide +kernel
theorem dX8_act_244 : decode cX8_act 244 = .ok (.bipush 24, 2) := by decide +kernel
theorem dX8_act_246 : decode cX8_act 246 = .ok (.if_icmp .ge 15, 3) := by decide +kernel
theorem dX8_act_249 : decode cX8_act 249 = .ok (.aload_n 0, 1) := by decide +kernel
theorem dX8_act_250 : decode cX8_act 250 = .ok (.iload_n 2, 1) := by decide +kernel
theorem dX8_act_251 : decode cX8_act 251 = .ok (.iload_n 3, 1) := by decide +kernel
theorem dX8_act_252 : decode cX8_act 252 = .ok (.bipush 63, 2) := by decide +kernel
theorem dX8_act_254 : decode cX8_act 254 = .ok (.iand, 1) := by decide +kernel
theorem dX8_act_255 : decode cX8_act 255 = .ok (.invokevirtual 171, 3) := by decide +kernel
theorem dX8_act_258 : decode cX8_act 258 = .ok (.goto 22, 3) := by decide +kernel
theorem dX8_act_261 : decode cX8_act 261 = .ok (.iload_n 2, 1) := by decide +kernel
theorem dX8_act_262 : decode cX8_act 262 = .ok (.bipush 31, 2) := by decide +kernel
theorem dX8_act_264 : decode cX8_act 264 = .ok (.if_icmp .ne 10, 3) := by decide +kernel
theorem dX8_act_267 : decode cX8_act 267 = .ok (.aload_n 0, 1) := by decide +kernel
theorem dX8_act_268 : decode cX8_act 268 = .ok (.invokevirtual 175, 3) := by decide +kernel
theorem dX8_act_271 : decode cX8_act 271 = .ok (.goto 9, 3) := by decide +kernel
theorem dX8_act_274 : decode cX8_act 274 = .ok (.aload_n 0, 1) := by decide +kernel
theorem dX8_act_275 : decode cX8_act 275 = .ok (.iload_n 2, 1) := by decide +kernel
theorem dX8_act_276 : decode cX8_act 276 = .ok (.iload_n 3, 1) := by decide +kernel
theorem dX8_act_277 : decode cX8_act 277 = .ok (.invokevirtual 179, 3) := by decide +kernel
theorem dX8_act_280 : decode cX8_act 280 = .ok (.istore 4, 2) := by decide +kernel
theorem dX8_act_282 : decode cX8_act 282 = .ok (.iload 4, 2) := by decide +kernel
theorem dX8_act_284 : decode cX8_act 284 = .ok (.ifCond .le 10, 3) := by decide +kernel
theorem dX8_act_287 : decode cX8_act 287 = .ok (.aload_n 0, 1) := by decide +kernel
theorem dX8_act_288 : decode cX8_act 288 = .ok (.iload 4, 2) := by decide +kernel
theorem dX8_act_290 : decode cX8_act 290 = .ok (.invokevirtual 164, 3) := by decide +kernel
theorem dX8_act_293 : decode cX8_act 293 = .ok (.ireturn, 1) := by decide +kernel
theorem dX8_act_294 : decode cX8_act 294 = .ok (.aload_n 0, 1) := by decide +kernel
theorem dX8_act_295 : decode cX8_act 295 = .ok (.iconst 1, 1) := by decide +kernel
theorem dX8_act_296 : decode cX8_act 296 = .ok (.invokevirtual 182, 3) := by decide +kernel
theorem dX8_act_299 : decode cX8_act 299 = .ok (.iconst 0, 1) := by decide +kernel
theorem dX8_act_300 : decode cX8_act 300 = .ok (.ireturn, 1) := by decide +kernel
set_option maxRecDepth 100000 in
theorem ggX8_moves_X8_left : GoodIn wsX8_moves wsX8_left := goodIn_r _ [5, 6, 7, 8, 9, 10, 11, 12, 13, 18, 19, 20, 21, 22, 23, 24, 25, 26, 27, 28, 29, 30, 31, 32, 33, 34, 35, 36, 37, 38, 39, 40, 41, 42, 43, 44, 45, 46, 47, 48] rfl (by decide +kernel)
set_option maxRecDepth 100000 in
theorem gX8_moves_X8_left : GoodIn wsX8_moves (wsV RX8 186 RX8 yX8_left wsX8_left) := goodIn_app (goodIn_r _ [1, 2, 3, 4] rfl (by decide +kernel)) ggX8_moves_X8_left
set_option maxRecDepth 100000 in
theorem ggX8_moves_X8_right : GoodIn wsX8_moves wsX8_right := goodIn_r _ [17, 7, 6, 13, 12, 18, 19, 20, 21, 22, 23, 24, 25, 26, 27, 28, 29, 30, 31, 32, 33, 34, 35, 36, 37, 38, 39, 40, 41, 42, 43, 44, 45, 46, 47, 48] rfl (by decide +kernel)
set_option maxRecDepth 100000 in
theorem gX8_moves_X8_right : GoodIn wsX8_moves (wsV RX8 190 RX8 yX8_right wsX8_right) := goodIn_app (goodIn_r _ [14, 15, 16, 4] rfl (by decide +kernel)) ggX8_moves_X8_right
theorem dX8_moves_0 : decode cX8_moves 0 = .ok (.iload_n 1, 1) := by decide +kernel
theorem dX8_moves_1 : decode cX8_moves 1 = .ok (.bipush 20, 2) := by decide +kernel
theorem dX8_moves_3 : decode cX8_moves 3 = .ok (.if_icmp .eq 9, 3) := by decide +kernel
theorem dX8_moves_6 : decode cX8_moves 6 = .ok (.iload_n 1, 1) := by decide +kernel
theorem dX8_moves_7 : decode cX8_moves 7 = .ok (.bipush 22, 2) := by decide +kernel
theorem dX8_moves_9 : decode cX8_moves 9 = .ok (.if_icmp .ne 22, 3) := by decide +kernel
theorem dX8_moves_12 : decode cX8_moves 12 = .ok (.aload_n 0, 1) := by decide +kernel
theorem dX8_moves_13 : decode cX8_moves 13 = .ok (.iload_n 2, 1) := by decide +kernel
theorem dX8_moves_14 : decode cX8_moves 14 = .ok (.iload_n 1, 1) := by decide +kernel
theorem dX8_moves_15 : decode cX8_moves 15 = .ok (.bipush 20, 2) := by decide +kernel
theorem dX8_moves_17 : decode cX8_moves 17 = .ok (.if_icmp .ne 7, 3) := by decide +kernel
theorem dX8_moves_20 : decode cX8_moves 20 = .ok (.iconst 1, 1) := by decide +kernel
theorem dX8_moves_21 : decode cX8_moves 21 = .ok (.goto 4, 3) := by decide +kernel
theorem dX8_moves_24 : decode cX8_moves 24 = .ok (.iconst 0, 1) := by decide +kernel
theorem dX8_moves_25 : decode cX8_moves 25 = .ok (.invokevirtual 186, 3) := by decide +kernel
theorem dX8_moves_28 : decode cX8_moves 28 = .ok (.goto 19, 3) := by decide +kernel
theorem dX8_moves_31 : decode cX8_moves 31 = .ok (.aload_n 0, 1) := by decide +kernel
theorem dX8_moves_32 : decode cX8_moves 32 = .ok (.iload_n 2, 1) := by decide +kernel
theorem dX8_moves_33 : decode cX8_moves 33 = .ok (.iload_n 1, 1) := by decide +kernel
theorem dX8_moves_34 : decode cX8_moves 34 = .ok (.bipush 21, 2) := by decide +kernel
theorem dX8_moves_36 : decode cX8_moves 36 = .ok (.if_icmp .ne 7, 3) := by decide +kernel
theorem dX8_moves_39 : decode cX8_moves 39 = .ok (.iconst 1, 1) := by decide +kernel
theorem dX8_moves_40 : decode cX8_moves 40 = .ok (.goto 4, 3) := by decide +kernel
theorem dX8_moves_43 : decode cX8_moves 43 = .ok (.iconst 0, 1) := by decide +kernel
theorem dX8_moves_44 : decode cX8_moves 44 = .ok (.invokevirtual 190, 3) := by decide +kernel
theorem dX8_moves_47 : decode cX8_moves 47 = .ok (.iconst 0, 1) := by decide +kernel
theorem dX8_moves_48 : decode cX8_moves 48 = .ok (.ireturn, 1) := by decide +kernel
set_option maxRecDepth 100000 in
theorem ggX8_reckons_X8_wants : GoodIn wsX8_reckons wsX8_wants := goodIn_r _ [10, 11, 12, 13, 14, 15, 16, 9, 17] rfl (by decide +kernel)
set_option maxRecDepth 100000 in
theorem gX8_reckons_X8_wants : GoodIn wsX8_reckons (va_wsS RX8 161 yX8_wants wsX8_wants) := goodIn_app (goodIn_r _ [7, 8, 9] rfl (by decide +kernel)) ggX8_reckons_X8_wants
set_option maxRecDepth 100000 in
theorem ggX8_reckons_X8_operand : GoodIn wsX8_reckons wsX8_operand := goodIn_td 40 (goodIn_r _ [21, 22, 23, 24, 25, 1, 26, 2, 27, 28, 29, 9, 30, 71, 72, 73, 74, 75, 76, 77, 78, 79, 80, 81, 82, 83, 84, 85, 86, 87, 88, 89, 90, 91, 92, 93, 94, 95, 96, 97] rfl (by decide +kernel)) (goodIn_r _ [98, 99, 100, 101] rfl (by decide +kernel))
set_option maxRecDepth 100000 in
theorem gX8_reckons_X8_operand : GoodIn wsX8_reckons (wsV RX8 193 RX8 yX8_operand wsX8_operand) := goodIn_app (goodIn_r _ [18, 19, 20, 9] rfl (by decide +kernel)) ggX8_reckons_X8_operand
set_option maxRecDepth 100000 in
theorem ggX8_reckons_X8_add : GoodIn wsX8_reckons wsX8_add := goodIn_td 40 (goodIn_r _ [34, 4, 3, 35, 36, 37, 9, 38, 39, 26, 25, 40, 71, 72, 73, 74, 75, 76, 77, 78, 79, 80, 81, 82, 83, 84, 85, 86, 87, 88, 89, 90, 91, 92, 93, 94, 95, 96, 97, 98] rfl (by decide +kernel)) (goodIn_r _ [99, 100, 101] rfl (by decide +kernel))
set_option maxRecDepth 100000 in
theorem gX8_reckons_X8_add : GoodIn wsX8_reckons (wsV RX8 196 RX8 yX8_add wsX8_add) := goodIn_app (goodIn_r _ [31, 32, 33, 9] rfl (by decide +kernel)) ggX8_reckons_X8_add
set_option maxRecDepth 100000 in
theorem ggX8_reckons_X8_bits : GoodIn wsX8_reckons wsX8_bits := goodIn_r _ [43, 25, 26] rfl (by decide +kernel)
set_option maxRecDepth 100000 in
theorem gX8_reckons_X8_bits : GoodIn wsX8_reckons (va_wsS RX8 200 yX8_bits wsX8_bits) := goodIn_app (goodIn_r _ [41, 42, 9] rfl (by decide +kernel)) ggX8_reckons_X8_bits
set_option maxRecDepth 100000 in
theorem ggX8_reckons_X8_store : GoodIn wsX8_reckons wsX8_store := goodIn_td 40 (goodIn_r _ [47, 22, 23, 24, 48, 49, 50, 51, 9, 52, 71, 72, 73, 74, 75, 76, 77, 78, 79, 80, 81, 82, 83, 84, 85, 86, 87, 88, 89, 90, 91, 92, 93, 94, 95, 96, 97, 98, 99, 100] rfl (by decide +kernel)) (goodIn_r _ [101] rfl (by decide +kernel))
set_option maxRecDepth 100000 in
theorem gX8_reckons_X8_store : GoodIn wsX8_reckons (wsV RX8 204 RX8 yX8_store wsX8_store) := goodIn_app (goodIn_r _ [44, 45, 46, 9] rfl (by decide +kernel)) ggX8_reckons_X8_store
set_option maxRecDepth 100000 in
theorem ggX8_reckons_X8_extract : GoodIn wsX8_reckons wsX8_extract := goodIn_td 40 (goodIn_r _ [56, 4, 3, 22, 23, 24, 57, 41, 42, 9, 43, 25, 26, 27, 28, 29, 30, 49, 50, 51, 52, 48, 71, 72, 73, 74, 75, 76, 77, 78, 79, 80, 81, 82, 83, 84, 85, 86, 87, 88] rfl (by decide +kernel)) (goodIn_r _ [89, 90, 91, 92, 93, 94, 95, 96, 97, 98, 99, 100, 101] rfl (by decide +kernel))
set_option maxRecDepth 100000 in
theorem gX8_reckons_X8_extract : GoodIn wsX8_reckons (wsV RX8 207 RX8 yX8_extract wsX8_extract) := goodIn_app (goodIn_r _ [53, 54, 55, 9] rfl (by decide +kernel)) ggX8_reckons_X8_extract
set_option maxRecDepth 100000 in
theorem ggX8_reckons_X8_times : GoodIn wsX8_reckons wsX8_times := goodIn_td 40 (goodIn_r _ [61, 6, 48, 2, 62, 3, 26, 5, 1, 4, 71, 72, 73, 74, 75, 76, 77, 78, 79, 80, 81, 82, 83, 84, 85, 86, 87, 88, 89, 90, 91, 92, 93, 94, 95, 96, 97, 98, 99, 100] rfl (by decide +kernel)) (goodIn_r _ [101] rfl (by decide +kernel))
set_option maxRecDepth 100000 in
theorem gX8_reckons_X8_times : GoodIn wsX8_reckons (wsV RX8 210 RX8 yX8_times wsX8_times) := goodIn_app (goodIn_r _ [58, 59, 60, 9] rfl (by decide +kernel)) ggX8_reckons_X8_times
set_option maxRecDepth 100000 in
theorem ggX8_reckons_X8_round : GoodIn wsX8_reckons wsX8_round := goodIn_td 40 (goodIn_r _ [66, 6, 35, 36, 37, 9, 38, 39, 3, 26, 25, 40, 71, 72, 73, 74, 75, 76, 77, 78, 79, 80, 81, 82, 83, 84, 85, 86, 87, 88, 89, 90, 91, 92, 93, 94, 95, 96, 97, 98] rfl (by decide +kernel)) (goodIn_r _ [99, 100, 101] rfl (by decide +kernel))
set_option maxRecDepth 100000 in
theorem gX8_reckons_X8_round : GoodIn wsX8_reckons (wsV RX8 213 RX8 yX8_round wsX8_round) := goodIn_app (goodIn_r _ [63, 64, 65, 9] rfl (by decide +kernel)) ggX8_reckons_X8_round
set_option maxRecDepth 100000 in
theorem ggX8_reckons_X8_shares : GoodIn wsX8_reckons wsX8_shares := goodIn_r _ [70, 2, 3, 6, 4, 1, 5, 71, 72, 73, 74, 75, 76, 77, 78, 79, 80, 81, 82, 83, 84, 85, 86, 87, 88, 89, 90, 91, 92, 93, 94, 95, 96, 97, 98, 99, 100, 101] rfl (by decide +kernel)
set_option maxRecDepth 100000 in
theorem gX8_reckons_X8_shares : GoodIn wsX8_reckons (wsV RX8 216 RX8 yX8_shares wsX8_shares) := goodIn_app (goodIn_r _ [67, 68, 69, 9] rfl (by decide +kernel)) ggX8_reckons_X8_shares
theorem dX8_reckons_0 : decode cX8_reckons 0 = .ok (.iload_n 1, 1) := by decide +kernel
theorem dX8_reckons_1 : decode cX8_reckons 1 = .ok (.invokestatic 161, 3) := by decide +kernel
theorem dX8_reckons_4 : decode cX8_reckons 4 = .ok (.ifCond .eq 7, 3) := by decide +kernel
theorem dX8_reckons_7 : decode cX8_reckons 7 = .ok (.aload_n 0, 1) := by decide +kernel
theorem dX8_reckons_8 : decode cX8_reckons 8 = .ok (.invokevirtual 193, 3) := by decide +kernel
theorem dX8_reckons_11 : decode cX8_reckons 11 = .ok (.iload_n 1, 1) := by decide +kernel
theorem dX8_reckons_12 : decode cX8_reckons 12 = .ok (.tableswitch 284 5 19 #[76, 99, 126, 284, 138, 153, 172, 184, 202, 209, 227, 246, 253, 264, 277], 76) := by decide +kernel
theorem dX8_reckons_88 : decode cX8_reckons 88 = .ok (.aload_n 0, 1) := by decide +kernel
theorem dX8_reckons_89 : decode cX8_reckons 89 = .ok (.aload_n 0, 1) := by decide +kernel
theorem dX8_reckons_90 : decode cX8_reckons 90 = .ok (.getfield 142, 3) := by decide +kernel
theorem dX8_reckons_93 : decode cX8_reckons 93 = .ok (.ifCond .ne 7, 3) := by decide +kernel
theorem dX8_reckons_96 : decode cX8_reckons 96 = .ok (.iconst 1, 1) := by decide +kernel
theorem dX8_reckons_97 : decode cX8_reckons 97 = .ok (.goto 4, 3) := by decide +kernel
theorem dX8_reckons_100 : decode cX8_reckons 100 = .ok (.iconst 0, 1) := by decide +kernel
theorem dX8_reckons_101 : decode cX8_reckons 101 = .ok (.aload_n 0, 1) := by decide +kernel
theorem dX8_reckons_102 : decode cX8_reckons 102 = .ok (.getfield 145, 3) := by decide +kernel
theorem dX8_reckons_105 : decode cX8_reckons 105 = .ok (.invokevirtual 196, 3) := by decide +kernel
theorem dX8_reckons_108 : decode cX8_reckons 108 = .ok (.goto 188, 3) := by decide +kernel
theorem dX8_reckons_111 : decode cX8_reckons 111 = .ok (.aload_n 0, 1) := by decide +kernel
theorem dX8_reckons_112 : decode cX8_reckons 112 = .ok (.aload_n 0, 1) := by decide +kernel
theorem dX8_reckons_113 : decode cX8_reckons 113 = .ok (.getfield 145, 3) := by decide +kernel
theorem dX8_reckons_116 : decode cX8_reckons 116 = .ok (.putfield 65, 3) := by decide +kernel
theorem dX8_reckons_119 : decode cX8_reckons 119 = .ok (.aload_n 0, 1) := by decide +kernel
theorem dX8_reckons_120 : decode cX8_reckons 120 = .ok (.aload_n 0, 1) := by decide +kernel
theorem dX8_reckons_121 : decode cX8_reckons 121 = .ok (.getfield 142, 3) := by decide +kernel
theorem dX8_reckons_124 : decode cX8_reckons 124 = .ok (.ifCond .ne 7, 3) := by decide +kernel
theorem dX8_reckons_127 : decode cX8_reckons 127 = .ok (.iconst 1, 1) := by decide +kernel
theorem dX8_reckons_128 : decode cX8_reckons 128 = .ok (.goto 4, 3) := by decide +kernel
theorem dX8_reckons_131 : decode cX8_reckons 131 = .ok (.iconst 0, 1) := by decide +kernel
theorem dX8_reckons_132 : decode cX8_reckons 132 = .ok (.putfield 61, 3) := by decide +kernel
theorem dX8_reckons_135 : decode cX8_reckons 135 = .ok (.goto 161, 3) := by decide +kernel
theorem dX8_reckons_138 : decode cX8_reckons 138 = .ok (.aload_n 0, 1) := by decide +kernel
theorem dX8_reckons_139 : decode cX8_reckons 139 = .ok (.iconst 1, 1) := by decide +kernel
theorem dX8_reckons_140 : decode cX8_reckons 140 = .ok (.aload_n 0, 1) := by decide +kernel
theorem dX8_reckons_141 : decode cX8_reckons 141 = .ok (.getfield 145, 3) := by decide +kernel
theorem dX8_reckons_144 : decode cX8_reckons 144 = .ok (.invokevirtual 196, 3) := by decide +kernel
theorem dX8_reckons_147 : decode cX8_reckons 147 = .ok (.goto 149, 3) := by decide +kernel
theorem dX8_reckons_150 : decode cX8_reckons 150 = .ok (.aload_n 0, 1) := by decide +kernel
theorem dX8_reckons_151 : decode cX8_reckons 151 = .ok (.aload_n 0, 1) := by decide +kernel
theorem dX8_reckons_152 : decode cX8_reckons 152 = .ok (.getfield 142, 3) := by decide +kernel
theorem dX8_reckons_155 : decode cX8_reckons 155 = .ok (.aload_n 0, 1) := by decide +kernel
theorem dX8_reckons_156 : decode cX8_reckons 156 = .ok (.getfield 145, 3) := by decide +kernel
theorem dX8_reckons_159 : decode cX8_reckons 159 = .ok (.invokevirtual 196, 3) := by decide +kernel
theorem dX8_reckons_162 : decode cX8_reckons 162 = .ok (.goto 134, 3) := by decide +kernel
theorem dX8_reckons_165 : decode cX8_reckons 165 = .ok (.aload_n 0, 1) := by decide +kernel
theorem dX8_reckons_166 : decode cX8_reckons 166 = .ok (.aload_n 0, 1) := by decide +kernel
theorem dX8_reckons_167 : decode cX8_reckons 167 = .ok (.getfield 145, 3) := by decide +kernel
theorem dX8_reckons_170 : decode cX8_reckons 170 = .ok (.putfield 65, 3) := by decide +kernel
theorem dX8_reckons_173 : decode cX8_reckons 173 = .ok (.aload_n 0, 1) := by decide +kernel
theorem dX8_reckons_174 : decode cX8_reckons 174 = .ok (.aload_n 0, 1) := by decide +kernel
theorem dX8_reckons_175 : decode cX8_reckons 175 = .ok (.getfield 142, 3) := by decide +kernel
theorem dX8_reckons_178 : decode cX8_reckons 178 = .ok (.putfield 61, 3) := by decide +kernel
theorem dX8_reckons_181 : decode cX8_reckons 181 = .ok (.goto 115, 3) := by decide +kernel
theorem dX8_reckons_184 : decode cX8_reckons 184 = .ok (.aload_n 0, 1) := by decide +kernel
theorem dX8_reckons_185 : decode cX8_reckons 185 = .ok (.iconst 0, 1) := by decide +kernel
theorem dX8_reckons_186 : decode cX8_reckons 186 = .ok (.aload_n 0, 1) := by decide +kernel
theorem dX8_reckons_187 : decode cX8_reckons 187 = .ok (.getfield 145, 3) := by decide +kernel
theorem dX8_reckons_190 : decode cX8_reckons 190 = .ok (.invokevirtual 196, 3) := by decide +kernel
theorem dX8_reckons_193 : decode cX8_reckons 193 = .ok (.goto 103, 3) := by decide +kernel
theorem dX8_reckons_196 : decode cX8_reckons 196 = .ok (.aload_n 0, 1) := by decide +kernel
theorem dX8_reckons_197 : decode cX8_reckons 197 = .ok (.aload_n 0, 1) := by decide +kernel
theorem dX8_reckons_198 : decode cX8_reckons 198 = .ok (.getfield 61, 3) := by decide +kernel
theorem dX8_reckons_201 : decode cX8_reckons 201 = .ok (.aload_n 0, 1) := by decide +kernel
theorem dX8_reckons_202 : decode cX8_reckons 202 = .ok (.getfield 65, 3) := by decide +kernel
theorem dX8_reckons_205 : decode cX8_reckons 205 = .ok (.invokestatic 200, 3) := by decide +kernel
theorem dX8_reckons_208 : decode cX8_reckons 208 = .ok (.invokevirtual 204, 3) := by decide +kernel
theorem dX8_reckons_211 : decode cX8_reckons 211 = .ok (.goto 85, 3) := by decide +kernel
theorem dX8_reckons_214 : decode cX8_reckons 214 = .ok (.aload_n 0, 1) := by decide +kernel
theorem dX8_reckons_215 : decode cX8_reckons 215 = .ok (.invokevirtual 207, 3) := by decide +kernel
theorem dX8_reckons_218 : decode cX8_reckons 218 = .ok (.goto 78, 3) := by decide +kernel
theorem dX8_reckons_221 : decode cX8_reckons 221 = .ok (.aload_n 0, 1) := by decide +kernel
theorem dX8_reckons_222 : decode cX8_reckons 222 = .ok (.aload_n 0, 1) := by decide +kernel
theorem dX8_reckons_223 : decode cX8_reckons 223 = .ok (.getfield 69, 3) := by decide +kernel
theorem dX8_reckons_226 : decode cX8_reckons 226 = .ok (.aload_n 0, 1) := by decide +kernel
theorem dX8_reckons_227 : decode cX8_reckons 227 = .ok (.getfield 72, 3) := by decide +kernel
theorem dX8_reckons_230 : decode cX8_reckons 230 = .ok (.invokestatic 200, 3) := by decide +kernel
theorem dX8_reckons_233 : decode cX8_reckons 233 = .ok (.invokevirtual 204, 3) := by decide +kernel
theorem dX8_reckons_236 : decode cX8_reckons 236 = .ok (.goto 60, 3) := by decide +kernel
theorem dX8_reckons_239 : decode cX8_reckons 239 = .ok (.aload_n 0, 1) := by decide +kernel
theorem dX8_reckons_240 : decode cX8_reckons 240 = .ok (.aload_n 0, 1) := by decide +kernel
theorem dX8_reckons_241 : decode cX8_reckons 241 = .ok (.getfield 145, 3) := by decide +kernel
theorem dX8_reckons_244 : decode cX8_reckons 244 = .ok (.putfield 72, 3) := by decide +kernel
theorem dX8_reckons_247 : decode cX8_reckons 247 = .ok (.aload_n 0, 1) := by decide +kernel
theorem dX8_reckons_248 : decode cX8_reckons 248 = .ok (.aload_n 0, 1) := by decide +kernel
theorem dX8_reckons_249 : decode cX8_reckons 249 = .ok (.getfield 142, 3) := by decide +kernel
theorem dX8_reckons_252 : decode cX8_reckons 252 = .ok (.putfield 69, 3) := by decide +kernel
theorem dX8_reckons_255 : decode cX8_reckons 255 = .ok (.goto 41, 3) := by decide +kernel
theorem dX8_reckons_258 : decode cX8_reckons 258 = .ok (.aload_n 0, 1) := by decide +kernel
theorem dX8_reckons_259 : decode cX8_reckons 259 = .ok (.invokevirtual 210, 3) := by decide +kernel
theorem dX8_reckons_262 : decode cX8_reckons 262 = .ok (.goto 34, 3) := by decide +kernel
theorem dX8_reckons_265 : decode cX8_reckons 265 = .ok (.aload_n 0, 1) := by decide +kernel
theorem dX8_reckons_266 : decode cX8_reckons 266 = .ok (.invokevirtual 210, 3) := by decide +kernel
theorem dX8_reckons_269 : decode cX8_reckons 269 = .ok (.aload_n 0, 1) := by decide +kernel
theorem dX8_reckons_270 : decode cX8_reckons 270 = .ok (.invokevirtual 213, 3) := by decide +kernel
theorem dX8_reckons_273 : decode cX8_reckons 273 = .ok (.goto 23, 3) := by decide +kernel
theorem dX8_reckons_276 : decode cX8_reckons 276 = .ok (.aload_n 0, 1) := by decide +kernel
theorem dX8_reckons_277 : decode cX8_reckons 277 = .ok (.invokevirtual 216, 3) := by decide +kernel
theorem dX8_reckons_280 : decode cX8_reckons 280 = .ok (.ifCond .eq 7, 3) := by decide +kernel
theorem dX8_reckons_283 : decode cX8_reckons 283 = .ok (.iconst 0, 1) := by decide +kernel
theorem dX8_reckons_284 : decode cX8_reckons 284 = .ok (.goto 4, 3) := by decide +kernel
theorem dX8_reckons_287 : decode cX8_reckons 287 = .ok (.iconst 3, 1) := by decide +kernel
theorem dX8_reckons_288 : decode cX8_reckons 288 = .ok (.ireturn, 1) := by decide +kernel
theorem dX8_reckons_289 : decode cX8_reckons 289 = .ok (.aload_n 0, 1) := by decide +kernel
theorem dX8_reckons_290 : decode cX8_reckons 290 = .ok (.invokevirtual 213, 3) := by decide +kernel
theorem dX8_reckons_293 : decode cX8_reckons 293 = .ok (.goto 3, 3) := by decide +kernel
theorem dX8_reckons_296 : decode cX8_reckons 296 = .ok (.iconst 0, 1) := by decide +kernel
theorem dX8_reckons_297 : decode cX8_reckons 297 = .ok (.ireturn, 1) := by decide +kernel
set_option maxRecDepth 100000 in
theorem ggX8_extract_X8_bits : GoodIn wsX8_extract wsX8_bits := goodIn_r _ [10, 11, 12] rfl (by decide +kernel)
set_option maxRecDepth 100000 in
theorem gX8_extract_X8_bits : GoodIn wsX8_extract (va_wsS RX8 200 yX8_bits wsX8_bits) := goodIn_app (goodIn_r _ [7, 8, 9] rfl (by decide +kernel)) ggX8_extract_X8_bits
set_option maxRecDepth 100000 in
theorem ggX8_extract_X8_wholeAt : GoodIn wsX8_extract wsX8_wholeAt := goodIn_r _ [16, 5, 22, 23, 24, 25, 26, 27, 28, 29, 30, 31, 32, 33, 34, 35, 36, 37, 38, 39, 40, 41, 42, 43, 44, 45, 46, 47, 48, 49, 50, 51, 52] rfl (by decide +kernel)
set_option maxRecDepth 100000 in
theorem gX8_extract_X8_wholeAt : GoodIn wsX8_extract (wsV RX8 55 RX8 yX8_wholeAt wsX8_wholeAt) := goodIn_app (goodIn_r _ [13, 14, 15, 9] rfl (by decide +kernel)) ggX8_extract_X8_wholeAt
set_option maxRecDepth 100000 in
theorem ggX8_extract_X8_putWhole : GoodIn wsX8_extract wsX8_putWhole := goodIn_r _ [20, 5, 21, 22, 23, 24, 25, 26, 27, 28, 29, 30, 31, 32, 33, 34, 35, 36, 37, 38, 39, 40, 41, 42, 43, 44, 45, 46, 47, 48, 49, 50, 51, 52] rfl (by decide +kernel)
set_option maxRecDepth 100000 in
theorem gX8_extract_X8_putWhole : GoodIn wsX8_extract (wsV RX8 148 RX8 yX8_putWhole wsX8_putWhole) := goodIn_app (goodIn_r _ [17, 18, 19, 9] rfl (by decide +kernel)) ggX8_extract_X8_putWhole
theorem dX8_extract_0 : decode cX8_extract 0 = .ok (.aload_n 0, 1) := by decide +kernel
theorem dX8_extract_1 : decode cX8_extract 1 = .ok (.getfield 61, 3) := by decide +kernel
theorem dX8_extract_4 : decode cX8_extract 4 = .ok (.aload_n 0, 1) := by decide +kernel
theorem dX8_extract_5 : decode cX8_extract 5 = .ok (.getfield 65, 3) := by decide +kernel
theorem dX8_extract_8 : decode cX8_extract 8 = .ok (.invokestatic 200, 3) := by decide +kernel
theorem dX8_extract_11 : decode cX8_extract 11 = .ok (.lstore_n 1, 1) := by decide +kernel
theorem dX8_extract_12 : decode cX8_extract 12 = .ok (.aload_n 0, 1) := by decide +kernel
theorem dX8_extract_13 : decode cX8_extract 13 = .ok (.getfield 134, 3) := by decide +kernel
theorem dX8_extract_16 : decode cX8_extract 16 = .ok (.ifCond .eq 24, 3) := by decide +kernel
theorem dX8_extract_19 : decode cX8_extract 19 = .ok (.aload_n 0, 1) := by decide +kernel
theorem dX8_extract_20 : decode cX8_extract 20 = .ok (.aload_n 0, 1) := by decide +kernel
theorem dX8_extract_21 : decode cX8_extract 21 = .ok (.getfield 137, 3) := by decide +kernel
theorem dX8_extract_24 : decode cX8_extract 24 = .ok (.aload_n 0, 1) := by decide +kernel
theorem dX8_extract_25 : decode cX8_extract 25 = .ok (.aload_n 0, 1) := by decide +kernel
theorem dX8_extract_26 : decode cX8_extract 26 = .ok (.getfield 137, 3) := by decide +kernel
theorem dX8_extract_29 : decode cX8_extract 29 = .ok (.invokevirtual 55, 3) := by decide +kernel
theorem dX8_extract_32 : decode cX8_extract 32 = .ok (.lload_n 1, 1) := by decide +kernel
theorem dX8_extract_33 : decode cX8_extract 33 = .ok (.land, 1) := by decide +kernel
theorem dX8_extract_34 : decode cX8_extract 34 = .ok (.invokevirtual 148, 3) := by decide +kernel
theorem dX8_extract_37 : decode cX8_extract 37 = .ok (.goto 35, 3) := by decide +kernel
theorem dX8_extract_40 : decode cX8_extract 40 = .ok (.aload_n 0, 1) := by decide +kernel
theorem dX8_extract_41 : decode cX8_extract 41 = .ok (.getfield 7, 3) := by decide +kernel
theorem dX8_extract_44 : decode cX8_extract 44 = .ok (.aload_n 0, 1) := by decide +kernel
theorem dX8_extract_45 : decode cX8_extract 45 = .ok (.getfield 137, 3) := by decide +kernel
theorem dX8_extract_48 : decode cX8_extract 48 = .ok (.aload_n 0, 1) := by decide +kernel
theorem dX8_extract_49 : decode cX8_extract 49 = .ok (.getfield 7, 3) := by decide +kernel
theorem dX8_extract_52 : decode cX8_extract 52 = .ok (.aload_n 0, 1) := by decide +kernel
theorem dX8_extract_53 : decode cX8_extract 53 = .ok (.getfield 137, 3) := by decide +kernel
theorem dX8_extract_56 : decode cX8_extract 56 = .ok (.iaload, 1) := by decide +kernel
theorem dX8_extract_57 : decode cX8_extract 57 = .ok (.sipush (-4096), 3) := by decide +kernel
theorem dX8_extract_60 : decode cX8_extract 60 = .ok (.iand, 1) := by decide +kernel
theorem dX8_extract_61 : decode cX8_extract 61 = .ok (.lload_n 1, 1) := by decide +kernel
theorem dX8_extract_62 : decode cX8_extract 62 = .ok (.bipush 18, 2) := by decide +kernel
theorem dX8_extract_64 : decode cX8_extract 64 = .ok (.lshr, 1) := by decide +kernel
theorem dX8_extract_65 : decode cX8_extract 65 = .ok (.ldc2_w 219, 3) := by decide +kernel
theorem dX8_extract_68 : decode cX8_extract 68 = .ok (.land, 1) := by decide +kernel
theorem dX8_extract_69 : decode cX8_extract 69 = .ok (.l2i, 1) := by decide +kernel
theorem dX8_extract_70 : decode cX8_extract 70 = .ok (.ior, 1) := by decide +kernel
theorem dX8_extract_71 : decode cX8_extract 71 = .ok (.iastore, 1) := by decide +kernel
theorem dX8_extract_72 : decode cX8_extract 72 = .ok (.return_, 1) := by decide +kernel
set_option maxRecDepth 100000 in
theorem ggX8_senses_X8_in : GoodIn wsX8_senses wsX8_in := goodIn_r _ [8] rfl (by decide +kernel)
set_option maxRecDepth 100000 in
theorem gX8_senses_X8_in : GoodIn wsX8_senses (va_wsS RX8 49 yX8_in wsX8_in) := goodIn_app (goodIn_r _ [5, 6, 7] rfl (by decide +kernel)) ggX8_senses_X8_in
set_option maxRecDepth 100000 in
theorem ggX8_senses_X8_go : GoodIn wsX8_senses wsX8_go := goodIn_r _ [12, 13, 14, 15, 16, 17, 18, 19, 20, 21, 22, 23, 24, 25, 26, 27, 28, 29, 30, 31, 32, 33, 34, 35, 36, 37, 38, 39, 40, 41, 42, 43, 44] rfl (by decide +kernel)
set_option maxRecDepth 100000 in
theorem gX8_senses_X8_go : GoodIn wsX8_senses (wsV RX8 182 RX8 yX8_go wsX8_go) := goodIn_app (goodIn_r _ [9, 10, 11, 7] rfl (by decide +kernel)) ggX8_senses_X8_go
theorem dX8_senses_0 : decode cX8_senses 0 = .ok (.iload_n 1, 1) := by decide +kernel
theorem dX8_senses_1 : decode cX8_senses 1 = .ok (.i2l, 1) := by decide +kernel
theorem dX8_senses_2 : decode cX8_senses 2 = .ok (.ldc2_w 221, 3) := by decide +kernel
theorem dX8_senses_5 : decode cX8_senses 5 = .ok (.ldc2_w 223, 3) := by decide +kernel
theorem dX8_senses_8 : decode cX8_senses 8 = .ok (.invokestatic 49, 3) := by decide +kernel
theorem dX8_senses_11 : decode cX8_senses 11 = .ok (.ifCond .ne 5, 3) := by decide +kernel
theorem dX8_senses_14 : decode cX8_senses 14 = .ok (.iconst 4, 1) := by decide +kernel
theorem dX8_senses_15 : decode cX8_senses 15 = .ok (.ireturn, 1) := by decide +kernel
theorem dX8_senses_16 : decode cX8_senses 16 = .ok (.iload_n 1, 1) := by decide +kernel
theorem dX8_senses_17 : decode cX8_senses 17 = .ok (.bipush 64, 2) := by decide +kernel
theorem dX8_senses_19 : decode cX8_senses 19 = .ok (.if_icmp .ne 11, 3) := by decide +kernel
theorem dX8_senses_22 : decode cX8_senses 22 = .ok (.aload_n 0, 1) := by decide +kernel
theorem dX8_senses_23 : decode cX8_senses 23 = .ok (.iconst 0, 1) := by decide +kernel
theorem dX8_senses_24 : decode cX8_senses 24 = .ok (.putfield 81, 3) := by decide +kernel
theorem dX8_senses_27 : decode cX8_senses 27 = .ok (.goto 83, 3) := by decide +kernel
theorem dX8_senses_30 : decode cX8_senses 30 = .ok (.iload_n 1, 1) := by decide +kernel
theorem dX8_senses_31 : decode cX8_senses 31 = .ok (.bipush 69, 2) := by decide +kernel
theorem dX8_senses_33 : decode cX8_senses 33 = .ok (.if_icmp .ge 21, 3) := by decide +kernel
theorem dX8_senses_36 : decode cX8_senses 36 = .ok (.aload_n 0, 1) := by decide +kernel
theorem dX8_senses_37 : decode cX8_senses 37 = .ok (.dup, 1) := by decide +kernel
theorem dX8_senses_38 : decode cX8_senses 38 = .ok (.getfield 81, 3) := by decide +kernel
theorem dX8_senses_41 : decode cX8_senses 41 = .ok (.iconst 1, 1) := by decide +kernel
theorem dX8_senses_42 : decode cX8_senses 42 = .ok (.iload_n 1, 1) := by decide +kernel
theorem dX8_senses_43 : decode cX8_senses 43 = .ok (.bipush 65, 2) := by decide +kernel
theorem dX8_senses_45 : decode cX8_senses 45 = .ok (.isub, 1) := by decide +kernel
theorem dX8_senses_46 : decode cX8_senses 46 = .ok (.ishl, 1) := by decide +kernel
theorem dX8_senses_47 : decode cX8_senses 47 = .ok (.ior, 1) := by decide +kernel
theorem dX8_senses_48 : decode cX8_senses 48 = .ok (.putfield 81, 3) := by decide +kernel
theorem dX8_senses_51 : decode cX8_senses 51 = .ok (.goto 59, 3) := by decide +kernel
theorem dX8_senses_54 : decode cX8_senses 54 = .ok (.iload_n 1, 1) := by decide +kernel
theorem dX8_senses_55 : decode cX8_senses 55 = .ok (.bipush 73, 2) := by decide +kernel
theorem dX8_senses_57 : decode cX8_senses 57 = .ok (.if_icmp .ge 21, 3) := by decide +kernel
theorem dX8_senses_60 : decode cX8_senses 60 = .ok (.aload_n 0, 1) := by decide +kernel
theorem dX8_senses_61 : decode cX8_senses 61 = .ok (.aload_n 0, 1) := by decide +kernel
theorem dX8_senses_62 : decode cX8_senses 62 = .ok (.getfield 98, 3) := by decide +kernel
theorem dX8_senses_65 : decode cX8_senses 65 = .ok (.iload_n 1, 1) := by decide +kernel
theorem dX8_senses_66 : decode cX8_senses 66 = .ok (.bipush 69, 2) := by decide +kernel
theorem dX8_senses_68 : decode cX8_senses 68 = .ok (.isub, 1) := by decide +kernel
theorem dX8_senses_69 : decode cX8_senses 69 = .ok (.ishr, 1) := by decide +kernel
theorem dX8_senses_70 : decode cX8_senses 70 = .ok (.iconst 1, 1) := by decide +kernel
theorem dX8_senses_71 : decode cX8_senses 71 = .ok (.iand, 1) := by decide +kernel
theorem dX8_senses_72 : decode cX8_senses 72 = .ok (.invokevirtual 182, 3) := by decide +kernel
theorem dX8_senses_75 : decode cX8_senses 75 = .ok (.goto 35, 3) := by decide +kernel
theorem dX8_senses_78 : decode cX8_senses 78 = .ok (.aload_n 0, 1) := by decide +kernel
theorem dX8_senses_79 : decode cX8_senses 79 = .ok (.aload_n 0, 1) := by decide +kernel
theorem dX8_senses_80 : decode cX8_senses 80 = .ok (.getfield 81, 3) := by decide +kernel
theorem dX8_senses_83 : decode cX8_senses 83 = .ok (.iload_n 1, 1) := by decide +kernel
theorem dX8_senses_84 : decode cX8_senses 84 = .ok (.bipush 73, 2) := by decide +kernel
theorem dX8_senses_86 : decode cX8_senses 86 = .ok (.isub, 1) := by decide +kernel
theorem dX8_senses_87 : decode cX8_senses 87 = .ok (.ishr, 1) := by decide +kernel
theorem dX8_senses_88 : decode cX8_senses 88 = .ok (.iconst 1, 1) := by decide +kernel
theorem dX8_senses_89 : decode cX8_senses 89 = .ok (.iand, 1) := by decide +kernel
theorem dX8_senses_90 : decode cX8_senses 90 = .ok (.invokevirtual 182, 3) := by decide +kernel
theorem dX8_senses_93 : decode cX8_senses 93 = .ok (.aload_n 0, 1) := by decide +kernel
theorem dX8_senses_94 : decode cX8_senses 94 = .ok (.dup, 1) := by decide +kernel
theorem dX8_senses_95 : decode cX8_senses 95 = .ok (.getfield 81, 3) := by decide +kernel
theorem dX8_senses_98 : decode cX8_senses 98 = .ok (.iconst 1, 1) := by decide +kernel
theorem dX8_senses_99 : decode cX8_senses 99 = .ok (.iload_n 1, 1) := by decide +kernel
theorem dX8_senses_100 : decode cX8_senses 100 = .ok (.bipush 73, 2) := by decide +kernel
theorem dX8_senses_102 : decode cX8_senses 102 = .ok (.isub, 1) := by decide +kernel
theorem dX8_senses_103 : decode cX8_senses 103 = .ok (.ishl, 1) := by decide +kernel
theorem dX8_senses_104 : decode cX8_senses 104 = .ok (.iconst (-1), 1) := by decide +kernel
theorem dX8_senses_105 : decode cX8_senses 105 = .ok (.ixor, 1) := by decide +kernel
theorem dX8_senses_106 : decode cX8_senses 106 = .ok (.iand, 1) := by decide +kernel
theorem dX8_senses_107 : decode cX8_senses 107 = .ok (.putfield 81, 3) := by decide +kernel
theorem dX8_senses_110 : decode cX8_senses 110 = .ok (.iconst 0, 1) := by decide +kernel
theorem dX8_senses_111 : decode cX8_senses 111 = .ok (.ireturn, 1) := by decide +kernel
set_option maxRecDepth 100000 in
theorem ggX8_reaches_X8_senses : GoodIn wsX8_reaches wsX8_senses := goodIn_td 40 (goodIn_r _ [12, 13, 14, 15, 16, 17, 18, 11, 19, 20, 21, 22, 23, 24, 36, 37, 38, 39, 40, 41, 42, 43, 44, 45, 46, 47, 48, 49, 50, 51, 52, 53, 54, 55, 56, 57, 58, 59, 60, 61] rfl (by decide +kernel)) (goodIn_r _ [62, 63, 64, 65, 66] rfl (by decide +kernel))
set_option maxRecDepth 100000 in
theorem gX8_reaches_X8_senses : GoodIn wsX8_reaches (wsV RX8 225 RX8 yX8_senses wsX8_senses) := goodIn_app (goodIn_r _ [8, 9, 10, 11] rfl (by decide +kernel)) ggX8_reaches_X8_senses
set_option maxRecDepth 100000 in
theorem ggX8_reaches_X8_in : GoodIn wsX8_reaches wsX8_in := goodIn_r _ [19] rfl (by decide +kernel)
set_option maxRecDepth 100000 in
theorem gX8_reaches_X8_in : GoodIn wsX8_reaches (va_wsS RX8 49 yX8_in wsX8_in) := goodIn_app (goodIn_r _ [17, 18, 11] rfl (by decide +kernel)) ggX8_reaches_X8_in
set_option maxRecDepth 100000 in
theorem ggX8_reaches_X8_endsRecord : GoodIn wsX8_reaches wsX8_endsRecord := goodIn_td 40 (goodIn_r _ [28, 29, 1, 30, 31, 32, 33, 11, 34, 6, 35, 5, 36, 37, 38, 39, 40, 41, 42, 43, 44, 45, 46, 47, 48, 49, 50, 51, 52, 53, 54, 55, 56, 57, 58, 59, 60, 61, 62, 63] rfl (by decide +kernel)) (goodIn_r _ [64, 65, 66] rfl (by decide +kernel))
set_option maxRecDepth 100000 in
theorem gX8_reaches_X8_endsRecord : GoodIn wsX8_reaches (wsV RX8 124 RX8 yX8_endsRecord wsX8_endsRecord) := goodIn_app (goodIn_r _ [25, 26, 27, 11] rfl (by decide +kernel)) ggX8_reaches_X8_endsRecord
set_option maxRecDepth 100000 in
theorem ggX8_reaches_X8_puts : GoodIn wsX8_reaches wsX8_puts := goodIn_r _ [34, 6, 35, 5, 36, 37, 38, 39, 40, 41, 42, 43, 44, 45, 46, 47, 48, 49, 50, 51, 52, 53, 54, 55, 56, 57, 58, 59, 60, 61, 62, 63, 64, 65, 66] rfl (by decide +kernel)
set_option maxRecDepth 100000 in
theorem gX8_reaches_X8_puts : GoodIn wsX8_reaches (wsV RX8 120 RX8 yX8_puts wsX8_puts) := goodIn_app (goodIn_r _ [31, 32, 33, 11] rfl (by decide +kernel)) ggX8_reaches_X8_puts
theorem dX8_reaches_0 : decode cX8_reaches 0 = .ok (.iload_n 1, 1) := by decide +kernel
theorem dX8_reaches_1 : decode cX8_reaches 1 = .ok (.bipush 30, 2) := by decide +kernel
theorem dX8_reaches_3 : decode cX8_reaches 3 = .ok (.if_icmp .ne 9, 3) := by decide +kernel
theorem dX8_reaches_6 : decode cX8_reaches 6 = .ok (.aload_n 0, 1) := by decide +kernel
theorem dX8_reaches_7 : decode cX8_reaches 7 = .ok (.iload_n 2, 1) := by decide +kernel
theorem dX8_reaches_8 : decode cX8_reaches 8 = .ok (.invokevirtual 225, 3) := by decide +kernel
theorem dX8_reaches_11 : decode cX8_reaches 11 = .ok (.ireturn, 1) := by decide +kernel
theorem dX8_reaches_12 : decode cX8_reaches 12 = .ok (.iload_n 1, 1) := by decide +kernel
theorem dX8_reaches_13 : decode cX8_reaches 13 = .ok (.bipush 29, 2) := by decide +kernel
theorem dX8_reaches_15 : decode cX8_reaches 15 = .ok (.if_icmp .ne 25, 3) := by decide +kernel
theorem dX8_reaches_18 : decode cX8_reaches 18 = .ok (.aload_n 0, 1) := by decide +kernel
theorem dX8_reaches_19 : decode cX8_reaches 19 = .ok (.getfield 43, 3) := by decide +kernel
theorem dX8_reaches_22 : decode cX8_reaches 22 = .ok (.bipush 13, 2) := by decide +kernel
theorem dX8_reaches_24 : decode cX8_reaches 24 = .ok (.if_icmp .ge 5, 3) := by decide +kernel
theorem dX8_reaches_27 : decode cX8_reaches 27 = .ok (.iconst 4, 1) := by decide +kernel
theorem dX8_reaches_28 : decode cX8_reaches 28 = .ok (.ireturn, 1) := by decide +kernel
theorem dX8_reaches_29 : decode cX8_reaches 29 = .ok (.aload_n 0, 1) := by decide +kernel
theorem dX8_reaches_30 : decode cX8_reaches 30 = .ok (.iload_n 2, 1) := by decide +kernel
theorem dX8_reaches_31 : decode cX8_reaches 31 = .ok (.sipush 255, 3) := by decide +kernel
theorem dX8_reaches_34 : decode cX8_reaches 34 = .ok (.iand, 1) := by decide +kernel
theorem dX8_reaches_35 : decode cX8_reaches 35 = .ok (.putfield 84, 3) := by decide +kernel
theorem dX8_reaches_38 : decode cX8_reaches 38 = .ok (.iconst 0, 1) := by decide +kernel
theorem dX8_reaches_39 : decode cX8_reaches 39 = .ok (.ireturn, 1) := by decide +kernel
theorem dX8_reaches_40 : decode cX8_reaches 40 = .ok (.iload_n 2, 1) := by decide +kernel
theorem dX8_reaches_41 : decode cX8_reaches 41 = .ok (.sipush 128, 3) := by decide +kernel
theorem dX8_reaches_44 : decode cX8_reaches 44 = .ok (.if_icmp .ne 19, 3) := by decide +kernel
theorem dX8_reaches_47 : decode cX8_reaches 47 = .ok (.iload_n 1, 1) := by decide +kernel
theorem dX8_reaches_48 : decode cX8_reaches 48 = .ok (.bipush 24, 2) := by decide +kernel
theorem dX8_reaches_50 : decode cX8_reaches 50 = .ok (.if_icmp .eq 9, 3) := by decide +kernel
theorem dX8_reaches_53 : decode cX8_reaches 53 = .ok (.iload_n 1, 1) := by decide +kernel
theorem dX8_reaches_54 : decode cX8_reaches 54 = .ok (.bipush 26, 2) := by decide +kernel
theorem dX8_reaches_56 : decode cX8_reaches 56 = .ok (.if_icmp .ne 7, 3) := by decide +kernel
theorem dX8_reaches_59 : decode cX8_reaches 59 = .ok (.iconst 1, 1) := by decide +kernel
theorem dX8_reaches_60 : decode cX8_reaches 60 = .ok (.goto 4, 3) := by decide +kernel
theorem dX8_reaches_63 : decode cX8_reaches 63 = .ok (.iconst 0, 1) := by decide +kernel
theorem dX8_reaches_64 : decode cX8_reaches 64 = .ok (.istore_n 3, 1) := by decide +kernel
theorem dX8_reaches_65 : decode cX8_reaches 65 = .ok (.iload_n 3, 1) := by decide +kernel
theorem dX8_reaches_66 : decode cX8_reaches 66 = .ok (.ifCond .ne 19, 3) := by decide +kernel
theorem dX8_reaches_69 : decode cX8_reaches 69 = .ok (.iload_n 2, 1) := by decide +kernel
theorem dX8_reaches_70 : decode cX8_reaches 70 = .ok (.i2l, 1) := by decide +kernel
theorem dX8_reaches_71 : decode cX8_reaches 71 = .ok (.ldc2_w 228, 3) := by decide +kernel
theorem dX8_reaches_74 : decode cX8_reaches 74 = .ok (.ldc2_w 230, 3) := by decide +kernel
theorem dX8_reaches_77 : decode cX8_reaches 77 = .ok (.invokestatic 49, 3) := by decide +kernel
theorem dX8_reaches_80 : decode cX8_reaches 80 = .ok (.ifCond .ne 5, 3) := by decide +kernel
theorem dX8_reaches_83 : decode cX8_reaches 83 = .ok (.iconst 4, 1) := by decide +kernel
theorem dX8_reaches_84 : decode cX8_reaches 84 = .ok (.ireturn, 1) := by decide +kernel
theorem dX8_reaches_85 : decode cX8_reaches 85 = .ok (.aload_n 0, 1) := by decide +kernel
theorem dX8_reaches_86 : decode cX8_reaches 86 = .ok (.invokevirtual 124, 3) := by decide +kernel
theorem dX8_reaches_89 : decode cX8_reaches 89 = .ok (.ifCond .ne 5, 3) := by decide +kernel
theorem dX8_reaches_92 : decode cX8_reaches 92 = .ok (.iconst 5, 1) := by decide +kernel
theorem dX8_reaches_93 : decode cX8_reaches 93 = .ok (.ireturn, 1) := by decide +kernel
theorem dX8_reaches_94 : decode cX8_reaches 94 = .ok (.iload_n 2, 1) := by decide +kernel
theorem dX8_reaches_95 : decode cX8_reaches 95 = .ok (.sipush 256, 3) := by decide +kernel
theorem dX8_reaches_98 : decode cX8_reaches 98 = .ok (.isub, 1) := by decide +kernel
theorem dX8_reaches_99 : decode cX8_reaches 99 = .ok (.istore 4, 2) := by decide +kernel
theorem dX8_reaches_101 : decode cX8_reaches 101 = .ok (.iload_n 1, 1) := by decide +kernel
theorem dX8_reaches_102 : decode cX8_reaches 102 = .ok (.tableswitch 136 24 27 #[30, 50, 61, 100], 30) := by decide +kernel
theorem dX8_reaches_132 : decode cX8_reaches 132 = .ok (.aload_n 0, 1) := by decide +kernel
theorem dX8_reaches_133 : decode cX8_reaches 133 = .ok (.iload_n 3, 1) := by decide +kernel
theorem dX8_reaches_134 : decode cX8_reaches 134 = .ok (.ifCond .eq 8, 3) := by decide +kernel
theorem dX8_reaches_137 : decode cX8_reaches 137 = .ok (.bipush 13, 2) := by decide +kernel
theorem dX8_reaches_139 : decode cX8_reaches 139 = .ok (.goto 7, 3) := by decide +kernel
theorem dX8_reaches_142 : decode cX8_reaches 142 = .ok (.iconst 1, 1) := by decide +kernel
theorem dX8_reaches_143 : decode cX8_reaches 143 = .ok (.iload 4, 2) := by decide +kernel
theorem dX8_reaches_145 : decode cX8_reaches 145 = .ok (.iadd, 1) := by decide +kernel
theorem dX8_reaches_146 : decode cX8_reaches 146 = .ok (.putfield 43, 3) := by decide +kernel
theorem dX8_reaches_149 : decode cX8_reaches 149 = .ok (.goto 102, 3) := by decide +kernel
theorem dX8_reaches_152 : decode cX8_reaches 152 = .ok (.aload_n 0, 1) := by decide +kernel
theorem dX8_reaches_153 : decode cX8_reaches 153 = .ok (.iconst 5, 1) := by decide +kernel
theorem dX8_reaches_154 : decode cX8_reaches 154 = .ok (.iload 4, 2) := by decide +kernel
theorem dX8_reaches_156 : decode cX8_reaches 156 = .ok (.iadd, 1) := by decide +kernel
theorem dX8_reaches_157 : decode cX8_reaches 157 = .ok (.putfield 43, 3) := by decide +kernel
theorem dX8_reaches_160 : decode cX8_reaches 160 = .ok (.goto 91, 3) := by decide +kernel
theorem dX8_reaches_163 : decode cX8_reaches 163 = .ok (.iload_n 3, 1) := by decide +kernel
theorem dX8_reaches_164 : decode cX8_reaches 164 = .ok (.ifCond .ne 17, 3) := by decide +kernel
theorem dX8_reaches_167 : decode cX8_reaches 167 = .ok (.aload_n 0, 1) := by decide +kernel
theorem dX8_reaches_168 : decode cX8_reaches 168 = .ok (.getfield 17, 3) := by decide +kernel
theorem dX8_reaches_171 : decode cX8_reaches 171 = .ok (.iload 4, 2) := by decide +kernel
theorem dX8_reaches_173 : decode cX8_reaches 173 = .ok (.aload_n 0, 1) := by decide +kernel
theorem dX8_reaches_174 : decode cX8_reaches 174 = .ok (.getfield 20, 3) := by decide +kernel
theorem dX8_reaches_177 : decode cX8_reaches 177 = .ok (.iload 4, 2) := by decide +kernel
theorem dX8_reaches_179 : decode cX8_reaches 179 = .ok (.iaload, 1) := by decide +kernel
theorem dX8_reaches_180 : decode cX8_reaches 180 = .ok (.iastore, 1) := by decide +kernel
theorem dX8_reaches_181 : decode cX8_reaches 181 = .ok (.aload_n 0, 1) := by decide +kernel
theorem dX8_reaches_182 : decode cX8_reaches 182 = .ok (.iload_n 3, 1) := by decide +kernel
theorem dX8_reaches_183 : decode cX8_reaches 183 = .ok (.ifCond .eq 8, 3) := by decide +kernel
theorem dX8_reaches_186 : decode cX8_reaches 186 = .ok (.bipush 14, 2) := by decide +kernel
theorem dX8_reaches_188 : decode cX8_reaches 188 = .ok (.goto 8, 3) := by decide +kernel
theorem dX8_reaches_191 : decode cX8_reaches 191 = .ok (.bipush 9, 2) := by decide +kernel
theorem dX8_reaches_193 : decode cX8_reaches 193 = .ok (.iload 4, 2) := by decide +kernel
theorem dX8_reaches_195 : decode cX8_reaches 195 = .ok (.iadd, 1) := by decide +kernel
theorem dX8_reaches_196 : decode cX8_reaches 196 = .ok (.putfield 43, 3) := by decide +kernel
theorem dX8_reaches_199 : decode cX8_reaches 199 = .ok (.goto 52, 3) := by decide +kernel
theorem dX8_reaches_202 : decode cX8_reaches 202 = .ok (.aload_n 0, 1) := by decide +kernel
theorem dX8_reaches_203 : decode cX8_reaches 203 = .ok (.getfield 17, 3) := by decide +kernel
theorem dX8_reaches_206 : decode cX8_reaches 206 = .ok (.iload 4, 2) := by decide +kernel
theorem dX8_reaches_208 : decode cX8_reaches 208 = .ok (.aload_n 0, 1) := by decide +kernel
theorem dX8_reaches_209 : decode cX8_reaches 209 = .ok (.getfield 20, 3) := by decide +kernel
theorem dX8_reaches_212 : decode cX8_reaches 212 = .ok (.iload 4, 2) := by decide +kernel
theorem dX8_reaches_214 : decode cX8_reaches 214 = .ok (.iaload, 1) := by decide +kernel
theorem dX8_reaches_215 : decode cX8_reaches 215 = .ok (.iastore, 1) := by decide +kernel
theorem dX8_reaches_216 : decode cX8_reaches 216 = .ok (.aload_n 0, 1) := by decide +kernel
theorem dX8_reaches_217 : decode cX8_reaches 217 = .ok (.iload 4, 2) := by decide +kernel
theorem dX8_reaches_219 : decode cX8_reaches 219 = .ok (.ldc2_w 113, 3) := by decide +kernel
theorem dX8_reaches_222 : decode cX8_reaches 222 = .ok (.invokevirtual 120, 3) := by decide +kernel
theorem dX8_reaches_225 : decode cX8_reaches 225 = .ok (.ifCond .ne 5, 3) := by decide +kernel
theorem dX8_reaches_228 : decode cX8_reaches 228 = .ok (.iconst 5, 1) := by decide +kernel
theorem dX8_reaches_229 : decode cX8_reaches 229 = .ok (.ireturn, 1) := by decide +kernel
theorem dX8_reaches_230 : decode cX8_reaches 230 = .ok (.aload_n 0, 1) := by decide +kernel
theorem dX8_reaches_231 : decode cX8_reaches 231 = .ok (.iconst 0, 1) := by decide +kernel
theorem dX8_reaches_232 : decode cX8_reaches 232 = .ok (.putfield 43, 3) := by decide +kernel
theorem dX8_reaches_235 : decode cX8_reaches 235 = .ok (.goto 16, 3) := by decide +kernel
theorem dX8_reaches_238 : decode cX8_reaches 238 = .ok (.aload_n 0, 1) := by decide +kernel
theorem dX8_reaches_239 : decode cX8_reaches 239 = .ok (.getfield 20, 3) := by decide +kernel
theorem dX8_reaches_242 : decode cX8_reaches 242 = .ok (.iload 4, 2) := by decide +kernel
theorem dX8_reaches_244 : decode cX8_reaches 244 = .ok (.iconst 0, 1) := by decide +kernel
theorem dX8_reaches_245 : decode cX8_reaches 245 = .ok (.iastore, 1) := by decide +kernel
theorem dX8_reaches_246 : decode cX8_reaches 246 = .ok (.aload_n 0, 1) := by decide +kernel
theorem dX8_reaches_247 : decode cX8_reaches 247 = .ok (.iconst 0, 1) := by decide +kernel
theorem dX8_reaches_248 : decode cX8_reaches 248 = .ok (.putfield 43, 3) := by decide +kernel
theorem dX8_reaches_251 : decode cX8_reaches 251 = .ok (.iconst 0, 1) := by decide +kernel
theorem dX8_reaches_252 : decode cX8_reaches 252 = .ok (.ireturn, 1) := by decide +kernel
set_option maxRecDepth 100000 in
theorem ggX8_copies_X8_store : GoodIn wsX8_copies wsX8_store := goodIn_td 40 (goodIn_r _ [14, 15, 16, 17, 18, 19, 20, 21, 13, 22, 43, 44, 45, 46, 47, 48, 49, 50, 51, 52, 53, 54, 55, 56, 57, 58, 59, 60, 61, 62, 63, 64, 65, 66, 67, 68, 69, 70, 71, 72] rfl (by decide +kernel)) (goodIn_r _ [73] rfl (by decide +kernel))
set_option maxRecDepth 100000 in
theorem gX8_copies_X8_store : GoodIn wsX8_copies (wsV RX8 204 RX8 yX8_store wsX8_store) := goodIn_app (goodIn_r _ [10, 11, 12, 13] rfl (by decide +kernel)) ggX8_copies_X8_store
set_option maxRecDepth 100000 in
theorem ggX8_copies_X8_operandBits : GoodIn wsX8_copies wsX8_operandBits := goodIn_r _ [26, 15, 16, 17, 27, 28, 29, 13, 30, 43, 44, 45, 46, 47, 48, 49, 50, 51, 52, 53, 54, 55, 56, 57, 58, 59, 60, 61, 62, 63, 64, 65, 66, 67, 68, 69, 70, 71, 72, 73] rfl (by decide +kernel)
set_option maxRecDepth 100000 in
theorem gX8_copies_X8_operandBits : GoodIn wsX8_copies (wsV RX8 232 RX8 yX8_operandBits wsX8_operandBits) := goodIn_app (goodIn_r _ [23, 24, 25, 13] rfl (by decide +kernel)) ggX8_copies_X8_operandBits
set_option maxRecDepth 100000 in
theorem ggX8_copies_X8_puts : GoodIn wsX8_copies wsX8_puts := goodIn_r _ [34, 5, 7, 6, 43, 44, 45, 46, 47, 48, 49, 50, 51, 52, 53, 54, 55, 56, 57, 58, 59, 60, 61, 62, 63, 64, 65, 66, 67, 68, 69, 70, 71, 72, 73] rfl (by decide +kernel)
set_option maxRecDepth 100000 in
theorem gX8_copies_X8_puts : GoodIn wsX8_copies (wsV RX8 120 RX8 yX8_puts wsX8_puts) := goodIn_app (goodIn_r _ [31, 32, 33, 13] rfl (by decide +kernel)) ggX8_copies_X8_puts
set_option maxRecDepth 100000 in
theorem ggX8_copies_X8_in : GoodIn wsX8_copies wsX8_in := goodIn_r _ [37] rfl (by decide +kernel)
set_option maxRecDepth 100000 in
theorem gX8_copies_X8_in : GoodIn wsX8_copies (va_wsS RX8 49 yX8_in wsX8_in) := goodIn_app (goodIn_r _ [35, 36, 13] rfl (by decide +kernel)) ggX8_copies_X8_in
set_option maxRecDepth 100000 in
theorem ggX8_copies_X8_go : GoodIn wsX8_copies wsX8_go := goodIn_r _ [41, 42, 43, 44, 45, 46, 47, 48, 49, 50, 51, 52, 53, 54, 55, 56, 57, 58, 59, 60, 61, 62, 63, 64, 65, 66, 67, 68, 69, 70, 71, 72, 73] rfl (by decide +kernel)
set_option maxRecDepth 100000 in
theorem gX8_copies_X8_go : GoodIn wsX8_copies (wsV RX8 182 RX8 yX8_go wsX8_go) := goodIn_app (goodIn_r _ [38, 39, 40, 13] rfl (by decide +kernel)) ggX8_copies_X8_go
theorem dX8_copies_0 : decode cX8_copies 0 = .ok (.aload_n 0, 1) := by decide +kernel
theorem dX8_copies_1 : decode cX8_copies 1 = .ok (.getfield 43, 3) := by decide +kernel
theorem dX8_copies_4 : decode cX8_copies 4 = .ok (.ifCond .ne 6, 3) := by decide +kernel
theorem dX8_copies_7 : decode cX8_copies 7 = .ok (.bipush 6, 2) := by decide +kernel
theorem dX8_copies_9 : decode cX8_copies 9 = .ok (.ireturn, 1) := by decide +kernel
theorem dX8_copies_10 : decode cX8_copies 10 = .ok (.aload_n 0, 1) := by decide +kernel
theorem dX8_copies_11 : decode cX8_copies 11 = .ok (.getfield 43, 3) := by decide +kernel
theorem dX8_copies_14 : decode cX8_copies 14 = .ok (.bipush 12, 2) := by decide +kernel
theorem dX8_copies_16 : decode cX8_copies 16 = .ok (.if_icmp .le 57, 3) := by decide +kernel
theorem dX8_copies_19 : decode cX8_copies 19 = .ok (.aload_n 0, 1) := by decide +kernel
theorem dX8_copies_20 : decode cX8_copies 20 = .ok (.getfield 43, 3) := by decide +kernel
theorem dX8_copies_23 : decode cX8_copies 23 = .ok (.bipush 13, 2) := by decide +kernel
theorem dX8_copies_25 : decode cX8_copies 25 = .ok (.if_icmp .ne 19, 3) := by decide +kernel
theorem dX8_copies_28 : decode cX8_copies 28 = .ok (.aload_n 0, 1) := by decide +kernel
theorem dX8_copies_29 : decode cX8_copies 29 = .ok (.aload_n 0, 1) := by decide +kernel
theorem dX8_copies_30 : decode cX8_copies 30 = .ok (.getfield 23, 3) := by decide +kernel
theorem dX8_copies_33 : decode cX8_copies 33 = .ok (.aload_n 0, 1) := by decide +kernel
theorem dX8_copies_34 : decode cX8_copies 34 = .ok (.getfield 84, 3) := by decide +kernel
theorem dX8_copies_37 : decode cX8_copies 37 = .ok (.laload, 1) := by decide +kernel
theorem dX8_copies_38 : decode cX8_copies 38 = .ok (.invokevirtual 204, 3) := by decide +kernel
theorem dX8_copies_41 : decode cX8_copies 41 = .ok (.goto 16, 3) := by decide +kernel
theorem dX8_copies_44 : decode cX8_copies 44 = .ok (.aload_n 0, 1) := by decide +kernel
theorem dX8_copies_45 : decode cX8_copies 45 = .ok (.getfield 23, 3) := by decide +kernel
theorem dX8_copies_48 : decode cX8_copies 48 = .ok (.aload_n 0, 1) := by decide +kernel
theorem dX8_copies_49 : decode cX8_copies 49 = .ok (.getfield 84, 3) := by decide +kernel
theorem dX8_copies_52 : decode cX8_copies 52 = .ok (.aload_n 0, 1) := by decide +kernel
theorem dX8_copies_53 : decode cX8_copies 53 = .ok (.invokevirtual 232, 3) := by decide +kernel
theorem dX8_copies_56 : decode cX8_copies 56 = .ok (.lastore, 1) := by decide +kernel
theorem dX8_copies_57 : decode cX8_copies 57 = .ok (.aload_n 0, 1) := by decide +kernel
theorem dX8_copies_58 : decode cX8_copies 58 = .ok (.aload_n 0, 1) := by decide +kernel
theorem dX8_copies_59 : decode cX8_copies 59 = .ok (.getfield 84, 3) := by decide +kernel
theorem dX8_copies_62 : decode cX8_copies 62 = .ok (.iconst 1, 1) := by decide +kernel
theorem dX8_copies_63 : decode cX8_copies 63 = .ok (.iadd, 1) := by decide +kernel
theorem dX8_copies_64 : decode cX8_copies 64 = .ok (.sipush 255, 3) := by decide +kernel
theorem dX8_copies_67 : decode cX8_copies 67 = .ok (.iand, 1) := by decide +kernel
theorem dX8_copies_68 : decode cX8_copies 68 = .ok (.putfield 84, 3) := by decide +kernel
theorem dX8_copies_71 : decode cX8_copies 71 = .ok (.iconst 0, 1) := by decide +kernel
theorem dX8_copies_72 : decode cX8_copies 72 = .ok (.ireturn, 1) := by decide +kernel
theorem dX8_copies_73 : decode cX8_copies 73 = .ok (.aload_n 0, 1) := by decide +kernel
theorem dX8_copies_74 : decode cX8_copies 74 = .ok (.getfield 43, 3) := by decide +kernel
theorem dX8_copies_77 : decode cX8_copies 77 = .ok (.bipush 8, 2) := by decide +kernel
theorem dX8_copies_79 : decode cX8_copies 79 = .ok (.if_icmp .le 30, 3) := by decide +kernel
theorem dX8_copies_82 : decode cX8_copies 82 = .ok (.aload_n 0, 1) := by decide +kernel
theorem dX8_copies_83 : decode cX8_copies 83 = .ok (.aload_n 0, 1) := by decide +kernel
theorem dX8_copies_84 : decode cX8_copies 84 = .ok (.getfield 43, 3) := by decide +kernel
theorem dX8_copies_87 : decode cX8_copies 87 = .ok (.bipush 9, 2) := by decide +kernel
theorem dX8_copies_89 : decode cX8_copies 89 = .ok (.isub, 1) := by decide +kernel
theorem dX8_copies_90 : decode cX8_copies 90 = .ok (.aload_n 0, 1) := by decide +kernel
theorem dX8_copies_91 : decode cX8_copies 91 = .ok (.invokevirtual 232, 3) := by decide +kernel
theorem dX8_copies_94 : decode cX8_copies 94 = .ok (.invokevirtual 120, 3) := by decide +kernel
theorem dX8_copies_97 : decode cX8_copies 97 = .ok (.ifCond .ne 5, 3) := by decide +kernel
theorem dX8_copies_100 : decode cX8_copies 100 = .ok (.iconst 5, 1) := by decide +kernel
theorem dX8_copies_101 : decode cX8_copies 101 = .ok (.ireturn, 1) := by decide +kernel
theorem dX8_copies_102 : decode cX8_copies 102 = .ok (.aload_n 0, 1) := by decide +kernel
theorem dX8_copies_103 : decode cX8_copies 103 = .ok (.iconst 1, 1) := by decide +kernel
theorem dX8_copies_104 : decode cX8_copies 104 = .ok (.putfield 115, 3) := by decide +kernel
theorem dX8_copies_107 : decode cX8_copies 107 = .ok (.iconst 0, 1) := by decide +kernel
theorem dX8_copies_108 : decode cX8_copies 108 = .ok (.ireturn, 1) := by decide +kernel
theorem dX8_copies_109 : decode cX8_copies 109 = .ok (.aload_n 0, 1) := by decide +kernel
theorem dX8_copies_110 : decode cX8_copies 110 = .ok (.getfield 43, 3) := by decide +kernel
theorem dX8_copies_113 : decode cX8_copies 113 = .ok (.iconst 4, 1) := by decide +kernel
theorem dX8_copies_114 : decode cX8_copies 114 = .ok (.if_icmp .le 7, 3) := by decide +kernel
theorem dX8_copies_117 : decode cX8_copies 117 = .ok (.iconst 1, 1) := by decide +kernel
theorem dX8_copies_118 : decode cX8_copies 118 = .ok (.goto 4, 3) := by decide +kernel
theorem dX8_copies_121 : decode cX8_copies 121 = .ok (.iconst 0, 1) := by decide +kernel
theorem dX8_copies_122 : decode cX8_copies 122 = .ok (.istore_n 1, 1) := by decide +kernel
theorem dX8_copies_123 : decode cX8_copies 123 = .ok (.iload_n 1, 1) := by decide +kernel
theorem dX8_copies_124 : decode cX8_copies 124 = .ok (.ifCond .eq 12, 3) := by decide +kernel
theorem dX8_copies_127 : decode cX8_copies 127 = .ok (.aload_n 0, 1) := by decide +kernel
theorem dX8_copies_128 : decode cX8_copies 128 = .ok (.getfield 43, 3) := by decide +kernel
theorem dX8_copies_131 : decode cX8_copies 131 = .ok (.iconst 5, 1) := by decide +kernel
theorem dX8_copies_132 : decode cX8_copies 132 = .ok (.isub, 1) := by decide +kernel
theorem dX8_copies_133 : decode cX8_copies 133 = .ok (.goto 9, 3) := by decide +kernel
theorem dX8_copies_136 : decode cX8_copies 136 = .ok (.aload_n 0, 1) := by decide +kernel
theorem dX8_copies_137 : decode cX8_copies 137 = .ok (.getfield 43, 3) := by decide +kernel
theorem dX8_copies_140 : decode cX8_copies 140 = .ok (.iconst 1, 1) := by decide +kernel
theorem dX8_copies_141 : decode cX8_copies 141 = .ok (.isub, 1) := by decide +kernel
theorem dX8_copies_142 : decode cX8_copies 142 = .ok (.istore_n 2, 1) := by decide +kernel
theorem dX8_copies_143 : decode cX8_copies 143 = .ok (.iload_n 1, 1) := by decide +kernel
theorem dX8_copies_144 : decode cX8_copies 144 = .ok (.ifCond .eq 14, 3) := by decide +kernel
theorem dX8_copies_147 : decode cX8_copies 147 = .ok (.aload_n 0, 1) := by decide +kernel
theorem dX8_copies_148 : decode cX8_copies 148 = .ok (.getfield 20, 3) := by decide +kernel
theorem dX8_copies_151 : decode cX8_copies 151 = .ok (.iload_n 2, 1) := by decide +kernel
theorem dX8_copies_152 : decode cX8_copies 152 = .ok (.iaload, 1) := by decide +kernel
theorem dX8_copies_153 : decode cX8_copies 153 = .ok (.iconst 1, 1) := by decide +kernel
theorem dX8_copies_154 : decode cX8_copies 154 = .ok (.isub, 1) := by decide +kernel
theorem dX8_copies_155 : decode cX8_copies 155 = .ok (.goto 9, 3) := by decide +kernel
theorem dX8_copies_158 : decode cX8_copies 158 = .ok (.aload_n 0, 1) := by decide +kernel
theorem dX8_copies_159 : decode cX8_copies 159 = .ok (.getfield 20, 3) := by decide +kernel
theorem dX8_copies_162 : decode cX8_copies 162 = .ok (.iload_n 2, 1) := by decide +kernel
theorem dX8_copies_163 : decode cX8_copies 163 = .ok (.iaload, 1) := by decide +kernel
theorem dX8_copies_164 : decode cX8_copies 164 = .ok (.istore_n 3, 1) := by decide +kernel
theorem dX8_copies_165 : decode cX8_copies 165 = .ok (.iload_n 3, 1) := by decide +kernel
theorem dX8_copies_166 : decode cX8_copies 166 = .ok (.i2l, 1) := by decide +kernel
theorem dX8_copies_167 : decode cX8_copies 167 = .ok (.lconst 0, 1) := by decide +kernel
theorem dX8_copies_168 : decode cX8_copies 168 = .ok (.aload_n 0, 1) := by decide +kernel
theorem dX8_copies_169 : decode cX8_copies 169 = .ok (.getfield 17, 3) := by decide +kernel
theorem dX8_copies_172 : decode cX8_copies 172 = .ok (.iload_n 2, 1) := by decide +kernel
theorem dX8_copies_173 : decode cX8_copies 173 = .ok (.iaload, 1) := by decide +kernel
theorem dX8_copies_174 : decode cX8_copies 174 = .ok (.iconst 1, 1) := by decide +kernel
theorem dX8_copies_175 : decode cX8_copies 175 = .ok (.isub, 1) := by decide +kernel
theorem dX8_copies_176 : decode cX8_copies 176 = .ok (.i2l, 1) := by decide +kernel
theorem dX8_copies_177 : decode cX8_copies 177 = .ok (.invokestatic 49, 3) := by decide +kernel
theorem dX8_copies_180 : decode cX8_copies 180 = .ok (.ifCond .eq 18, 3) := by decide +kernel
theorem dX8_copies_183 : decode cX8_copies 183 = .ok (.aload_n 0, 1) := by decide +kernel
theorem dX8_copies_184 : decode cX8_copies 184 = .ok (.getfield 13, 3) := by decide +kernel
theorem dX8_copies_187 : decode cX8_copies 187 = .ok (.sipush 300, 3) := by decide +kernel
theorem dX8_copies_190 : decode cX8_copies 190 = .ok (.iload_n 2, 1) := by decide +kernel
theorem dX8_copies_191 : decode cX8_copies 191 = .ok (.imul, 1) := by decide +kernel
theorem dX8_copies_192 : decode cX8_copies 192 = .ok (.iload_n 3, 1) := by decide +kernel
theorem dX8_copies_193 : decode cX8_copies 193 = .ok (.iadd, 1) := by decide +kernel
theorem dX8_copies_194 : decode cX8_copies 194 = .ok (.laload, 1) := by decide +kernel
theorem dX8_copies_195 : decode cX8_copies 195 = .ok (.goto 6, 3) := by decide +kernel
theorem dX8_copies_198 : decode cX8_copies 198 = .ok (.ldc2_w 107, 3) := by decide +kernel
theorem dX8_copies_201 : decode cX8_copies 201 = .ok (.lstore 4, 2) := by decide +kernel
theorem dX8_copies_203 : decode cX8_copies 203 = .ok (.lload 4, 2) := by decide +kernel
theorem dX8_copies_205 : decode cX8_copies 205 = .ok (.ldc2_w 107, 3) := by decide +kernel
theorem dX8_copies_208 : decode cX8_copies 208 = .ok (.lcmp, 1) := by decide +kernel
theorem dX8_copies_209 : decode cX8_copies 209 = .ok (.ifCond .eq 21, 3) := by decide +kernel
theorem dX8_copies_212 : decode cX8_copies 212 = .ok (.aload_n 0, 1) := by decide +kernel
theorem dX8_copies_213 : decode cX8_copies 213 = .ok (.getfield 20, 3) := by decide +kernel
theorem dX8_copies_216 : decode cX8_copies 216 = .ok (.iload_n 2, 1) := by decide +kernel
theorem dX8_copies_217 : decode cX8_copies 217 = .ok (.dup2, 1) := by decide +kernel
theorem dX8_copies_218 : decode cX8_copies 218 = .ok (.iaload, 1) := by decide +kernel
theorem dX8_copies_219 : decode cX8_copies 219 = .ok (.iload_n 1, 1) := by decide +kernel
theorem dX8_copies_220 : decode cX8_copies 220 = .ok (.ifCond .eq 7, 3) := by decide +kernel
theorem dX8_copies_223 : decode cX8_copies 223 = .ok (.iconst (-1), 1) := by decide +kernel
theorem dX8_copies_224 : decode cX8_copies 224 = .ok (.goto 4, 3) := by decide +kernel
theorem dX8_copies_227 : decode cX8_copies 227 = .ok (.iconst 1, 1) := by decide +kernel
theorem dX8_copies_228 : decode cX8_copies 228 = .ok (.iadd, 1) := by decide +kernel
theorem dX8_copies_229 : decode cX8_copies 229 = .ok (.iastore, 1) := by decide +kernel
theorem dX8_copies_230 : decode cX8_copies 230 = .ok (.lload 4, 2) := by decide +kernel
theorem dX8_copies_232 : decode cX8_copies 232 = .ok (.lconst 0, 1) := by decide +kernel
theorem dX8_copies_233 : decode cX8_copies 233 = .ok (.lcmp, 1) := by decide +kernel
theorem dX8_copies_234 : decode cX8_copies 234 = .ok (.ifCond .lt 12, 3) := by decide +kernel
theorem dX8_copies_237 : decode cX8_copies 237 = .ok (.aload_n 0, 1) := by decide +kernel
theorem dX8_copies_238 : decode cX8_copies 238 = .ok (.lload 4, 2) := by decide +kernel
theorem dX8_copies_240 : decode cX8_copies 240 = .ok (.invokevirtual 204, 3) := by decide +kernel
theorem dX8_copies_243 : decode cX8_copies 243 = .ok (.goto 26, 3) := by decide +kernel
theorem dX8_copies_246 : decode cX8_copies 246 = .ok (.aload_n 0, 1) := by decide +kernel
theorem dX8_copies_247 : decode cX8_copies 247 = .ok (.iconst 0, 1) := by decide +kernel
theorem dX8_copies_248 : decode cX8_copies 248 = .ok (.putfield 43, 3) := by decide +kernel
theorem dX8_copies_251 : decode cX8_copies 251 = .ok (.aload_n 0, 1) := by decide +kernel
theorem dX8_copies_252 : decode cX8_copies 252 = .ok (.lload 4, 2) := by decide +kernel
theorem dX8_copies_254 : decode cX8_copies 254 = .ok (.ldc2_w 111, 3) := by decide +kernel
theorem dX8_copies_257 : decode cX8_copies 257 = .ok (.lcmp, 1) := by decide +kernel
theorem dX8_copies_258 : decode cX8_copies 258 = .ok (.ifCond .ne 7, 3) := by decide +kernel
theorem dX8_copies_261 : decode cX8_copies 261 = .ok (.iconst 2, 1) := by decide +kernel
theorem dX8_copies_262 : decode cX8_copies 262 = .ok (.goto 4, 3) := by decide +kernel
theorem dX8_copies_265 : decode cX8_copies 265 = .ok (.iconst 1, 1) := by decide +kernel
theorem dX8_copies_266 : decode cX8_copies 266 = .ok (.invokevirtual 182, 3) := by decide +kernel
theorem dX8_copies_269 : decode cX8_copies 269 = .ok (.iconst 0, 1) := by decide +kernel
theorem dX8_copies_270 : decode cX8_copies 270 = .ok (.ireturn, 1) := by decide +kernel
set_option maxRecDepth 100000 in
theorem ggX8_run_X8_in : GoodIn wsX8_run wsX8_in := goodIn_r _ [6] rfl (by decide +kernel)
set_option maxRecDepth 100000 in
theorem gX8_run_X8_in : GoodIn wsX8_run (va_wsS RX8 49 yX8_in wsX8_in) := goodIn_app (goodIn_r _ [3, 4, 5] rfl (by decide +kernel)) ggX8_run_X8_in
set_option maxRecDepth 100000 in
theorem ggX8_run_X8_act : GoodIn wsX8_run wsX8_act := goodIn_td 40 (goodIn_r _ [10, 11, 12, 13, 14, 15, 16, 17, 18, 19, 20, 5, 21, 22, 23, 24, 25, 3, 4, 6, 26, 27, 28, 29, 30, 31, 2, 32, 33, 34, 35, 36, 37, 38, 39, 40, 41, 42, 43, 44] rfl (by decide +kernel)) (goodIn_td 40 (goodIn_r _ [45, 46, 47, 48, 49, 50, 51, 52, 53, 54, 55, 56, 57, 58, 59, 60, 61, 62, 63, 64, 65, 66, 67, 68, 69, 70, 71, 72, 73, 74, 75, 76, 77, 78, 79, 80, 81, 82, 83, 84] rfl (by decide +kernel)) (goodIn_td 40 (goodIn_r _ [85, 86, 87, 88, 89, 90, 91, 92, 93, 94, 95, 96, 97, 98, 99, 100, 101, 102, 103, 104, 105, 106, 107, 108, 109, 110, 111, 112, 113, 114, 115, 116, 117, 118, 119, 120, 121, 122, 123, 124] rfl (by decide +kernel)) (goodIn_td 40 (goodIn_r _ [125, 126, 127, 128, 129, 130, 131, 132, 133, 134, 135, 136, 137, 138, 139, 140, 141, 142, 143, 144, 145, 146, 147, 148, 149, 150, 151, 152, 153, 154, 155, 156, 157, 158, 159, 160, 161, 162, 163, 164] rfl (by decide +kernel)) (goodIn_r _ [165, 166, 167, 168, 169, 170, 171, 172, 173] rfl (by decide +kernel)))))
set_option maxRecDepth 100000 in
theorem gX8_run_X8_act : GoodIn wsX8_run (wsV RX8 238 RX8 yX8_act wsX8_act) := goodIn_app (goodIn_r _ [7, 8, 9, 5] rfl (by decide +kernel)) ggX8_run_X8_act
theorem dX8_run_0 : decode cX8_run 0 = .ok (.iload_n 1, 1) := by decide +kernel
theorem dX8_run_1 : decode cX8_run 1 = .ok (.i2l, 1) := by decide +kernel
theorem dX8_run_2 : decode cX8_run 2 = .ok (.lconst 0, 1) := by decide +kernel
theorem dX8_run_3 : decode cX8_run 3 = .ok (.ldc2_w 236, 3) := by decide +kernel
theorem dX8_run_6 : decode cX8_run 6 = .ok (.invokestatic 49, 3) := by decide +kernel
theorem dX8_run_9 : decode cX8_run 9 = .ok (.ifCond .ne 5, 3) := by decide +kernel
theorem dX8_run_12 : decode cX8_run 12 = .ok (.iconst (-1), 1) := by decide +kernel
theorem dX8_run_13 : decode cX8_run 13 = .ok (.ireturn, 1) := by decide +kernel
theorem dX8_run_14 : decode cX8_run 14 = .ok (.aload_n 0, 1) := by decide +kernel
theorem dX8_run_15 : decode cX8_run 15 = .ok (.iconst 0, 1) := by decide +kernel
theorem dX8_run_16 : decode cX8_run 16 = .ok (.putfield 87, 3) := by decide +kernel
theorem dX8_run_19 : decode cX8_run 19 = .ok (.iconst 0, 1) := by decide +kernel
theorem dX8_run_20 : decode cX8_run 20 = .ok (.istore_n 2, 1) := by decide +kernel
theorem dX8_run_21 : decode cX8_run 21 = .ok (.iload_n 2, 1) := by decide +kernel
theorem dX8_run_22 : decode cX8_run 22 = .ok (.iload_n 1, 1) := by decide +kernel
theorem dX8_run_23 : decode cX8_run 23 = .ok (.if_icmp .ge 21, 3) := by decide +kernel
theorem dX8_run_26 : decode cX8_run 26 = .ok (.aload_n 0, 1) := by decide +kernel
theorem dX8_run_27 : decode cX8_run 27 = .ok (.getfield 87, 3) := by decide +kernel
theorem dX8_run_30 : decode cX8_run 30 = .ok (.ifCond .ne 14, 3) := by decide +kernel
theorem dX8_run_33 : decode cX8_run 33 = .ok (.aload_n 0, 1) := by decide +kernel
theorem dX8_run_34 : decode cX8_run 34 = .ok (.invokevirtual 238, 3) := by decide +kernel
theorem dX8_run_37 : decode cX8_run 37 = .ok (.istore_n 3, 1) := by decide +kernel
theorem dX8_run_38 : decode cX8_run 38 = .ok (.iinc 2 1, 3) := by decide +kernel
theorem dX8_run_41 : decode cX8_run 41 = .ok (.goto (-20), 3) := by decide +kernel
theorem dX8_run_44 : decode cX8_run 44 = .ok (.iload_n 2, 1) := by decide +kernel
theorem dX8_run_45 : decode cX8_run 45 = .ok (.ireturn, 1) := by decide +kernel
set_option maxRecDepth 100000 in
theorem ggX8_step_X8_act : GoodIn wsX8_step wsX8_act := goodIn_td 40 (goodIn_r _ [6, 7, 8, 9, 10, 11, 12, 13, 14, 15, 16, 5, 17, 18, 19, 20, 21, 22, 23, 24, 25, 26, 27, 28, 29, 30, 1, 31, 32, 33, 34, 35, 36, 37, 38, 39, 40, 41, 42, 43] rfl (by decide +kernel)) (goodIn_td 40 (goodIn_r _ [44, 45, 46, 47, 48, 49, 50, 51, 52, 53, 54, 55, 56, 57, 58, 59, 60, 61, 62, 63, 64, 65, 66, 67, 68, 69, 70, 71, 72, 73, 74, 75, 76, 77, 78, 79, 80, 81, 82, 83] rfl (by decide +kernel)) (goodIn_td 40 (goodIn_r _ [84, 85, 86, 87, 88, 89, 90, 91, 92, 93, 94, 95, 96, 97, 98, 99, 100, 101, 102, 103, 104, 105, 106, 107, 108, 109, 110, 111, 112, 113, 114, 115, 116, 117, 118, 119, 120, 121, 122, 123] rfl (by decide +kernel)) (goodIn_td 40 (goodIn_r _ [124, 125, 126, 127, 128, 129, 130, 131, 132, 133, 134, 135, 136, 137, 138, 139, 140, 141, 142, 143, 144, 145, 146, 147, 148, 149, 150, 151, 152, 153, 154, 155, 156, 157, 158, 159, 160, 161, 162, 163] rfl (by decide +kernel)) (goodIn_r _ [164, 165, 166, 167, 168, 169, 170, 171, 172] rfl (by decide +kernel)))))
set_option maxRecDepth 100000 in
theorem gX8_step_X8_act : GoodIn wsX8_step (wsV RX8 238 RX8 yX8_act wsX8_act) := goodIn_app (goodIn_r _ [2, 3, 4, 5] rfl (by decide +kernel)) ggX8_step_X8_act
theorem dX8_step_0 : decode cX8_step 0 = .ok (.aload_n 0, 1) := by decide +kernel
theorem dX8_step_1 : decode cX8_step 1 = .ok (.iconst 0, 1) := by decide +kernel
theorem dX8_step_2 : decode cX8_step 2 = .ok (.putfield 87, 3) := by decide +kernel
theorem dX8_step_5 : decode cX8_step 5 = .ok (.aload_n 0, 1) := by decide +kernel
theorem dX8_step_6 : decode cX8_step 6 = .ok (.invokevirtual 238, 3) := by decide +kernel
theorem dX8_step_9 : decode cX8_step 9 = .ok (.ireturn, 1) := by decide +kernel
theorem dX8_acts_0 : decode cX8_acts 0 = .ok (.aload_n 0, 1) := by decide +kernel
theorem dX8_acts_1 : decode cX8_acts 1 = .ok (.getfield 158, 3) := by decide +kernel
theorem dX8_acts_4 : decode cX8_acts 4 = .ok (.lreturn, 1) := by decide +kernel
set_option maxRecDepth 100000 in
theorem ggX8_feed_X8_in : GoodIn wsX8_feed wsX8_in := goodIn_r _ [7] rfl (by decide +kernel)
set_option maxRecDepth 100000 in
theorem gX8_feed_X8_in : GoodIn wsX8_feed (va_wsS RX8 49 yX8_in wsX8_in) := goodIn_app (goodIn_r _ [4, 5, 6] rfl (by decide +kernel)) ggX8_feed_X8_in
theorem dX8_feed_0 : decode cX8_feed 0 = .ok (.iload_n 3, 1) := by decide +kernel
theorem dX8_feed_1 : decode cX8_feed 1 = .ok (.i2l, 1) := by decide +kernel
theorem dX8_feed_2 : decode cX8_feed 2 = .ok (.lconst 1, 1) := by decide +kernel
theorem dX8_feed_3 : decode cX8_feed 3 = .ok (.ldc2_w 241, 3) := by decide +kernel
theorem dX8_feed_6 : decode cX8_feed 6 = .ok (.invokestatic 49, 3) := by decide +kernel
theorem dX8_feed_9 : decode cX8_feed 9 = .ok (.ifCond .ne 5, 3) := by decide +kernel
theorem dX8_feed_12 : decode cX8_feed 12 = .ok (.iconst (-1), 1) := by decide +kernel
theorem dX8_feed_13 : decode cX8_feed 13 = .ok (.ireturn, 1) := by decide +kernel
theorem dX8_feed_14 : decode cX8_feed 14 = .ok (.aload_n 0, 1) := by decide +kernel
theorem dX8_feed_15 : decode cX8_feed 15 = .ok (.getfield 243, 3) := by decide +kernel
theorem dX8_feed_18 : decode cX8_feed 18 = .ok (.iload_n 3, 1) := by decide +kernel
theorem dX8_feed_19 : decode cX8_feed 19 = .ok (.iadd, 1) := by decide +kernel
theorem dX8_feed_20 : decode cX8_feed 20 = .ok (.sipush 2000, 3) := by decide +kernel
theorem dX8_feed_23 : decode cX8_feed 23 = .ok (.if_icmp .le 6, 3) := by decide +kernel
theorem dX8_feed_26 : decode cX8_feed 26 = .ok (.bipush (-2), 2) := by decide +kernel
theorem dX8_feed_28 : decode cX8_feed 28 = .ok (.ireturn, 1) := by decide +kernel
theorem dX8_feed_29 : decode cX8_feed 29 = .ok (.iconst 0, 1) := by decide +kernel
theorem dX8_feed_30 : decode cX8_feed 30 = .ok (.istore 4, 2) := by decide +kernel
theorem dX8_feed_32 : decode cX8_feed 32 = .ok (.iload 4, 2) := by decide +kernel
theorem dX8_feed_34 : decode cX8_feed 34 = .ok (.iload_n 3, 1) := by decide +kernel
theorem dX8_feed_35 : decode cX8_feed 35 = .ok (.if_icmp .ge 37, 3) := by decide +kernel
theorem dX8_feed_38 : decode cX8_feed 38 = .ok (.aload_n 0, 1) := by decide +kernel
theorem dX8_feed_39 : decode cX8_feed 39 = .ok (.getfield 26, 3) := by decide +kernel
theorem dX8_feed_42 : decode cX8_feed 42 = .ok (.aload_n 0, 1) := by decide +kernel
theorem dX8_feed_43 : decode cX8_feed 43 = .ok (.getfield 243, 3) := by decide +kernel
theorem dX8_feed_46 : decode cX8_feed 46 = .ok (.lload_n 1, 1) := by decide +kernel
theorem dX8_feed_47 : decode cX8_feed 47 = .ok (.bipush 8, 2) := by decide +kernel
theorem dX8_feed_49 : decode cX8_feed 49 = .ok (.iload 4, 2) := by decide +kernel
theorem dX8_feed_51 : decode cX8_feed 51 = .ok (.imul, 1) := by decide +kernel
theorem dX8_feed_52 : decode cX8_feed 52 = .ok (.lshr, 1) := by decide +kernel
theorem dX8_feed_53 : decode cX8_feed 53 = .ok (.l2i, 1) := by decide +kernel
theorem dX8_feed_54 : decode cX8_feed 54 = .ok (.i2b, 1) := by decide +kernel
theorem dX8_feed_55 : decode cX8_feed 55 = .ok (.bastore, 1) := by decide +kernel
theorem dX8_feed_56 : decode cX8_feed 56 = .ok (.aload_n 0, 1) := by decide +kernel
theorem dX8_feed_57 : decode cX8_feed 57 = .ok (.dup, 1) := by decide +kernel
theorem dX8_feed_58 : decode cX8_feed 58 = .ok (.getfield 243, 3) := by decide +kernel
theorem dX8_feed_61 : decode cX8_feed 61 = .ok (.iconst 1, 1) := by decide +kernel
theorem dX8_feed_62 : decode cX8_feed 62 = .ok (.iadd, 1) := by decide +kernel
theorem dX8_feed_63 : decode cX8_feed 63 = .ok (.putfield 243, 3) := by decide +kernel
theorem dX8_feed_66 : decode cX8_feed 66 = .ok (.iinc 4 1, 3) := by decide +kernel
theorem dX8_feed_69 : decode cX8_feed 69 = .ok (.goto (-37), 3) := by decide +kernel
theorem dX8_feed_72 : decode cX8_feed 72 = .ok (.aload_n 0, 1) := by decide +kernel
theorem dX8_feed_73 : decode cX8_feed 73 = .ok (.getfield 243, 3) := by decide +kernel
theorem dX8_feed_76 : decode cX8_feed 76 = .ok (.ireturn, 1) := by decide +kernel
theorem dX8_here_0 : decode cX8_here 0 = .ok (.aload_n 0, 1) := by decide +kernel
theorem dX8_here_1 : decode cX8_here 1 = .ok (.getfield 246, 3) := by decide +kernel
theorem dX8_here_4 : decode cX8_here 4 = .ok (.aload_n 0, 1) := by decide +kernel
theorem dX8_here_5 : decode cX8_here 5 = .ok (.getfield 243, 3) := by decide +kernel
theorem dX8_here_8 : decode cX8_here 8 = .ok (.if_icmp .ge 19, 3) := by decide +kernel
theorem dX8_here_11 : decode cX8_here 11 = .ok (.aload_n 0, 1) := by decide +kernel
theorem dX8_here_12 : decode cX8_here 12 = .ok (.getfield 26, 3) := by decide +kernel
theorem dX8_here_15 : decode cX8_here 15 = .ok (.aload_n 0, 1) := by decide +kernel
theorem dX8_here_16 : decode cX8_here 16 = .ok (.getfield 246, 3) := by decide +kernel
theorem dX8_here_19 : decode cX8_here 19 = .ok (.baload, 1) := by decide +kernel
theorem dX8_here_20 : decode cX8_here 20 = .ok (.sipush 255, 3) := by decide +kernel
theorem dX8_here_23 : decode cX8_here 23 = .ok (.iand, 1) := by decide +kernel
theorem dX8_here_24 : decode cX8_here 24 = .ok (.goto 4, 3) := by decide +kernel
theorem dX8_here_27 : decode cX8_here 27 = .ok (.iconst (-1), 1) := by decide +kernel
theorem dX8_here_28 : decode cX8_here 28 = .ok (.ireturn, 1) := by decide +kernel
set_option maxRecDepth 100000 in
theorem ggX8_isFigure_X8_here : GoodIn wsX8_isFigure wsX8_here := goodIn_r _ [7, 8, 9, 10, 14, 15, 16, 17, 18, 19, 20, 21, 22, 23, 24, 25, 26, 27, 28, 29, 30, 31, 32, 33, 34, 35, 36, 37, 38, 39, 40, 41, 42, 43, 44] rfl (by decide +kernel)
set_option maxRecDepth 100000 in
theorem gX8_isFigure_X8_here : GoodIn wsX8_isFigure (wsV RX8 249 RX8 yX8_here wsX8_here) := goodIn_app (goodIn_r _ [3, 4, 5, 6] rfl (by decide +kernel)) ggX8_isFigure_X8_here
set_option maxRecDepth 100000 in
theorem ggX8_isFigure_X8_in : GoodIn wsX8_isFigure wsX8_in := goodIn_r _ [13] rfl (by decide +kernel)
set_option maxRecDepth 100000 in
theorem gX8_isFigure_X8_in : GoodIn wsX8_isFigure (va_wsS RX8 49 yX8_in wsX8_in) := goodIn_app (goodIn_r _ [11, 12, 6] rfl (by decide +kernel)) ggX8_isFigure_X8_in
theorem dX8_isFigure_0 : decode cX8_isFigure 0 = .ok (.aload_n 0, 1) := by decide +kernel
theorem dX8_isFigure_1 : decode cX8_isFigure 1 = .ok (.invokevirtual 249, 3) := by decide +kernel
theorem dX8_isFigure_4 : decode cX8_isFigure 4 = .ok (.i2l, 1) := by decide +kernel
theorem dX8_isFigure_5 : decode cX8_isFigure 5 = .ok (.ldc2_w 252, 3) := by decide +kernel
theorem dX8_isFigure_8 : decode cX8_isFigure 8 = .ok (.ldc2_w 254, 3) := by decide +kernel
theorem dX8_isFigure_11 : decode cX8_isFigure 11 = .ok (.invokestatic 49, 3) := by decide +kernel
theorem dX8_isFigure_14 : decode cX8_isFigure 14 = .ok (.ireturn, 1) := by decide +kernel
set_option maxRecDepth 100000 in
theorem ggX8_figures_X8_isFigure : GoodIn wsX8_figures wsX8_isFigure := goodIn_td 40 (goodIn_r _ [9, 4, 10, 11, 12, 13, 8, 14, 1, 15, 16, 17, 18, 19, 20, 21, 22, 23, 24, 25, 26, 27, 28, 29, 30, 31, 32, 33, 34, 35, 36, 37, 38, 39, 40, 41, 42, 43, 44, 45] rfl (by decide +kernel)) (goodIn_r _ [46, 47, 48, 49, 50] rfl (by decide +kernel))
set_option maxRecDepth 100000 in
theorem gX8_figures_X8_isFigure : GoodIn wsX8_figures (wsV RX8 256 RX8 yX8_isFigure wsX8_isFigure) := goodIn_app (goodIn_r _ [5, 6, 7, 8] rfl (by decide +kernel)) ggX8_figures_X8_isFigure
set_option maxRecDepth 100000 in
theorem ggX8_figures_X8_here : GoodIn wsX8_figures wsX8_here := goodIn_r _ [14, 1, 15, 16, 20, 21, 22, 23, 24, 25, 26, 27, 28, 29, 30, 31, 32, 33, 34, 35, 36, 37, 38, 39, 40, 41, 42, 43, 44, 45, 46, 47, 48, 49, 50] rfl (by decide +kernel)
set_option maxRecDepth 100000 in
theorem gX8_figures_X8_here : GoodIn wsX8_figures (wsV RX8 249 RX8 yX8_here wsX8_here) := goodIn_app (goodIn_r _ [11, 12, 13, 8] rfl (by decide +kernel)) ggX8_figures_X8_here
theorem dX8_figures_0 : decode cX8_figures 0 = .ok (.aload_n 0, 1) := by decide +kernel
theorem dX8_figures_1 : decode cX8_figures 1 = .ok (.getfield 246, 3) := by decide +kernel
theorem dX8_figures_4 : decode cX8_figures 4 = .ok (.istore 4, 2) := by decide +kernel
theorem dX8_figures_6 : decode cX8_figures 6 = .ok (.aload_n 0, 1) := by decide +kernel
theorem dX8_figures_7 : decode cX8_figures 7 = .ok (.invokevirtual 256, 3) := by decide +kernel
theorem dX8_figures_10 : decode cX8_figures 10 = .ok (.ifCond .ne 13, 3) := by decide +kernel
theorem dX8_figures_13 : decode cX8_figures 13 = .ok (.aload_n 0, 1) := by decide +kernel
theorem dX8_figures_14 : decode cX8_figures 14 = .ok (.aload_n 0, 1) := by decide +kernel
theorem dX8_figures_15 : decode cX8_figures 15 = .ok (.getfield 246, 3) := by decide +kernel
theorem dX8_figures_18 : decode cX8_figures 18 = .ok (.putfield 259, 3) := by decide +kernel
theorem dX8_figures_21 : decode cX8_figures 21 = .ok (.lconst 0, 1) := by decide +kernel
theorem dX8_figures_22 : decode cX8_figures 22 = .ok (.lreturn, 1) := by decide +kernel
theorem dX8_figures_23 : decode cX8_figures 23 = .ok (.lconst 0, 1) := by decide +kernel
theorem dX8_figures_24 : decode cX8_figures 24 = .ok (.lstore 5, 2) := by decide +kernel
theorem dX8_figures_26 : decode cX8_figures 26 = .ok (.aload_n 0, 1) := by decide +kernel
theorem dX8_figures_27 : decode cX8_figures 27 = .ok (.getfield 246, 3) := by decide +kernel
theorem dX8_figures_30 : decode cX8_figures 30 = .ok (.iload 4, 2) := by decide +kernel
theorem dX8_figures_32 : decode cX8_figures 32 = .ok (.iload_n 1, 1) := by decide +kernel
theorem dX8_figures_33 : decode cX8_figures 33 = .ok (.iadd, 1) := by decide +kernel
theorem dX8_figures_34 : decode cX8_figures 34 = .ok (.if_icmp .ge 41, 3) := by decide +kernel
theorem dX8_figures_37 : decode cX8_figures 37 = .ok (.aload_n 0, 1) := by decide +kernel
theorem dX8_figures_38 : decode cX8_figures 38 = .ok (.invokevirtual 256, 3) := by decide +kernel
theorem dX8_figures_41 : decode cX8_figures 41 = .ok (.ifCond .eq 34, 3) := by decide +kernel
theorem dX8_figures_44 : decode cX8_figures 44 = .ok (.ldc2_w 262, 3) := by decide +kernel
theorem dX8_figures_47 : decode cX8_figures 47 = .ok (.lload 5, 2) := by decide +kernel
theorem dX8_figures_49 : decode cX8_figures 49 = .ok (.lmul, 1) := by decide +kernel
theorem dX8_figures_50 : decode cX8_figures 50 = .ok (.aload_n 0, 1) := by decide +kernel
theorem dX8_figures_51 : decode cX8_figures 51 = .ok (.invokevirtual 249, 3) := by decide +kernel
theorem dX8_figures_54 : decode cX8_figures 54 = .ok (.i2l, 1) := by decide +kernel
theorem dX8_figures_55 : decode cX8_figures 55 = .ok (.ladd, 1) := by decide +kernel
theorem dX8_figures_56 : decode cX8_figures 56 = .ok (.ldc2_w 252, 3) := by decide +kernel
theorem dX8_figures_59 : decode cX8_figures 59 = .ok (.lsub, 1) := by decide +kernel
theorem dX8_figures_60 : decode cX8_figures 60 = .ok (.lstore 5, 2) := by decide +kernel
theorem dX8_figures_62 : decode cX8_figures 62 = .ok (.aload_n 0, 1) := by decide +kernel
theorem dX8_figures_63 : decode cX8_figures 63 = .ok (.dup, 1) := by decide +kernel
theorem dX8_figures_64 : decode cX8_figures 64 = .ok (.getfield 246, 3) := by decide +kernel
theorem dX8_figures_67 : decode cX8_figures 67 = .ok (.iconst 1, 1) := by decide +kernel
theorem dX8_figures_68 : decode cX8_figures 68 = .ok (.iadd, 1) := by decide +kernel
theorem dX8_figures_69 : decode cX8_figures 69 = .ok (.putfield 246, 3) := by decide +kernel
theorem dX8_figures_72 : decode cX8_figures 72 = .ok (.goto (-46), 3) := by decide +kernel
theorem dX8_figures_75 : decode cX8_figures 75 = .ok (.lload 5, 2) := by decide +kernel
theorem dX8_figures_77 : decode cX8_figures 77 = .ok (.lload_n 2, 1) := by decide +kernel
theorem dX8_figures_78 : decode cX8_figures 78 = .ok (.lcmp, 1) := by decide +kernel
theorem dX8_figures_79 : decode cX8_figures 79 = .ok (.ifCond .lt 9, 3) := by decide +kernel
theorem dX8_figures_82 : decode cX8_figures 82 = .ok (.aload_n 0, 1) := by decide +kernel
theorem dX8_figures_83 : decode cX8_figures 83 = .ok (.iload 4, 2) := by decide +kernel
theorem dX8_figures_85 : decode cX8_figures 85 = .ok (.putfield 259, 3) := by decide +kernel
theorem dX8_figures_88 : decode cX8_figures 88 = .ok (.lload 5, 2) := by decide +kernel
theorem dX8_figures_90 : decode cX8_figures 90 = .ok (.lreturn, 1) := by decide +kernel
set_option maxRecDepth 100000 in
theorem ggX8_sign_X8_here : GoodIn wsX8_sign wsX8_here := goodIn_r _ [7, 1, 8, 9, 10, 11, 12, 13, 14, 15, 16, 17, 18, 19, 20, 21, 22, 23, 24, 25, 26, 27, 28, 29, 30, 31, 32, 33, 34, 35, 36, 37, 38, 39, 40] rfl (by decide +kernel)
set_option maxRecDepth 100000 in
theorem gX8_sign_X8_here : GoodIn wsX8_sign (wsV RX8 249 RX8 yX8_here wsX8_here) := goodIn_app (goodIn_r _ [3, 4, 5, 6] rfl (by decide +kernel)) ggX8_sign_X8_here
theorem dX8_sign_0 : decode cX8_sign 0 = .ok (.aload_n 0, 1) := by decide +kernel
theorem dX8_sign_1 : decode cX8_sign 1 = .ok (.invokevirtual 249, 3) := by decide +kernel
theorem dX8_sign_4 : decode cX8_sign 4 = .ok (.bipush 45, 2) := by decide +kernel
theorem dX8_sign_6 : decode cX8_sign 6 = .ok (.if_icmp .ne 7, 3) := by decide +kernel
theorem dX8_sign_9 : decode cX8_sign 9 = .ok (.iconst 1, 1) := by decide +kernel
theorem dX8_sign_10 : decode cX8_sign 10 = .ok (.goto 4, 3) := by decide +kernel
theorem dX8_sign_13 : decode cX8_sign 13 = .ok (.iconst 0, 1) := by decide +kernel
theorem dX8_sign_14 : decode cX8_sign 14 = .ok (.istore_n 1, 1) := by decide +kernel
theorem dX8_sign_15 : decode cX8_sign 15 = .ok (.iload_n 1, 1) := by decide +kernel
theorem dX8_sign_16 : decode cX8_sign 16 = .ok (.ifCond .ne 23, 3) := by decide +kernel
theorem dX8_sign_19 : decode cX8_sign 19 = .ok (.aload_n 0, 1) := by decide +kernel
theorem dX8_sign_20 : decode cX8_sign 20 = .ok (.invokevirtual 249, 3) := by decide +kernel
theorem dX8_sign_23 : decode cX8_sign 23 = .ok (.bipush 43, 2) := by decide +kernel
theorem dX8_sign_25 : decode cX8_sign 25 = .ok (.if_icmp .eq 14, 3) := by decide +kernel
theorem dX8_sign_28 : decode cX8_sign 28 = .ok (.aload_n 0, 1) := by decide +kernel
theorem dX8_sign_29 : decode cX8_sign 29 = .ok (.aload_n 0, 1) := by decide +kernel
theorem dX8_sign_30 : decode cX8_sign 30 = .ok (.getfield 246, 3) := by decide +kernel
theorem dX8_sign_33 : decode cX8_sign 33 = .ok (.putfield 259, 3) := by decide +kernel
theorem dX8_sign_36 : decode cX8_sign 36 = .ok (.goto 13, 3) := by decide +kernel
theorem dX8_sign_39 : decode cX8_sign 39 = .ok (.aload_n 0, 1) := by decide +kernel
theorem dX8_sign_40 : decode cX8_sign 40 = .ok (.dup, 1) := by decide +kernel
theorem dX8_sign_41 : decode cX8_sign 41 = .ok (.getfield 246, 3) := by decide +kernel
theorem dX8_sign_44 : decode cX8_sign 44 = .ok (.iconst 1, 1) := by decide +kernel
theorem dX8_sign_45 : decode cX8_sign 45 = .ok (.iadd, 1) := by decide +kernel
theorem dX8_sign_46 : decode cX8_sign 46 = .ok (.putfield 246, 3) := by decide +kernel
theorem dX8_sign_49 : decode cX8_sign 49 = .ok (.iload_n 1, 1) := by decide +kernel
theorem dX8_sign_50 : decode cX8_sign 50 = .ok (.ireturn, 1) := by decide +kernel
set_option maxRecDepth 100000 in
theorem ggX8_expect_X8_here : GoodIn wsX8_expect wsX8_here := goodIn_r _ [7, 2, 8, 9, 10, 11, 12, 13, 14, 15, 16, 17, 18, 19, 20, 21, 22, 23, 24, 25, 26, 27, 28, 29, 30, 31, 32, 33, 34, 35, 36, 37, 38, 39, 40] rfl (by decide +kernel)
set_option maxRecDepth 100000 in
theorem gX8_expect_X8_here : GoodIn wsX8_expect (wsV RX8 249 RX8 yX8_here wsX8_here) := goodIn_app (goodIn_r _ [3, 4, 5, 6] rfl (by decide +kernel)) ggX8_expect_X8_here
theorem dX8_expect_0 : decode cX8_expect 0 = .ok (.aload_n 0, 1) := by decide +kernel
theorem dX8_expect_1 : decode cX8_expect 1 = .ok (.getfield 259, 3) := by decide +kernel
theorem dX8_expect_4 : decode cX8_expect 4 = .ok (.ifCond .ge 32, 3) := by decide +kernel
theorem dX8_expect_7 : decode cX8_expect 7 = .ok (.aload_n 0, 1) := by decide +kernel
theorem dX8_expect_8 : decode cX8_expect 8 = .ok (.invokevirtual 249, 3) := by decide +kernel
theorem dX8_expect_11 : decode cX8_expect 11 = .ok (.iload_n 1, 1) := by decide +kernel
theorem dX8_expect_12 : decode cX8_expect 12 = .ok (.if_icmp .eq 14, 3) := by decide +kernel
theorem dX8_expect_15 : decode cX8_expect 15 = .ok (.aload_n 0, 1) := by decide +kernel
theorem dX8_expect_16 : decode cX8_expect 16 = .ok (.aload_n 0, 1) := by decide +kernel
theorem dX8_expect_17 : decode cX8_expect 17 = .ok (.getfield 246, 3) := by decide +kernel
theorem dX8_expect_20 : decode cX8_expect 20 = .ok (.putfield 259, 3) := by decide +kernel
theorem dX8_expect_23 : decode cX8_expect 23 = .ok (.goto 13, 3) := by decide +kernel
theorem dX8_expect_26 : decode cX8_expect 26 = .ok (.aload_n 0, 1) := by decide +kernel
theorem dX8_expect_27 : decode cX8_expect 27 = .ok (.dup, 1) := by decide +kernel
theorem dX8_expect_28 : decode cX8_expect 28 = .ok (.getfield 246, 3) := by decide +kernel
theorem dX8_expect_31 : decode cX8_expect 31 = .ok (.iconst 1, 1) := by decide +kernel
theorem dX8_expect_32 : decode cX8_expect 32 = .ok (.iadd, 1) := by decide +kernel
theorem dX8_expect_33 : decode cX8_expect 33 = .ok (.putfield 246, 3) := by decide +kernel
theorem dX8_expect_36 : decode cX8_expect 36 = .ok (.return_, 1) := by decide +kernel
set_option maxRecDepth 100000 in
theorem ggX8_readLine_X8_figures : GoodIn wsX8_readLine wsX8_figures := goodIn_td 40 (goodIn_r _ [15, 1, 4, 16, 17, 18, 19, 20, 14, 21, 22, 23, 24, 25, 26, 27, 28, 29, 30, 31, 40, 41, 42, 43, 44, 45, 46, 47, 48, 49, 50, 51, 52, 53, 54, 55, 56, 57, 58, 59] rfl (by decide +kernel)) (goodIn_r _ [60, 61, 62, 63, 64, 65, 66, 67, 68, 69, 70] rfl (by decide +kernel))
set_option maxRecDepth 100000 in
theorem gX8_readLine_X8_figures : GoodIn wsX8_readLine (wsV RX8 266 RX8 yX8_figures wsX8_figures) := goodIn_app (goodIn_r _ [11, 12, 13, 14] rfl (by decide +kernel)) ggX8_readLine_X8_figures
set_option maxRecDepth 100000 in
theorem ggX8_readLine_X8_expect : GoodIn wsX8_readLine wsX8_expect := goodIn_td 40 (goodIn_r _ [35, 4, 1, 23, 24, 25, 14, 26, 27, 28, 40, 41, 42, 43, 44, 45, 46, 47, 48, 49, 50, 51, 52, 53, 54, 55, 56, 57, 58, 59, 60, 61, 62, 63, 64, 65, 66, 67, 68, 69] rfl (by decide +kernel)) (goodIn_r _ [70] rfl (by decide +kernel))
set_option maxRecDepth 100000 in
theorem gX8_readLine_X8_expect : GoodIn wsX8_readLine (wsV RX8 270 RX8 yX8_expect wsX8_expect) := goodIn_app (goodIn_r _ [32, 33, 34, 14] rfl (by decide +kernel)) ggX8_readLine_X8_expect
set_option maxRecDepth 100000 in
theorem ggX8_readLine_X8_here : GoodIn wsX8_readLine wsX8_here := goodIn_r _ [26, 1, 27, 28, 40, 41, 42, 43, 44, 45, 46, 47, 48, 49, 50, 51, 52, 53, 54, 55, 56, 57, 58, 59, 60, 61, 62, 63, 64, 65, 66, 67, 68, 69, 70] rfl (by decide +kernel)
set_option maxRecDepth 100000 in
theorem gX8_readLine_X8_here : GoodIn wsX8_readLine (wsV RX8 249 RX8 yX8_here wsX8_here) := goodIn_app (goodIn_r _ [23, 24, 25, 14] rfl (by decide +kernel)) ggX8_readLine_X8_here
set_option maxRecDepth 100000 in
theorem ggX8_readLine_X8_sign : GoodIn wsX8_readLine wsX8_sign := goodIn_td 40 (goodIn_r _ [39, 1, 4, 23, 24, 25, 14, 26, 27, 28, 40, 41, 42, 43, 44, 45, 46, 47, 48, 49, 50, 51, 52, 53, 54, 55, 56, 57, 58, 59, 60, 61, 62, 63, 64, 65, 66, 67, 68, 69] rfl (by decide +kernel)) (goodIn_r _ [70] rfl (by decide +kernel))
set_option maxRecDepth 100000 in
theorem gX8_readLine_X8_sign : GoodIn wsX8_readLine (wsV RX8 273 RX8 yX8_sign wsX8_sign) := goodIn_app (goodIn_r _ [36, 37, 38, 14] rfl (by decide +kernel)) ggX8_readLine_X8_sign
theorem dX8_readLine_0 : decode cX8_readLine 0 = .ok (.aload_n 0, 1) := by decide +kernel
theorem dX8_readLine_1 : decode cX8_readLine 1 = .ok (.getfield 246, 3) := by decide +kernel
theorem dX8_readLine_4 : decode cX8_readLine 4 = .ok (.istore_n 2, 1) := by decide +kernel
theorem dX8_readLine_5 : decode cX8_readLine 5 = .ok (.aload_n 0, 1) := by decide +kernel
theorem dX8_readLine_6 : decode cX8_readLine 6 = .ok (.getfield 30, 3) := by decide +kernel
theorem dX8_readLine_9 : decode cX8_readLine 9 = .ok (.iload_n 1, 1) := by decide +kernel
theorem dX8_readLine_10 : decode cX8_readLine 10 = .ok (.aload_n 0, 1) := by decide +kernel
theorem dX8_readLine_11 : decode cX8_readLine 11 = .ok (.iconst 4, 1) := by decide +kernel
theorem dX8_readLine_12 : decode cX8_readLine 12 = .ok (.ldc2_w 264, 3) := by decide +kernel
theorem dX8_readLine_15 : decode cX8_readLine 15 = .ok (.invokevirtual 266, 3) := by decide +kernel
theorem dX8_readLine_18 : decode cX8_readLine 18 = .ok (.l2i, 1) := by decide +kernel
theorem dX8_readLine_19 : decode cX8_readLine 19 = .ok (.iastore, 1) := by decide +kernel
theorem dX8_readLine_20 : decode cX8_readLine 20 = .ok (.aload_n 0, 1) := by decide +kernel
theorem dX8_readLine_21 : decode cX8_readLine 21 = .ok (.bipush 32, 2) := by decide +kernel
theorem dX8_readLine_23 : decode cX8_readLine 23 = .ok (.invokevirtual 270, 3) := by decide +kernel
theorem dX8_readLine_26 : decode cX8_readLine 26 = .ok (.aload_n 0, 1) := by decide +kernel
theorem dX8_readLine_27 : decode cX8_readLine 27 = .ok (.getfield 259, 3) := by decide +kernel
theorem dX8_readLine_30 : decode cX8_readLine 30 = .ok (.ifCond .lt 4, 3) := by decide +kernel
theorem dX8_readLine_33 : decode cX8_readLine 33 = .ok (.return_, 1) := by decide +kernel
theorem dX8_readLine_34 : decode cX8_readLine 34 = .ok (.aload_n 0, 1) := by decide +kernel
theorem dX8_readLine_35 : decode cX8_readLine 35 = .ok (.getfield 36, 3) := by decide +kernel
theorem dX8_readLine_38 : decode cX8_readLine 38 = .ok (.iload_n 1, 1) := by decide +kernel
theorem dX8_readLine_39 : decode cX8_readLine 39 = .ok (.iconst 0, 1) := by decide +kernel
theorem dX8_readLine_40 : decode cX8_readLine 40 = .ok (.bastore, 1) := by decide +kernel
theorem dX8_readLine_41 : decode cX8_readLine 41 = .ok (.aload_n 0, 1) := by decide +kernel
theorem dX8_readLine_42 : decode cX8_readLine 42 = .ok (.invokevirtual 249, 3) := by decide +kernel
theorem dX8_readLine_45 : decode cX8_readLine 45 = .ok (.bipush 61, 2) := by decide +kernel
theorem dX8_readLine_47 : decode cX8_readLine 47 = .ok (.if_icmp .ne 149, 3) := by decide +kernel
theorem dX8_readLine_50 : decode cX8_readLine 50 = .ok (.aload_n 0, 1) := by decide +kernel
theorem dX8_readLine_51 : decode cX8_readLine 51 = .ok (.dup, 1) := by decide +kernel
theorem dX8_readLine_52 : decode cX8_readLine 52 = .ok (.getfield 246, 3) := by decide +kernel
theorem dX8_readLine_55 : decode cX8_readLine 55 = .ok (.iconst 1, 1) := by decide +kernel
theorem dX8_readLine_56 : decode cX8_readLine 56 = .ok (.iadd, 1) := by decide +kernel
theorem dX8_readLine_57 : decode cX8_readLine 57 = .ok (.putfield 246, 3) := by decide +kernel
theorem dX8_readLine_60 : decode cX8_readLine 60 = .ok (.aload_n 0, 1) := by decide +kernel
theorem dX8_readLine_61 : decode cX8_readLine 61 = .ok (.invokevirtual 249, 3) := by decide +kernel
theorem dX8_readLine_64 : decode cX8_readLine 64 = .ok (.bipush 61, 2) := by decide +kernel
theorem dX8_readLine_66 : decode cX8_readLine 66 = .ok (.if_icmp .ne 7, 3) := by decide +kernel
theorem dX8_readLine_69 : decode cX8_readLine 69 = .ok (.iconst 1, 1) := by decide +kernel
theorem dX8_readLine_70 : decode cX8_readLine 70 = .ok (.goto 4, 3) := by decide +kernel
theorem dX8_readLine_73 : decode cX8_readLine 73 = .ok (.iconst 0, 1) := by decide +kernel
theorem dX8_readLine_74 : decode cX8_readLine 74 = .ok (.istore_n 3, 1) := by decide +kernel
theorem dX8_readLine_75 : decode cX8_readLine 75 = .ok (.aload_n 0, 1) := by decide +kernel
theorem dX8_readLine_76 : decode cX8_readLine 76 = .ok (.dup, 1) := by decide +kernel
theorem dX8_readLine_77 : decode cX8_readLine 77 = .ok (.getfield 246, 3) := by decide +kernel
theorem dX8_readLine_80 : decode cX8_readLine 80 = .ok (.iload_n 3, 1) := by decide +kernel
theorem dX8_readLine_81 : decode cX8_readLine 81 = .ok (.ifCond .eq 7, 3) := by decide +kernel
theorem dX8_readLine_84 : decode cX8_readLine 84 = .ok (.iconst 1, 1) := by decide +kernel
theorem dX8_readLine_85 : decode cX8_readLine 85 = .ok (.goto 4, 3) := by decide +kernel
theorem dX8_readLine_88 : decode cX8_readLine 88 = .ok (.iconst 0, 1) := by decide +kernel
theorem dX8_readLine_89 : decode cX8_readLine 89 = .ok (.iadd, 1) := by decide +kernel
theorem dX8_readLine_90 : decode cX8_readLine 90 = .ok (.putfield 246, 3) := by decide +kernel
theorem dX8_readLine_93 : decode cX8_readLine 93 = .ok (.aload_n 0, 1) := by decide +kernel
theorem dX8_readLine_94 : decode cX8_readLine 94 = .ok (.getfield 36, 3) := by decide +kernel
theorem dX8_readLine_97 : decode cX8_readLine 97 = .ok (.iload_n 1, 1) := by decide +kernel
theorem dX8_readLine_98 : decode cX8_readLine 98 = .ok (.iload_n 3, 1) := by decide +kernel
theorem dX8_readLine_99 : decode cX8_readLine 99 = .ok (.bastore, 1) := by decide +kernel
theorem dX8_readLine_100 : decode cX8_readLine 100 = .ok (.iload_n 3, 1) := by decide +kernel
theorem dX8_readLine_101 : decode cX8_readLine 101 = .ok (.ifCond .eq 21, 3) := by decide +kernel
theorem dX8_readLine_104 : decode cX8_readLine 104 = .ok (.aload_n 0, 1) := by decide +kernel
theorem dX8_readLine_105 : decode cX8_readLine 105 = .ok (.getfield 30, 3) := by decide +kernel
theorem dX8_readLine_108 : decode cX8_readLine 108 = .ok (.iload_n 1, 1) := by decide +kernel
theorem dX8_readLine_109 : decode cX8_readLine 109 = .ok (.iaload, 1) := by decide +kernel
theorem dX8_readLine_110 : decode cX8_readLine 110 = .ok (.iconst 2, 1) := by decide +kernel
theorem dX8_readLine_111 : decode cX8_readLine 111 = .ok (.irem, 1) := by decide +kernel
theorem dX8_readLine_112 : decode cX8_readLine 112 = .ok (.iconst 1, 1) := by decide +kernel
theorem dX8_readLine_113 : decode cX8_readLine 113 = .ok (.if_icmp .ne 9, 3) := by decide +kernel
theorem dX8_readLine_116 : decode cX8_readLine 116 = .ok (.aload_n 0, 1) := by decide +kernel
theorem dX8_readLine_117 : decode cX8_readLine 117 = .ok (.iload_n 2, 1) := by decide +kernel
theorem dX8_readLine_118 : decode cX8_readLine 118 = .ok (.putfield 259, 3) := by decide +kernel
theorem dX8_readLine_121 : decode cX8_readLine 121 = .ok (.return_, 1) := by decide +kernel
theorem dX8_readLine_122 : decode cX8_readLine 122 = .ok (.aload_n 0, 1) := by decide +kernel
theorem dX8_readLine_123 : decode cX8_readLine 123 = .ok (.invokevirtual 273, 3) := by decide +kernel
theorem dX8_readLine_126 : decode cX8_readLine 126 = .ok (.istore 4, 2) := by decide +kernel
theorem dX8_readLine_128 : decode cX8_readLine 128 = .ok (.aload_n 0, 1) := by decide +kernel
theorem dX8_readLine_129 : decode cX8_readLine 129 = .ok (.getfield 259, 3) := by decide +kernel
theorem dX8_readLine_132 : decode cX8_readLine 132 = .ok (.ifCond .ge 61, 3) := by decide +kernel
theorem dX8_readLine_135 : decode cX8_readLine 135 = .ok (.iload_n 3, 1) := by decide +kernel
theorem dX8_readLine_136 : decode cX8_readLine 136 = .ok (.ifCond .eq 15, 3) := by decide +kernel
theorem dX8_readLine_139 : decode cX8_readLine 139 = .ok (.aload_n 0, 1) := by decide +kernel
theorem dX8_readLine_140 : decode cX8_readLine 140 = .ok (.bipush 11, 2) := by decide +kernel
theorem dX8_readLine_142 : decode cX8_readLine 142 = .ok (.ldc2_w 140, 3) := by decide +kernel
theorem dX8_readLine_145 : decode cX8_readLine 145 = .ok (.invokevirtual 266, 3) := by decide +kernel
theorem dX8_readLine_148 : decode cX8_readLine 148 = .ok (.goto 12, 3) := by decide +kernel
theorem dX8_readLine_151 : decode cX8_readLine 151 = .ok (.aload_n 0, 1) := by decide +kernel
theorem dX8_readLine_152 : decode cX8_readLine 152 = .ok (.bipush 6, 2) := by decide +kernel
theorem dX8_readLine_154 : decode cX8_readLine 154 = .ok (.ldc2_w 276, 3) := by decide +kernel
theorem dX8_readLine_157 : decode cX8_readLine 157 = .ok (.invokevirtual 266, 3) := by decide +kernel
theorem dX8_readLine_160 : decode cX8_readLine 160 = .ok (.lstore 5, 2) := by decide +kernel
theorem dX8_readLine_162 : decode cX8_readLine 162 = .ok (.aload_n 0, 1) := by decide +kernel
theorem dX8_readLine_163 : decode cX8_readLine 163 = .ok (.getfield 33, 3) := by decide +kernel
theorem dX8_readLine_166 : decode cX8_readLine 166 = .ok (.iload_n 1, 1) := by decide +kernel
theorem dX8_readLine_167 : decode cX8_readLine 167 = .ok (.lload 5, 2) := by decide +kernel
theorem dX8_readLine_169 : decode cX8_readLine 169 = .ok (.iload 4, 2) := by decide +kernel
theorem dX8_readLine_171 : decode cX8_readLine 171 = .ok (.ifCond .eq 19, 3) := by decide +kernel
theorem dX8_readLine_174 : decode cX8_readLine 174 = .ok (.iload_n 3, 1) := by decide +kernel
theorem dX8_readLine_175 : decode cX8_readLine 175 = .ok (.ifCond .eq 9, 3) := by decide +kernel
theorem dX8_readLine_178 : decode cX8_readLine 178 = .ok (.ldc2_w 140, 3) := by decide +kernel
theorem dX8_readLine_181 : decode cX8_readLine 181 = .ok (.goto 10, 3) := by decide +kernel
theorem dX8_readLine_184 : decode cX8_readLine 184 = .ok (.ldc2_w 276, 3) := by decide +kernel
theorem dX8_readLine_187 : decode cX8_readLine 187 = .ok (.goto 4, 3) := by decide +kernel
theorem dX8_readLine_190 : decode cX8_readLine 190 = .ok (.lconst 0, 1) := by decide +kernel
theorem dX8_readLine_191 : decode cX8_readLine 191 = .ok (.lor, 1) := by decide +kernel
theorem dX8_readLine_192 : decode cX8_readLine 192 = .ok (.lastore, 1) := by decide +kernel
theorem dX8_readLine_193 : decode cX8_readLine 193 = .ok (.goto 80, 3) := by decide +kernel
theorem dX8_readLine_196 : decode cX8_readLine 196 = .ok (.aload_n 0, 1) := by decide +kernel
theorem dX8_readLine_197 : decode cX8_readLine 197 = .ok (.iconst 2, 1) := by decide +kernel
theorem dX8_readLine_198 : decode cX8_readLine 198 = .ok (.ldc2_w 278, 3) := by decide +kernel
theorem dX8_readLine_201 : decode cX8_readLine 201 = .ok (.invokevirtual 266, 3) := by decide +kernel
theorem dX8_readLine_204 : decode cX8_readLine 204 = .ok (.lstore_n 3, 1) := by decide +kernel
theorem dX8_readLine_205 : decode cX8_readLine 205 = .ok (.aload_n 0, 1) := by decide +kernel
theorem dX8_readLine_206 : decode cX8_readLine 206 = .ok (.getfield 259, 3) := by decide +kernel
theorem dX8_readLine_209 : decode cX8_readLine 209 = .ok (.ifCond .ge 14, 3) := by decide +kernel
theorem dX8_readLine_212 : decode cX8_readLine 212 = .ok (.aload_n 0, 1) := by decide +kernel
theorem dX8_readLine_213 : decode cX8_readLine 213 = .ok (.invokevirtual 273, 3) := by decide +kernel
theorem dX8_readLine_216 : decode cX8_readLine 216 = .ok (.ifCond .eq 7, 3) := by decide +kernel
theorem dX8_readLine_219 : decode cX8_readLine 219 = .ok (.iconst 1, 1) := by decide +kernel
theorem dX8_readLine_220 : decode cX8_readLine 220 = .ok (.goto 4, 3) := by decide +kernel
theorem dX8_readLine_223 : decode cX8_readLine 223 = .ok (.iconst 0, 1) := by decide +kernel
theorem dX8_readLine_224 : decode cX8_readLine 224 = .ok (.istore 5, 2) := by decide +kernel
theorem dX8_readLine_226 : decode cX8_readLine 226 = .ok (.aload_n 0, 1) := by decide +kernel
theorem dX8_readLine_227 : decode cX8_readLine 227 = .ok (.getfield 259, 3) := by decide +kernel
theorem dX8_readLine_230 : decode cX8_readLine 230 = .ok (.ifCond .ge 14, 3) := by decide +kernel
theorem dX8_readLine_233 : decode cX8_readLine 233 = .ok (.aload_n 0, 1) := by decide +kernel
theorem dX8_readLine_234 : decode cX8_readLine 234 = .ok (.iconst 4, 1) := by decide +kernel
theorem dX8_readLine_235 : decode cX8_readLine 235 = .ok (.ldc2_w 280, 3) := by decide +kernel
theorem dX8_readLine_238 : decode cX8_readLine 238 = .ok (.invokevirtual 266, 3) := by decide +kernel
theorem dX8_readLine_241 : decode cX8_readLine 241 = .ok (.goto 4, 3) := by decide +kernel
theorem dX8_readLine_244 : decode cX8_readLine 244 = .ok (.lconst 0, 1) := by decide +kernel
theorem dX8_readLine_245 : decode cX8_readLine 245 = .ok (.lstore 6, 2) := by decide +kernel
theorem dX8_readLine_247 : decode cX8_readLine 247 = .ok (.aload_n 0, 1) := by decide +kernel
theorem dX8_readLine_248 : decode cX8_readLine 248 = .ok (.getfield 33, 3) := by decide +kernel
theorem dX8_readLine_251 : decode cX8_readLine 251 = .ok (.iload_n 1, 1) := by decide +kernel
theorem dX8_readLine_252 : decode cX8_readLine 252 = .ok (.iload 5, 2) := by decide +kernel
theorem dX8_readLine_254 : decode cX8_readLine 254 = .ok (.ifCond .eq 9, 3) := by decide +kernel
theorem dX8_readLine_257 : decode cX8_readLine 257 = .ok (.ldc2_w 276, 3) := by decide +kernel
theorem dX8_readLine_260 : decode cX8_readLine 260 = .ok (.goto 4, 3) := by decide +kernel
theorem dX8_readLine_263 : decode cX8_readLine 263 = .ok (.lconst 0, 1) := by decide +kernel
theorem dX8_readLine_264 : decode cX8_readLine 264 = .ok (.lload_n 3, 1) := by decide +kernel
theorem dX8_readLine_265 : decode cX8_readLine 265 = .ok (.bipush 12, 2) := by decide +kernel
theorem dX8_readLine_267 : decode cX8_readLine 267 = .ok (.lshl, 1) := by decide +kernel
theorem dX8_readLine_268 : decode cX8_readLine 268 = .ok (.lor, 1) := by decide +kernel
theorem dX8_readLine_269 : decode cX8_readLine 269 = .ok (.lload 6, 2) := by decide +kernel
theorem dX8_readLine_271 : decode cX8_readLine 271 = .ok (.lor, 1) := by decide +kernel
theorem dX8_readLine_272 : decode cX8_readLine 272 = .ok (.lastore, 1) := by decide +kernel
theorem dX8_readLine_273 : decode cX8_readLine 273 = .ok (.aload_n 0, 1) := by decide +kernel
theorem dX8_readLine_274 : decode cX8_readLine 274 = .ok (.bipush 10, 2) := by decide +kernel
theorem dX8_readLine_276 : decode cX8_readLine 276 = .ok (.invokevirtual 270, 3) := by decide +kernel
theorem dX8_readLine_279 : decode cX8_readLine 279 = .ok (.return_, 1) := by decide +kernel
set_option maxRecDepth 100000 in
theorem ggX8_load_X8_readLine : GoodIn wsX8_load wsX8_readLine := goodIn_td 40 (goodIn_r _ [12, 1, 5, 13, 2, 4, 14, 15, 6, 16, 17, 18, 19, 20, 11, 21, 22, 23, 24, 25, 26, 27, 28, 29, 30, 31, 32, 3, 33, 34, 35, 36, 37, 38, 39, 40, 41, 42, 43, 44] rfl (by decide +kernel)) (goodIn_r _ [50, 51, 52, 53, 54, 55, 56, 57, 58, 59, 60, 61, 62, 63, 64, 65, 66, 67, 68, 69, 70, 71, 72, 73, 74, 75, 76, 77, 78, 79, 80] rfl (by decide +kernel))
set_option maxRecDepth 100000 in
theorem gX8_load_X8_readLine : GoodIn wsX8_load (wsV RX8 282 RX8 yX8_readLine wsX8_readLine) := goodIn_app (goodIn_r _ [8, 9, 10, 11] rfl (by decide +kernel)) ggX8_load_X8_readLine
set_option maxRecDepth 100000 in
theorem ggX8_load_X8_putWhole : GoodIn wsX8_load wsX8_putWhole := goodIn_r _ [48, 7, 49, 50, 51, 52, 53, 54, 55, 56, 57, 58, 59, 60, 61, 62, 63, 64, 65, 66, 67, 68, 69, 70, 71, 72, 73, 74, 75, 76, 77, 78, 79, 80] rfl (by decide +kernel)
set_option maxRecDepth 100000 in
theorem gX8_load_X8_putWhole : GoodIn wsX8_load (wsV RX8 148 RX8 yX8_putWhole wsX8_putWhole) := goodIn_app (goodIn_r _ [45, 46, 47, 11] rfl (by decide +kernel)) ggX8_load_X8_putWhole
theorem dX8_load_0 : decode cX8_load 0 = .ok (.aload_n 0, 1) := by decide +kernel
theorem dX8_load_1 : decode cX8_load 1 = .ok (.iconst 0, 1) := by decide +kernel
theorem dX8_load_2 : decode cX8_load 2 = .ok (.putfield 246, 3) := by decide +kernel
theorem dX8_load_5 : decode cX8_load 5 = .ok (.aload_n 0, 1) := by decide +kernel
theorem dX8_load_6 : decode cX8_load 6 = .ok (.iconst (-1), 1) := by decide +kernel
theorem dX8_load_7 : decode cX8_load 7 = .ok (.putfield 259, 3) := by decide +kernel
theorem dX8_load_10 : decode cX8_load 10 = .ok (.iconst 0, 1) := by decide +kernel
theorem dX8_load_11 : decode cX8_load 11 = .ok (.istore_n 1, 1) := by decide +kernel
theorem dX8_load_12 : decode cX8_load 12 = .ok (.aload_n 0, 1) := by decide +kernel
theorem dX8_load_13 : decode cX8_load 13 = .ok (.getfield 246, 3) := by decide +kernel
theorem dX8_load_16 : decode cX8_load 16 = .ok (.aload_n 0, 1) := by decide +kernel
theorem dX8_load_17 : decode cX8_load 17 = .ok (.getfield 243, 3) := by decide +kernel
theorem dX8_load_20 : decode cX8_load 20 = .ok (.if_icmp .ge 39, 3) := by decide +kernel
theorem dX8_load_23 : decode cX8_load 23 = .ok (.aload_n 0, 1) := by decide +kernel
theorem dX8_load_24 : decode cX8_load 24 = .ok (.getfield 259, 3) := by decide +kernel
theorem dX8_load_27 : decode cX8_load 27 = .ok (.ifCond .ge 32, 3) := by decide +kernel
theorem dX8_load_30 : decode cX8_load 30 = .ok (.iload_n 1, 1) := by decide +kernel
theorem dX8_load_31 : decode cX8_load 31 = .ok (.sipush 200, 3) := by decide +kernel
theorem dX8_load_34 : decode cX8_load 34 = .ok (.if_icmp .ne 14, 3) := by decide +kernel
theorem dX8_load_37 : decode cX8_load 37 = .ok (.aload_n 0, 1) := by decide +kernel
theorem dX8_load_38 : decode cX8_load 38 = .ok (.aload_n 0, 1) := by decide +kernel
theorem dX8_load_39 : decode cX8_load 39 = .ok (.getfield 246, 3) := by decide +kernel
theorem dX8_load_42 : decode cX8_load 42 = .ok (.putfield 259, 3) := by decide +kernel
theorem dX8_load_45 : decode cX8_load 45 = .ok (.goto (-33), 3) := by decide +kernel
theorem dX8_load_48 : decode cX8_load 48 = .ok (.aload_n 0, 1) := by decide +kernel
theorem dX8_load_49 : decode cX8_load 49 = .ok (.iload_n 1, 1) := by decide +kernel
theorem dX8_load_50 : decode cX8_load 50 = .ok (.invokevirtual 282, 3) := by decide +kernel
theorem dX8_load_53 : decode cX8_load 53 = .ok (.iinc 1 1, 3) := by decide +kernel
theorem dX8_load_56 : decode cX8_load 56 = .ok (.goto (-44), 3) := by decide +kernel
theorem dX8_load_59 : decode cX8_load 59 = .ok (.aload_n 0, 1) := by decide +kernel
theorem dX8_load_60 : decode cX8_load 60 = .ok (.iconst 0, 1) := by decide +kernel
theorem dX8_load_61 : decode cX8_load 61 = .ok (.putfield 243, 3) := by decide +kernel
theorem dX8_load_64 : decode cX8_load 64 = .ok (.aload_n 0, 1) := by decide +kernel
theorem dX8_load_65 : decode cX8_load 65 = .ok (.getfield 259, 3) := by decide +kernel
theorem dX8_load_68 : decode cX8_load 68 = .ok (.ifCond .lt 11, 3) := by decide +kernel
theorem dX8_load_71 : decode cX8_load 71 = .ok (.bipush (-10), 2) := by decide +kernel
theorem dX8_load_73 : decode cX8_load 73 = .ok (.aload_n 0, 1) := by decide +kernel
theorem dX8_load_74 : decode cX8_load 74 = .ok (.getfield 259, 3) := by decide +kernel
theorem dX8_load_77 : decode cX8_load 77 = .ok (.isub, 1) := by decide +kernel
theorem dX8_load_78 : decode cX8_load 78 = .ok (.ireturn, 1) := by decide +kernel
theorem dX8_load_79 : decode cX8_load 79 = .ok (.iconst 0, 1) := by decide +kernel
theorem dX8_load_80 : decode cX8_load 80 = .ok (.istore_n 2, 1) := by decide +kernel
theorem dX8_load_81 : decode cX8_load 81 = .ok (.iload_n 2, 1) := by decide +kernel
theorem dX8_load_82 : decode cX8_load 82 = .ok (.iload_n 1, 1) := by decide +kernel
theorem dX8_load_83 : decode cX8_load 83 = .ok (.if_icmp .ge 55, 3) := by decide +kernel
theorem dX8_load_86 : decode cX8_load 86 = .ok (.aload_n 0, 1) := by decide +kernel
theorem dX8_load_87 : decode cX8_load 87 = .ok (.getfield 36, 3) := by decide +kernel
theorem dX8_load_90 : decode cX8_load 90 = .ok (.iload_n 2, 1) := by decide +kernel
theorem dX8_load_91 : decode cX8_load 91 = .ok (.baload, 1) := by decide +kernel
theorem dX8_load_92 : decode cX8_load 92 = .ok (.ifCond .eq 22, 3) := by decide +kernel
theorem dX8_load_95 : decode cX8_load 95 = .ok (.aload_n 0, 1) := by decide +kernel
theorem dX8_load_96 : decode cX8_load 96 = .ok (.aload_n 0, 1) := by decide +kernel
theorem dX8_load_97 : decode cX8_load 97 = .ok (.getfield 30, 3) := by decide +kernel
theorem dX8_load_100 : decode cX8_load 100 = .ok (.iload_n 2, 1) := by decide +kernel
theorem dX8_load_101 : decode cX8_load 101 = .ok (.iaload, 1) := by decide +kernel
theorem dX8_load_102 : decode cX8_load 102 = .ok (.aload_n 0, 1) := by decide +kernel
theorem dX8_load_103 : decode cX8_load 103 = .ok (.getfield 33, 3) := by decide +kernel
theorem dX8_load_106 : decode cX8_load 106 = .ok (.iload_n 2, 1) := by decide +kernel
theorem dX8_load_107 : decode cX8_load 107 = .ok (.laload, 1) := by decide +kernel
theorem dX8_load_108 : decode cX8_load 108 = .ok (.invokevirtual 148, 3) := by decide +kernel
theorem dX8_load_111 : decode cX8_load 111 = .ok (.goto 21, 3) := by decide +kernel
theorem dX8_load_114 : decode cX8_load 114 = .ok (.aload_n 0, 1) := by decide +kernel
theorem dX8_load_115 : decode cX8_load 115 = .ok (.getfield 7, 3) := by decide +kernel
theorem dX8_load_118 : decode cX8_load 118 = .ok (.aload_n 0, 1) := by decide +kernel
theorem dX8_load_119 : decode cX8_load 119 = .ok (.getfield 30, 3) := by decide +kernel
theorem dX8_load_122 : decode cX8_load 122 = .ok (.iload_n 2, 1) := by decide +kernel
theorem dX8_load_123 : decode cX8_load 123 = .ok (.iaload, 1) := by decide +kernel
theorem dX8_load_124 : decode cX8_load 124 = .ok (.aload_n 0, 1) := by decide +kernel
theorem dX8_load_125 : decode cX8_load 125 = .ok (.getfield 33, 3) := by decide +kernel
theorem dX8_load_128 : decode cX8_load 128 = .ok (.iload_n 2, 1) := by decide +kernel
theorem dX8_load_129 : decode cX8_load 129 = .ok (.laload, 1) := by decide +kernel
theorem dX8_load_130 : decode cX8_load 130 = .ok (.l2i, 1) := by decide +kernel
theorem dX8_load_131 : decode cX8_load 131 = .ok (.iastore, 1) := by decide +kernel
theorem dX8_load_132 : decode cX8_load 132 = .ok (.iinc 2 1, 3) := by decide +kernel
theorem dX8_load_135 : decode cX8_load 135 = .ok (.goto (-54), 3) := by decide +kernel
theorem dX8_load_138 : decode cX8_load 138 = .ok (.iload_n 1, 1) := by decide +kernel
theorem dX8_load_139 : decode cX8_load 139 = .ok (.ireturn, 1) := by decide +kernel
theorem dX8_write_0 : decode cX8_write 0 = .ok (.iconst 1, 1) := by decide +kernel
theorem dX8_write_1 : decode cX8_write 1 = .ok (.istore_n 2, 1) := by decide +kernel
theorem dX8_write_2 : decode cX8_write 2 = .ok (.iload_n 1, 1) := by decide +kernel
theorem dX8_write_3 : decode cX8_write 3 = .ok (.iload_n 2, 1) := by decide +kernel
theorem dX8_write_4 : decode cX8_write 4 = .ok (.idiv, 1) := by decide +kernel
theorem dX8_write_5 : decode cX8_write 5 = .ok (.bipush 9, 2) := by decide +kernel
theorem dX8_write_7 : decode cX8_write 7 = .ok (.if_icmp .le 11, 3) := by decide +kernel
theorem dX8_write_10 : decode cX8_write 10 = .ok (.iload_n 2, 1) := by decide +kernel
theorem dX8_write_11 : decode cX8_write 11 = .ok (.bipush 10, 2) := by decide +kernel
theorem dX8_write_13 : decode cX8_write 13 = .ok (.imul, 1) := by decide +kernel
theorem dX8_write_14 : decode cX8_write 14 = .ok (.istore_n 2, 1) := by decide +kernel
theorem dX8_write_15 : decode cX8_write 15 = .ok (.goto (-13), 3) := by decide +kernel
theorem dX8_write_18 : decode cX8_write 18 = .ok (.iload_n 2, 1) := by decide +kernel
theorem dX8_write_19 : decode cX8_write 19 = .ok (.ifCond .le 40, 3) := by decide +kernel
theorem dX8_write_22 : decode cX8_write 22 = .ok (.aload_n 0, 1) := by decide +kernel
theorem dX8_write_23 : decode cX8_write 23 = .ok (.getfield 40, 3) := by decide +kernel
theorem dX8_write_26 : decode cX8_write 26 = .ok (.aload_n 0, 1) := by decide +kernel
theorem dX8_write_27 : decode cX8_write 27 = .ok (.getfield 285, 3) := by decide +kernel
theorem dX8_write_30 : decode cX8_write 30 = .ok (.bipush 48, 2) := by decide +kernel
theorem dX8_write_32 : decode cX8_write 32 = .ok (.iload_n 1, 1) := by decide +kernel
theorem dX8_write_33 : decode cX8_write 33 = .ok (.iload_n 2, 1) := by decide +kernel
theorem dX8_write_34 : decode cX8_write 34 = .ok (.idiv, 1) := by decide +kernel
theorem dX8_write_35 : decode cX8_write 35 = .ok (.bipush 10, 2) := by decide +kernel
theorem dX8_write_37 : decode cX8_write 37 = .ok (.irem, 1) := by decide +kernel
theorem dX8_write_38 : decode cX8_write 38 = .ok (.iadd, 1) := by decide +kernel
theorem dX8_write_39 : decode cX8_write 39 = .ok (.i2b, 1) := by decide +kernel
theorem dX8_write_40 : decode cX8_write 40 = .ok (.bastore, 1) := by decide +kernel
theorem dX8_write_41 : decode cX8_write 41 = .ok (.aload_n 0, 1) := by decide +kernel
theorem dX8_write_42 : decode cX8_write 42 = .ok (.dup, 1) := by decide +kernel
theorem dX8_write_43 : decode cX8_write 43 = .ok (.getfield 285, 3) := by decide +kernel
theorem dX8_write_46 : decode cX8_write 46 = .ok (.iconst 1, 1) := by decide +kernel
theorem dX8_write_47 : decode cX8_write 47 = .ok (.iadd, 1) := by decide +kernel
theorem dX8_write_48 : decode cX8_write 48 = .ok (.putfield 285, 3) := by decide +kernel
theorem dX8_write_51 : decode cX8_write 51 = .ok (.iload_n 2, 1) := by decide +kernel
theorem dX8_write_52 : decode cX8_write 52 = .ok (.bipush 10, 2) := by decide +kernel
theorem dX8_write_54 : decode cX8_write 54 = .ok (.idiv, 1) := by decide +kernel
theorem dX8_write_55 : decode cX8_write 55 = .ok (.istore_n 2, 1) := by decide +kernel
theorem dX8_write_56 : decode cX8_write 56 = .ok (.goto (-38), 3) := by decide +kernel
theorem dX8_write_59 : decode cX8_write 59 = .ok (.return_, 1) := by decide +kernel
set_option maxRecDepth 100000 in
theorem ggX8_written_X8_in : GoodIn wsX8_written wsX8_in := goodIn_r _ [8] rfl (by decide +kernel)
set_option maxRecDepth 100000 in
theorem gX8_written_X8_in : GoodIn wsX8_written (va_wsS RX8 49 yX8_in wsX8_in) := goodIn_app (goodIn_r _ [5, 6, 7] rfl (by decide +kernel)) ggX8_written_X8_in
set_option maxRecDepth 100000 in
theorem ggX8_written_X8_write : GoodIn wsX8_written wsX8_write := goodIn_r _ [12, 3, 2, 13, 14, 15, 16, 17, 18, 19, 20, 21, 22, 23, 24, 25, 26, 27, 28, 29, 30, 31, 32, 33, 34, 35, 36, 37, 38, 39, 40, 41, 42, 43] rfl (by decide +kernel)
set_option maxRecDepth 100000 in
theorem gX8_written_X8_write : GoodIn wsX8_written (wsV RX8 288 RX8 yX8_write wsX8_write) := goodIn_app (goodIn_r _ [9, 10, 11, 7] rfl (by decide +kernel)) ggX8_written_X8_write
theorem dX8_written_0 : decode cX8_written 0 = .ok (.iload_n 1, 1) := by decide +kernel
theorem dX8_written_1 : decode cX8_written 1 = .ok (.i2l, 1) := by decide +kernel
theorem dX8_written_2 : decode cX8_written 2 = .ok (.lconst 0, 1) := by decide +kernel
theorem dX8_written_3 : decode cX8_written 3 = .ok (.ldc2_w 47, 3) := by decide +kernel
theorem dX8_written_6 : decode cX8_written 6 = .ok (.invokestatic 49, 3) := by decide +kernel
theorem dX8_written_9 : decode cX8_written 9 = .ok (.ifCond .eq 7, 3) := by decide +kernel
theorem dX8_written_12 : decode cX8_written 12 = .ok (.iload_n 2, 1) := by decide +kernel
theorem dX8_written_13 : decode cX8_written 13 = .ok (.ifCond .ge 5, 3) := by decide +kernel
theorem dX8_written_16 : decode cX8_written 16 = .ok (.iconst (-1), 1) := by decide +kernel
theorem dX8_written_17 : decode cX8_written 17 = .ok (.ireturn, 1) := by decide +kernel
theorem dX8_written_18 : decode cX8_written 18 = .ok (.aload_n 0, 1) := by decide +kernel
theorem dX8_written_19 : decode cX8_written 19 = .ok (.iconst 0, 1) := by decide +kernel
theorem dX8_written_20 : decode cX8_written 20 = .ok (.putfield 285, 3) := by decide +kernel
theorem dX8_written_23 : decode cX8_written 23 = .ok (.aload_n 0, 1) := by decide +kernel
theorem dX8_written_24 : decode cX8_written 24 = .ok (.iload_n 1, 1) := by decide +kernel
theorem dX8_written_25 : decode cX8_written 25 = .ok (.invokevirtual 288, 3) := by decide +kernel
theorem dX8_written_28 : decode cX8_written 28 = .ok (.aload_n 0, 1) := by decide +kernel
theorem dX8_written_29 : decode cX8_written 29 = .ok (.getfield 40, 3) := by decide +kernel
theorem dX8_written_32 : decode cX8_written 32 = .ok (.aload_n 0, 1) := by decide +kernel
theorem dX8_written_33 : decode cX8_written 33 = .ok (.getfield 285, 3) := by decide +kernel
theorem dX8_written_36 : decode cX8_written 36 = .ok (.bipush 32, 2) := by decide +kernel
theorem dX8_written_38 : decode cX8_written 38 = .ok (.bastore, 1) := by decide +kernel
theorem dX8_written_39 : decode cX8_written 39 = .ok (.aload_n 0, 1) := by decide +kernel
theorem dX8_written_40 : decode cX8_written 40 = .ok (.dup, 1) := by decide +kernel
theorem dX8_written_41 : decode cX8_written 41 = .ok (.getfield 285, 3) := by decide +kernel
theorem dX8_written_44 : decode cX8_written 44 = .ok (.iconst 1, 1) := by decide +kernel
theorem dX8_written_45 : decode cX8_written 45 = .ok (.iadd, 1) := by decide +kernel
theorem dX8_written_46 : decode cX8_written 46 = .ok (.putfield 285, 3) := by decide +kernel
theorem dX8_written_49 : decode cX8_written 49 = .ok (.aload_n 0, 1) := by decide +kernel
theorem dX8_written_50 : decode cX8_written 50 = .ok (.aload_n 0, 1) := by decide +kernel
theorem dX8_written_51 : decode cX8_written 51 = .ok (.getfield 7, 3) := by decide +kernel
theorem dX8_written_54 : decode cX8_written 54 = .ok (.iload_n 1, 1) := by decide +kernel
theorem dX8_written_55 : decode cX8_written 55 = .ok (.iaload, 1) := by decide +kernel
theorem dX8_written_56 : decode cX8_written 56 = .ok (.bipush 12, 2) := by decide +kernel
theorem dX8_written_58 : decode cX8_written 58 = .ok (.ishr, 1) := by decide +kernel
theorem dX8_written_59 : decode cX8_written 59 = .ok (.bipush 31, 2) := by decide +kernel
theorem dX8_written_61 : decode cX8_written 61 = .ok (.iand, 1) := by decide +kernel
theorem dX8_written_62 : decode cX8_written 62 = .ok (.invokevirtual 288, 3) := by decide +kernel
theorem dX8_written_65 : decode cX8_written 65 = .ok (.aload_n 0, 1) := by decide +kernel
theorem dX8_written_66 : decode cX8_written 66 = .ok (.getfield 40, 3) := by decide +kernel
theorem dX8_written_69 : decode cX8_written 69 = .ok (.aload_n 0, 1) := by decide +kernel
theorem dX8_written_70 : decode cX8_written 70 = .ok (.getfield 285, 3) := by decide +kernel
theorem dX8_written_73 : decode cX8_written 73 = .ok (.aload_n 0, 1) := by decide +kernel
theorem dX8_written_74 : decode cX8_written 74 = .ok (.getfield 7, 3) := by decide +kernel
theorem dX8_written_77 : decode cX8_written 77 = .ok (.iload_n 1, 1) := by decide +kernel
theorem dX8_written_78 : decode cX8_written 78 = .ok (.iaload, 1) := by decide +kernel
theorem dX8_written_79 : decode cX8_written 79 = .ok (.bipush 17, 2) := by decide +kernel
theorem dX8_written_81 : decode cX8_written 81 = .ok (.ishr, 1) := by decide +kernel
theorem dX8_written_82 : decode cX8_written 82 = .ok (.iconst 1, 1) := by decide +kernel
theorem dX8_written_83 : decode cX8_written 83 = .ok (.iand, 1) := by decide +kernel
theorem dX8_written_84 : decode cX8_written 84 = .ok (.iconst 1, 1) := by decide +kernel
theorem dX8_written_85 : decode cX8_written 85 = .ok (.if_icmp .ne 8, 3) := by decide +kernel
theorem dX8_written_88 : decode cX8_written 88 = .ok (.bipush 45, 2) := by decide +kernel
theorem dX8_written_90 : decode cX8_written 90 = .ok (.goto 5, 3) := by decide +kernel
theorem dX8_written_93 : decode cX8_written 93 = .ok (.bipush 43, 2) := by decide +kernel
theorem dX8_written_95 : decode cX8_written 95 = .ok (.i2b, 1) := by decide +kernel
theorem dX8_written_96 : decode cX8_written 96 = .ok (.bastore, 1) := by decide +kernel
theorem dX8_written_97 : decode cX8_written 97 = .ok (.aload_n 0, 1) := by decide +kernel
theorem dX8_written_98 : decode cX8_written 98 = .ok (.dup, 1) := by decide +kernel
theorem dX8_written_99 : decode cX8_written 99 = .ok (.getfield 285, 3) := by decide +kernel
theorem dX8_written_102 : decode cX8_written 102 = .ok (.iconst 1, 1) := by decide +kernel
theorem dX8_written_103 : decode cX8_written 103 = .ok (.iadd, 1) := by decide +kernel
theorem dX8_written_104 : decode cX8_written 104 = .ok (.putfield 285, 3) := by decide +kernel
theorem dX8_written_107 : decode cX8_written 107 = .ok (.aload_n 0, 1) := by decide +kernel
theorem dX8_written_108 : decode cX8_written 108 = .ok (.aload_n 0, 1) := by decide +kernel
theorem dX8_written_109 : decode cX8_written 109 = .ok (.getfield 7, 3) := by decide +kernel
theorem dX8_written_112 : decode cX8_written 112 = .ok (.iload_n 1, 1) := by decide +kernel
theorem dX8_written_113 : decode cX8_written 113 = .ok (.iaload, 1) := by decide +kernel
theorem dX8_written_114 : decode cX8_written 114 = .ok (.sipush 4095, 3) := by decide +kernel
theorem dX8_written_117 : decode cX8_written 117 = .ok (.iand, 1) := by decide +kernel
theorem dX8_written_118 : decode cX8_written 118 = .ok (.invokevirtual 288, 3) := by decide +kernel
theorem dX8_written_121 : decode cX8_written 121 = .ok (.iload_n 2, 1) := by decide +kernel
theorem dX8_written_122 : decode cX8_written 122 = .ok (.aload_n 0, 1) := by decide +kernel
theorem dX8_written_123 : decode cX8_written 123 = .ok (.getfield 285, 3) := by decide +kernel
theorem dX8_written_126 : decode cX8_written 126 = .ok (.if_icmp .ge 12, 3) := by decide +kernel
theorem dX8_written_129 : decode cX8_written 129 = .ok (.aload_n 0, 1) := by decide +kernel
theorem dX8_written_130 : decode cX8_written 130 = .ok (.getfield 40, 3) := by decide +kernel
theorem dX8_written_133 : decode cX8_written 133 = .ok (.iload_n 2, 1) := by decide +kernel
theorem dX8_written_134 : decode cX8_written 134 = .ok (.baload, 1) := by decide +kernel
theorem dX8_written_135 : decode cX8_written 135 = .ok (.goto 5, 3) := by decide +kernel
theorem dX8_written_138 : decode cX8_written 138 = .ok (.bipush (-9), 2) := by decide +kernel
theorem dX8_written_140 : decode cX8_written 140 = .ok (.ireturn, 1) := by decide +kernel
set_option maxRecDepth 100000 in
theorem ggX8_digest_X8_told : GoodIn wsX8_digest wsX8_told := goodIn_td 40 (goodIn_r _ [12, 13, 14, 15, 16, 17, 18, 19, 20, 21, 22, 23, 24, 25, 26, 27, 28, 29, 30, 31, 32, 33, 34, 35, 36, 37, 38, 39, 40, 41, 42, 43, 44, 45, 46, 47, 48, 49, 50, 51] rfl (by decide +kernel)) (goodIn_r _ [52, 53, 54] rfl (by decide +kernel))
set_option maxRecDepth 100000 in
theorem gX8_digest_X8_told : GoodIn wsX8_digest (wsV RX8 295 RX8 yX8_told wsX8_told) := goodIn_app (goodIn_r _ [8, 9, 10, 11] rfl (by decide +kernel)) ggX8_digest_X8_told
theorem dX8_digest_0 : decode cX8_digest 0 = .ok (.ldc2_w 291, 3) := by decide +kernel
theorem dX8_digest_3 : decode cX8_digest 3 = .ok (.lstore_n 1, 1) := by decide +kernel
theorem dX8_digest_4 : decode cX8_digest 4 = .ok (.iconst 0, 1) := by decide +kernel
theorem dX8_digest_5 : decode cX8_digest 5 = .ok (.istore_n 3, 1) := by decide +kernel
theorem dX8_digest_6 : decode cX8_digest 6 = .ok (.iload_n 3, 1) := by decide +kernel
theorem dX8_digest_7 : decode cX8_digest 7 = .ok (.sipush 512, 3) := by decide +kernel
theorem dX8_digest_10 : decode cX8_digest 10 = .ok (.if_icmp .ge 23, 3) := by decide +kernel
theorem dX8_digest_13 : decode cX8_digest 13 = .ok (.ldc2_w 293, 3) := by decide +kernel
theorem dX8_digest_16 : decode cX8_digest 16 = .ok (.lload_n 1, 1) := by decide +kernel
theorem dX8_digest_17 : decode cX8_digest 17 = .ok (.lmul, 1) := by decide +kernel
theorem dX8_digest_18 : decode cX8_digest 18 = .ok (.aload_n 0, 1) := by decide +kernel
theorem dX8_digest_19 : decode cX8_digest 19 = .ok (.getfield 7, 3) := by decide +kernel
theorem dX8_digest_22 : decode cX8_digest 22 = .ok (.iload_n 3, 1) := by decide +kernel
theorem dX8_digest_23 : decode cX8_digest 23 = .ok (.iaload, 1) := by decide +kernel
theorem dX8_digest_24 : decode cX8_digest 24 = .ok (.i2l, 1) := by decide +kernel
theorem dX8_digest_25 : decode cX8_digest 25 = .ok (.ladd, 1) := by decide +kernel
theorem dX8_digest_26 : decode cX8_digest 26 = .ok (.lstore_n 1, 1) := by decide +kernel
theorem dX8_digest_27 : decode cX8_digest 27 = .ok (.iinc 3 1, 3) := by decide +kernel
theorem dX8_digest_30 : decode cX8_digest 30 = .ok (.goto (-24), 3) := by decide +kernel
theorem dX8_digest_33 : decode cX8_digest 33 = .ok (.iconst 0, 1) := by decide +kernel
theorem dX8_digest_34 : decode cX8_digest 34 = .ok (.istore_n 3, 1) := by decide +kernel
theorem dX8_digest_35 : decode cX8_digest 35 = .ok (.iload_n 3, 1) := by decide +kernel
theorem dX8_digest_36 : decode cX8_digest 36 = .ok (.bipush 10, 2) := by decide +kernel
theorem dX8_digest_38 : decode cX8_digest 38 = .ok (.if_icmp .ge 21, 3) := by decide +kernel
theorem dX8_digest_41 : decode cX8_digest 41 = .ok (.ldc2_w 293, 3) := by decide +kernel
theorem dX8_digest_44 : decode cX8_digest 44 = .ok (.lload_n 1, 1) := by decide +kernel
theorem dX8_digest_45 : decode cX8_digest 45 = .ok (.lmul, 1) := by decide +kernel
theorem dX8_digest_46 : decode cX8_digest 46 = .ok (.aload_n 0, 1) := by decide +kernel
theorem dX8_digest_47 : decode cX8_digest 47 = .ok (.iload_n 3, 1) := by decide +kernel
theorem dX8_digest_48 : decode cX8_digest 48 = .ok (.invokevirtual 295, 3) := by decide +kernel
theorem dX8_digest_51 : decode cX8_digest 51 = .ok (.ladd, 1) := by decide +kernel
theorem dX8_digest_52 : decode cX8_digest 52 = .ok (.lstore_n 1, 1) := by decide +kernel
theorem dX8_digest_53 : decode cX8_digest 53 = .ok (.iinc 3 1, 3) := by decide +kernel
theorem dX8_digest_56 : decode cX8_digest 56 = .ok (.goto (-21), 3) := by decide +kernel
theorem dX8_digest_59 : decode cX8_digest 59 = .ok (.iconst 0, 1) := by decide +kernel
theorem dX8_digest_60 : decode cX8_digest 60 = .ok (.istore_n 3, 1) := by decide +kernel
theorem dX8_digest_61 : decode cX8_digest 61 = .ok (.iload_n 3, 1) := by decide +kernel
theorem dX8_digest_62 : decode cX8_digest 62 = .ok (.iconst 4, 1) := by decide +kernel
theorem dX8_digest_63 : decode cX8_digest 63 = .ok (.if_icmp .ge 75, 3) := by decide +kernel
theorem dX8_digest_66 : decode cX8_digest 66 = .ok (.ldc2_w 293, 3) := by decide +kernel
theorem dX8_digest_69 : decode cX8_digest 69 = .ok (.ldc2_w 293, 3) := by decide +kernel
theorem dX8_digest_72 : decode cX8_digest 72 = .ok (.lload_n 1, 1) := by decide +kernel
theorem dX8_digest_73 : decode cX8_digest 73 = .ok (.lmul, 1) := by decide +kernel
theorem dX8_digest_74 : decode cX8_digest 74 = .ok (.aload_n 0, 1) := by decide +kernel
theorem dX8_digest_75 : decode cX8_digest 75 = .ok (.getfield 17, 3) := by decide +kernel
theorem dX8_digest_78 : decode cX8_digest 78 = .ok (.iload_n 3, 1) := by decide +kernel
theorem dX8_digest_79 : decode cX8_digest 79 = .ok (.iaload, 1) := by decide +kernel
theorem dX8_digest_80 : decode cX8_digest 80 = .ok (.i2l, 1) := by decide +kernel
theorem dX8_digest_81 : decode cX8_digest 81 = .ok (.ladd, 1) := by decide +kernel
theorem dX8_digest_82 : decode cX8_digest 82 = .ok (.lmul, 1) := by decide +kernel
theorem dX8_digest_83 : decode cX8_digest 83 = .ok (.aload_n 0, 1) := by decide +kernel
theorem dX8_digest_84 : decode cX8_digest 84 = .ok (.getfield 20, 3) := by decide +kernel
theorem dX8_digest_87 : decode cX8_digest 87 = .ok (.iload_n 3, 1) := by decide +kernel
theorem dX8_digest_88 : decode cX8_digest 88 = .ok (.iaload, 1) := by decide +kernel
theorem dX8_digest_89 : decode cX8_digest 89 = .ok (.i2l, 1) := by decide +kernel
theorem dX8_digest_90 : decode cX8_digest 90 = .ok (.ladd, 1) := by decide +kernel
theorem dX8_digest_91 : decode cX8_digest 91 = .ok (.lstore_n 1, 1) := by decide +kernel
theorem dX8_digest_92 : decode cX8_digest 92 = .ok (.iconst 0, 1) := by decide +kernel
theorem dX8_digest_93 : decode cX8_digest 93 = .ok (.istore 4, 2) := by decide +kernel
theorem dX8_digest_95 : decode cX8_digest 95 = .ok (.iload 4, 2) := by decide +kernel
theorem dX8_digest_97 : decode cX8_digest 97 = .ok (.aload_n 0, 1) := by decide +kernel
theorem dX8_digest_98 : decode cX8_digest 98 = .ok (.getfield 17, 3) := by decide +kernel
theorem dX8_digest_101 : decode cX8_digest 101 = .ok (.iload_n 3, 1) := by decide +kernel
theorem dX8_digest_102 : decode cX8_digest 102 = .ok (.iaload, 1) := by decide +kernel
theorem dX8_digest_103 : decode cX8_digest 103 = .ok (.if_icmp .ge 29, 3) := by decide +kernel
theorem dX8_digest_106 : decode cX8_digest 106 = .ok (.ldc2_w 293, 3) := by decide +kernel
theorem dX8_digest_109 : decode cX8_digest 109 = .ok (.lload_n 1, 1) := by decide +kernel
theorem dX8_digest_110 : decode cX8_digest 110 = .ok (.lmul, 1) := by decide +kernel
theorem dX8_digest_111 : decode cX8_digest 111 = .ok (.aload_n 0, 1) := by decide +kernel
theorem dX8_digest_112 : decode cX8_digest 112 = .ok (.getfield 13, 3) := by decide +kernel
theorem dX8_digest_115 : decode cX8_digest 115 = .ok (.sipush 300, 3) := by decide +kernel
theorem dX8_digest_118 : decode cX8_digest 118 = .ok (.iload_n 3, 1) := by decide +kernel
theorem dX8_digest_119 : decode cX8_digest 119 = .ok (.imul, 1) := by decide +kernel
theorem dX8_digest_120 : decode cX8_digest 120 = .ok (.iload 4, 2) := by decide +kernel
theorem dX8_digest_122 : decode cX8_digest 122 = .ok (.iadd, 1) := by decide +kernel
theorem dX8_digest_123 : decode cX8_digest 123 = .ok (.laload, 1) := by decide +kernel
theorem dX8_digest_124 : decode cX8_digest 124 = .ok (.ladd, 1) := by decide +kernel
theorem dX8_digest_125 : decode cX8_digest 125 = .ok (.lstore_n 1, 1) := by decide +kernel
theorem dX8_digest_126 : decode cX8_digest 126 = .ok (.iinc 4 1, 3) := by decide +kernel
theorem dX8_digest_129 : decode cX8_digest 129 = .ok (.goto (-34), 3) := by decide +kernel
theorem dX8_digest_132 : decode cX8_digest 132 = .ok (.iinc 3 1, 3) := by decide +kernel
theorem dX8_digest_135 : decode cX8_digest 135 = .ok (.goto (-74), 3) := by decide +kernel
theorem dX8_digest_138 : decode cX8_digest 138 = .ok (.iconst 0, 1) := by decide +kernel
theorem dX8_digest_139 : decode cX8_digest 139 = .ok (.istore_n 3, 1) := by decide +kernel
theorem dX8_digest_140 : decode cX8_digest 140 = .ok (.iload_n 3, 1) := by decide +kernel
theorem dX8_digest_141 : decode cX8_digest 141 = .ok (.sipush 256, 3) := by decide +kernel
theorem dX8_digest_144 : decode cX8_digest 144 = .ok (.if_icmp .ge 22, 3) := by decide +kernel
theorem dX8_digest_147 : decode cX8_digest 147 = .ok (.ldc2_w 293, 3) := by decide +kernel
theorem dX8_digest_150 : decode cX8_digest 150 = .ok (.lload_n 1, 1) := by decide +kernel
theorem dX8_digest_151 : decode cX8_digest 151 = .ok (.lmul, 1) := by decide +kernel
theorem dX8_digest_152 : decode cX8_digest 152 = .ok (.aload_n 0, 1) := by decide +kernel
theorem dX8_digest_153 : decode cX8_digest 153 = .ok (.getfield 23, 3) := by decide +kernel
theorem dX8_digest_156 : decode cX8_digest 156 = .ok (.iload_n 3, 1) := by decide +kernel
theorem dX8_digest_157 : decode cX8_digest 157 = .ok (.laload, 1) := by decide +kernel
theorem dX8_digest_158 : decode cX8_digest 158 = .ok (.ladd, 1) := by decide +kernel
theorem dX8_digest_159 : decode cX8_digest 159 = .ok (.lstore_n 1, 1) := by decide +kernel
theorem dX8_digest_160 : decode cX8_digest 160 = .ok (.iinc 3 1, 3) := by decide +kernel
theorem dX8_digest_163 : decode cX8_digest 163 = .ok (.goto (-23), 3) := by decide +kernel
theorem dX8_digest_166 : decode cX8_digest 166 = .ok (.lload_n 1, 1) := by decide +kernel
theorem dX8_digest_167 : decode cX8_digest 167 = .ok (.lreturn, 1) := by decide +kernel
