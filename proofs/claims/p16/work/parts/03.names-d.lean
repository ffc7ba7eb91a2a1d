set_option maxRecDepth 100000 in
theorem ggX7_init_X3_init : GoodIn wsX7_init wsX3_init := goodIn_r _ [26, 27, 2, 3, 28, 29, 68] rfl (by decide +kernel)
theorem gX7_init_X3_init : GoodIn wsX7_init (wsX3_init) := ggX7_init_X3_init
set_option maxRecDepth 100000 in
theorem ggX7_init_X0_init : GoodIn wsX7_init wsX0_init := goodIn_r _ [31, 32, 2, 3] rfl (by decide +kernel)
theorem gX7_init_X0_init_n18 : GoodIn wsX7_init (wsX0_init) := ggX7_init_X0_init
set_option maxRecDepth 100000 in
theorem ggX7_init_X6_init : GoodIn wsX7_init wsX6_init := goodIn_r _ [35, 36, 2, 3, 37, 38, 39, 40, 41, 42, 43, 44, 45, 46, 47, 48, 49, 50, 51, 52, 53, 54, 55, 85, 86, 87, 88, 98, 99, 100, 101, 102] rfl (by decide +kernel)
theorem gX7_init_X6_init : GoodIn wsX7_init (wsX6_init) := ggX7_init_X6_init
set_option maxRecDepth 100000 in
theorem ggX7_init_X5_init : GoodIn wsX7_init wsX5_init := goodIn_r _ [58, 59, 2, 3, 60, 61, 62, 89, 90, 91, 92, 93, 94, 95] rfl (by decide +kernel)
theorem gX7_init_X5_init : GoodIn wsX7_init (wsX5_init) := ggX7_init_X5_init
set_option maxRecDepth 100000 in
theorem ggX7_init_X2_init : GoodIn wsX7_init wsX2_init := goodIn_r _ [65, 66, 2, 3, 60, 67, 96, 97] rfl (by decide +kernel)
theorem gX7_init_X2_init : GoodIn wsX7_init (wsX2_init) := ggX7_init_X2_init
theorem dX7_init_0 : decode cX7_init 0 = .ok (.aload_n 0, 1) := by decide +kernel
theorem dX7_init_1 : decode cX7_init 1 = .ok (.invokespecial 3, 3) := by decide +kernel
theorem dX7_init_4 : decode cX7_init 4 = .ok (.aload_n 0, 1) := by decide +kernel
theorem dX7_init_5 : decode cX7_init 5 = .ok (.new 9, 3) := by decide +kernel
theorem dX7_init_8 : decode cX7_init 8 = .ok (.dup, 1) := by decide +kernel
theorem dX7_init_9 : decode cX7_init 9 = .ok (.invokespecial 11, 3) := by decide +kernel
theorem dX7_init_12 : decode cX7_init 12 = .ok (.putfield 12, 3) := by decide +kernel
theorem dX7_init_15 : decode cX7_init 15 = .ok (.aload_n 0, 1) := by decide +kernel
theorem dX7_init_16 : decode cX7_init 16 = .ok (.new 16, 3) := by decide +kernel
theorem dX7_init_19 : decode cX7_init 19 = .ok (.dup, 1) := by decide +kernel
theorem dX7_init_20 : decode cX7_init 20 = .ok (.invokespecial 18, 3) := by decide +kernel
theorem dX7_init_23 : decode cX7_init 23 = .ok (.putfield 19, 3) := by decide +kernel
theorem dX7_init_26 : decode cX7_init 26 = .ok (.aload_n 0, 1) := by decide +kernel
theorem dX7_init_27 : decode cX7_init 27 = .ok (.new 23, 3) := by decide +kernel
theorem dX7_init_30 : decode cX7_init 30 = .ok (.dup, 1) := by decide +kernel
theorem dX7_init_31 : decode cX7_init 31 = .ok (.invokespecial 25, 3) := by decide +kernel
theorem dX7_init_34 : decode cX7_init 34 = .ok (.putfield 26, 3) := by decide +kernel
theorem dX7_init_37 : decode cX7_init 37 = .ok (.aload_n 0, 1) := by decide +kernel
theorem dX7_init_38 : decode cX7_init 38 = .ok (.new 30, 3) := by decide +kernel
theorem dX7_init_41 : decode cX7_init 41 = .ok (.dup, 1) := by decide +kernel
theorem dX7_init_42 : decode cX7_init 42 = .ok (.invokespecial 32, 3) := by decide +kernel
theorem dX7_init_45 : decode cX7_init 45 = .ok (.putfield 33, 3) := by decide +kernel
theorem dX7_init_48 : decode cX7_init 48 = .ok (.aload_n 0, 1) := by decide +kernel
theorem dX7_init_49 : decode cX7_init 49 = .ok (.new 37, 3) := by decide +kernel
theorem dX7_init_52 : decode cX7_init 52 = .ok (.dup, 1) := by decide +kernel
theorem dX7_init_53 : decode cX7_init 53 = .ok (.invokespecial 39, 3) := by decide +kernel
theorem dX7_init_56 : decode cX7_init 56 = .ok (.putfield 40, 3) := by decide +kernel
theorem dX7_init_59 : decode cX7_init 59 = .ok (.return_, 1) := by decide +kernel
set_option maxRecDepth 100000 in
theorem ggX7_half_X7_isHalf : GoodIn wsX7_half wsX7_isHalf := goodIn_r _ [5] rfl (by decide +kernel)
set_option maxRecDepth 100000 in
theorem gX7_half_X7_isHalf : GoodIn wsX7_half (va_wsS RX7 44 yX7_isHalf wsX7_isHalf) := goodIn_app (goodIn_r _ [2, 3, 4] rfl (by decide +kernel)) ggX7_half_X7_isHalf
set_option maxRecDepth 100000 in
theorem ggX7_half_X3_halfAt : GoodIn wsX7_half wsX3_halfAt := goodIn_r _ [10, 11, 3, 4, 5, 23] rfl (by decide +kernel)
set_option maxRecDepth 100000 in
theorem gX7_half_X3_halfAt : GoodIn wsX7_half (wsV RX7 48 RX3 yX3_halfAt wsX3_halfAt) := goodIn_app (goodIn_r _ [6, 7, 8, 9] rfl (by decide +kernel)) ggX7_half_X3_halfAt
theorem dX7_half_0 : decode cX7_half 0 = .ok (.iload_n 1, 1) := by decide +kernel
theorem dX7_half_1 : decode cX7_half 1 = .ok (.invokestatic 44, 3) := by decide +kernel
theorem dX7_half_4 : decode cX7_half 4 = .ok (.ifCond .eq 14, 3) := by decide +kernel
theorem dX7_half_7 : decode cX7_half 7 = .ok (.aload_n 0, 1) := by decide +kernel
theorem dX7_half_8 : decode cX7_half 8 = .ok (.getfield 12, 3) := by decide +kernel
theorem dX7_half_11 : decode cX7_half 11 = .ok (.iload_n 1, 1) := by decide +kernel
theorem dX7_half_12 : decode cX7_half 12 = .ok (.invokevirtual 48, 3) := by decide +kernel
theorem dX7_half_15 : decode cX7_half 15 = .ok (.goto 4, 3) := by decide +kernel
theorem dX7_half_18 : decode cX7_half 18 = .ok (.iconst (-1), 1) := by decide +kernel
theorem dX7_half_19 : decode cX7_half 19 = .ok (.ireturn, 1) := by decide +kernel
set_option maxRecDepth 100000 in
theorem ggX7_put_X7_isHalf : GoodIn wsX7_put wsX7_isHalf := goodIn_r _ [6] rfl (by decide +kernel)
set_option maxRecDepth 100000 in
theorem gX7_put_X7_isHalf : GoodIn wsX7_put (va_wsS RX7 44 yX7_isHalf wsX7_isHalf) := goodIn_app (goodIn_r _ [3, 4, 5] rfl (by decide +kernel)) ggX7_put_X7_isHalf
set_option maxRecDepth 100000 in
theorem ggX7_put_X3_halfAt : GoodIn wsX7_put wsX3_halfAt := goodIn_r _ [11, 12, 4, 5, 6, 29] rfl (by decide +kernel)
set_option maxRecDepth 100000 in
theorem gX7_put_X3_halfAt : GoodIn wsX7_put (wsV RX7 48 RX3 yX3_halfAt wsX3_halfAt) := goodIn_app (goodIn_r _ [7, 8, 9, 10] rfl (by decide +kernel)) ggX7_put_X3_halfAt
set_option maxRecDepth 100000 in
theorem ggX7_put_X3_keepHalf : GoodIn wsX7_put wsX3_keepHalf := goodIn_r _ [16, 12, 17, 4, 5, 6, 29] rfl (by decide +kernel)
set_option maxRecDepth 100000 in
theorem gX7_put_X3_keepHalf : GoodIn wsX7_put (wsV RX7 53 RX3 yX3_keepHalf wsX3_keepHalf) := goodIn_app (goodIn_r _ [13, 14, 15, 10] rfl (by decide +kernel)) ggX7_put_X3_keepHalf
theorem dX7_put_0 : decode cX7_put 0 = .ok (.iload_n 1, 1) := by decide +kernel
theorem dX7_put_1 : decode cX7_put 1 = .ok (.invokestatic 44, 3) := by decide +kernel
theorem dX7_put_4 : decode cX7_put 4 = .ok (.ifCond .eq 13, 3) := by decide +kernel
theorem dX7_put_7 : decode cX7_put 7 = .ok (.iload_n 2, 1) := by decide +kernel
theorem dX7_put_8 : decode cX7_put 8 = .ok (.ifCond .lt 9, 3) := by decide +kernel
theorem dX7_put_11 : decode cX7_put 11 = .ok (.iload_n 2, 1) := by decide +kernel
theorem dX7_put_12 : decode cX7_put 12 = .ok (.ldc 52, 2) := by decide +kernel
theorem dX7_put_14 : decode cX7_put 14 = .ok (.if_icmp .le 5, 3) := by decide +kernel
theorem dX7_put_17 : decode cX7_put 17 = .ok (.iconst (-1), 1) := by decide +kernel
theorem dX7_put_18 : decode cX7_put 18 = .ok (.ireturn, 1) := by decide +kernel
theorem dX7_put_19 : decode cX7_put 19 = .ok (.aload_n 0, 1) := by decide +kernel
theorem dX7_put_20 : decode cX7_put 20 = .ok (.getfield 12, 3) := by decide +kernel
theorem dX7_put_23 : decode cX7_put 23 = .ok (.iload_n 1, 1) := by decide +kernel
theorem dX7_put_24 : decode cX7_put 24 = .ok (.invokevirtual 48, 3) := by decide +kernel
theorem dX7_put_27 : decode cX7_put 27 = .ok (.istore_n 3, 1) := by decide +kernel
theorem dX7_put_28 : decode cX7_put 28 = .ok (.aload_n 0, 1) := by decide +kernel
theorem dX7_put_29 : decode cX7_put 29 = .ok (.getfield 12, 3) := by decide +kernel
theorem dX7_put_32 : decode cX7_put 32 = .ok (.iload_n 1, 1) := by decide +kernel
theorem dX7_put_33 : decode cX7_put 33 = .ok (.iload_n 2, 1) := by decide +kernel
theorem dX7_put_34 : decode cX7_put 34 = .ok (.invokevirtual 53, 3) := by decide +kernel
theorem dX7_put_37 : decode cX7_put 37 = .ok (.iload_n 3, 1) := by decide +kernel
theorem dX7_put_38 : decode cX7_put 38 = .ok (.ireturn, 1) := by decide +kernel
set_option maxRecDepth 100000 in
theorem ggX7_whole_X7_isHalf : GoodIn wsX7_whole wsX7_isHalf := goodIn_r _ [6] rfl (by decide +kernel)
set_option maxRecDepth 100000 in
theorem gX7_whole_X7_isHalf : GoodIn wsX7_whole (va_wsS RX7 44 yX7_isHalf wsX7_isHalf) := goodIn_app (goodIn_r _ [3, 4, 5] rfl (by decide +kernel)) ggX7_whole_X7_isHalf
set_option maxRecDepth 100000 in
theorem ggX7_whole_X3_wholeAt : GoodIn wsX7_whole wsX3_wholeAt := goodIn_r _ [11, 12, 13, 14, 10, 15, 16, 4, 5, 6, 28] rfl (by decide +kernel)
set_option maxRecDepth 100000 in
theorem gX7_whole_X3_wholeAt : GoodIn wsX7_whole (wsV RX7 57 RX3 yX3_wholeAt wsX3_wholeAt) := goodIn_app (goodIn_r _ [7, 8, 9, 10] rfl (by decide +kernel)) ggX7_whole_X3_wholeAt
theorem dX7_whole_0 : decode cX7_whole 0 = .ok (.iload_n 1, 1) := by decide +kernel
theorem dX7_whole_1 : decode cX7_whole 1 = .ok (.invokestatic 44, 3) := by decide +kernel
theorem dX7_whole_4 : decode cX7_whole 4 = .ok (.ifCond .eq 20, 3) := by decide +kernel
theorem dX7_whole_7 : decode cX7_whole 7 = .ok (.iload_n 1, 1) := by decide +kernel
theorem dX7_whole_8 : decode cX7_whole 8 = .ok (.iconst 1, 1) := by decide +kernel
theorem dX7_whole_9 : decode cX7_whole 9 = .ok (.iand, 1) := by decide +kernel
theorem dX7_whole_10 : decode cX7_whole 10 = .ok (.ifCond .ne 14, 3) := by decide +kernel
theorem dX7_whole_13 : decode cX7_whole 13 = .ok (.aload_n 0, 1) := by decide +kernel
theorem dX7_whole_14 : decode cX7_whole 14 = .ok (.getfield 12, 3) := by decide +kernel
theorem dX7_whole_17 : decode cX7_whole 17 = .ok (.iload_n 1, 1) := by decide +kernel
theorem dX7_whole_18 : decode cX7_whole 18 = .ok (.invokevirtual 57, 3) := by decide +kernel
theorem dX7_whole_21 : decode cX7_whole 21 = .ok (.goto 6, 3) := by decide +kernel
theorem dX7_whole_24 : decode cX7_whole 24 = .ok (.ldc2_w 61, 3) := by decide +kernel
theorem dX7_whole_27 : decode cX7_whole 27 = .ok (.lreturn, 1) := by decide +kernel
theorem dX7_told_0 : decode cX7_told 0 = .ok (.iload_n 1, 1) := by decide +kernel
theorem dX7_told_1 : decode cX7_told 1 = .ok (.tableswitch 144 0 9 #[55, 64, 72, 81, 89, 105, 111, 117, 129, 135], 55) := by decide +kernel
theorem dX7_told_56 : decode cX7_told 56 = .ok (.aload_n 0, 1) := by decide +kernel
theorem dX7_told_57 : decode cX7_told 57 = .ok (.getfield 19, 3) := by decide +kernel
theorem dX7_told_60 : decode cX7_told 60 = .ok (.getfield 63, 3) := by decide +kernel
theorem dX7_told_63 : decode cX7_told 63 = .ok (.i2l, 1) := by decide +kernel
theorem dX7_told_64 : decode cX7_told 64 = .ok (.lreturn, 1) := by decide +kernel
theorem dX7_told_65 : decode cX7_told 65 = .ok (.aload_n 0, 1) := by decide +kernel
theorem dX7_told_66 : decode cX7_told 66 = .ok (.getfield 19, 3) := by decide +kernel
theorem dX7_told_69 : decode cX7_told 69 = .ok (.getfield 67, 3) := by decide +kernel
theorem dX7_told_72 : decode cX7_told 72 = .ok (.lreturn, 1) := by decide +kernel
theorem dX7_told_73 : decode cX7_told 73 = .ok (.aload_n 0, 1) := by decide +kernel
theorem dX7_told_74 : decode cX7_told 74 = .ok (.getfield 19, 3) := by decide +kernel
theorem dX7_told_77 : decode cX7_told 77 = .ok (.getfield 71, 3) := by decide +kernel
theorem dX7_told_80 : decode cX7_told 80 = .ok (.i2l, 1) := by decide +kernel
theorem dX7_told_81 : decode cX7_told 81 = .ok (.lreturn, 1) := by decide +kernel
theorem dX7_told_82 : decode cX7_told 82 = .ok (.aload_n 0, 1) := by decide +kernel
theorem dX7_told_83 : decode cX7_told 83 = .ok (.getfield 19, 3) := by decide +kernel
theorem dX7_told_86 : decode cX7_told 86 = .ok (.getfield 74, 3) := by decide +kernel
theorem dX7_told_89 : decode cX7_told 89 = .ok (.lreturn, 1) := by decide +kernel
theorem dX7_told_90 : decode cX7_told 90 = .ok (.aload_n 0, 1) := by decide +kernel
theorem dX7_told_91 : decode cX7_told 91 = .ok (.getfield 19, 3) := by decide +kernel
theorem dX7_told_94 : decode cX7_told 94 = .ok (.getfield 77, 3) := by decide +kernel
theorem dX7_told_97 : decode cX7_told 97 = .ok (.ifCond .eq 7, 3) := by decide +kernel
theorem dX7_told_100 : decode cX7_told 100 = .ok (.lconst 1, 1) := by decide +kernel
theorem dX7_told_101 : decode cX7_told 101 = .ok (.goto 4, 3) := by decide +kernel
theorem dX7_told_104 : decode cX7_told 104 = .ok (.lconst 0, 1) := by decide +kernel
theorem dX7_told_105 : decode cX7_told 105 = .ok (.lreturn, 1) := by decide +kernel
theorem dX7_told_106 : decode cX7_told 106 = .ok (.aload_n 0, 1) := by decide +kernel
theorem dX7_told_107 : decode cX7_told 107 = .ok (.getfield 81, 3) := by decide +kernel
theorem dX7_told_110 : decode cX7_told 110 = .ok (.i2l, 1) := by decide +kernel
theorem dX7_told_111 : decode cX7_told 111 = .ok (.lreturn, 1) := by decide +kernel
theorem dX7_told_112 : decode cX7_told 112 = .ok (.aload_n 0, 1) := by decide +kernel
theorem dX7_told_113 : decode cX7_told 113 = .ok (.getfield 84, 3) := by decide +kernel
theorem dX7_told_116 : decode cX7_told 116 = .ok (.i2l, 1) := by decide +kernel
theorem dX7_told_117 : decode cX7_told 117 = .ok (.lreturn, 1) := by decide +kernel
theorem dX7_told_118 : decode cX7_told 118 = .ok (.aload_n 0, 1) := by decide +kernel
theorem dX7_told_119 : decode cX7_told 119 = .ok (.getfield 26, 3) := by decide +kernel
theorem dX7_told_122 : decode cX7_told 122 = .ok (.getfield 87, 3) := by decide +kernel
theorem dX7_told_125 : decode cX7_told 125 = .ok (.getfield 91, 3) := by decide +kernel
theorem dX7_told_128 : decode cX7_told 128 = .ok (.i2l, 1) := by decide +kernel
theorem dX7_told_129 : decode cX7_told 129 = .ok (.lreturn, 1) := by decide +kernel
theorem dX7_told_130 : decode cX7_told 130 = .ok (.aload_n 0, 1) := by decide +kernel
theorem dX7_told_131 : decode cX7_told 131 = .ok (.getfield 94, 3) := by decide +kernel
theorem dX7_told_134 : decode cX7_told 134 = .ok (.i2l, 1) := by decide +kernel
theorem dX7_told_135 : decode cX7_told 135 = .ok (.lreturn, 1) := by decide +kernel
theorem dX7_told_136 : decode cX7_told 136 = .ok (.aload_n 0, 1) := by decide +kernel
theorem dX7_told_137 : decode cX7_told 137 = .ok (.getfield 26, 3) := by decide +kernel
theorem dX7_told_140 : decode cX7_told 140 = .ok (.getfield 97, 3) := by decide +kernel
theorem dX7_told_143 : decode cX7_told 143 = .ok (.i2l, 1) := by decide +kernel
theorem dX7_told_144 : decode cX7_told 144 = .ok (.lreturn, 1) := by decide +kernel
theorem dX7_told_145 : decode cX7_told 145 = .ok (.ldc2_w 61, 3) := by decide +kernel
theorem dX7_told_148 : decode cX7_told 148 = .ok (.lreturn, 1) := by decide +kernel
set_option maxRecDepth 100000 in
theorem ggX7_set_X7_mostOfRegister : GoodIn wsX7_set wsX7_mostOfRegister := goodIn_r _ [11, 12, 13, 14, 15] rfl (by decide +kernel)
set_option maxRecDepth 100000 in
theorem gX7_set_X7_mostOfRegister : GoodIn wsX7_set (va_wsS RX7 100 yX7_mostOfRegister wsX7_mostOfRegister) := goodIn_app (goodIn_r _ [8, 9, 10] rfl (by decide +kernel)) ggX7_set_X7_mostOfRegister
theorem dX7_set_0 : decode cX7_set 0 = .ok (.lload_n 2, 1) := by decide +kernel
theorem dX7_set_1 : decode cX7_set 1 = .ok (.lconst 0, 1) := by decide +kernel
theorem dX7_set_2 : decode cX7_set 2 = .ok (.lcmp, 1) := by decide +kernel
theorem dX7_set_3 : decode cX7_set 3 = .ok (.ifCond .lt 12, 3) := by decide +kernel
theorem dX7_set_6 : decode cX7_set 6 = .ok (.lload_n 2, 1) := by decide +kernel
theorem dX7_set_7 : decode cX7_set 7 = .ok (.iload_n 1, 1) := by decide +kernel
theorem dX7_set_8 : decode cX7_set 8 = .ok (.invokestatic 100, 3) := by decide +kernel
theorem dX7_set_11 : decode cX7_set 11 = .ok (.lcmp, 1) := by decide +kernel
theorem dX7_set_12 : decode cX7_set 12 = .ok (.ifCond .le 5, 3) := by decide +kernel
theorem dX7_set_15 : decode cX7_set 15 = .ok (.iconst (-1), 1) := by decide +kernel
theorem dX7_set_16 : decode cX7_set 16 = .ok (.ireturn, 1) := by decide +kernel
theorem dX7_set_17 : decode cX7_set 17 = .ok (.iload_n 1, 1) := by decide +kernel
theorem dX7_set_18 : decode cX7_set 18 = .ok (.tableswitch 101 0 4 #[34, 46, 57, 69, 80], 34) := by decide +kernel
theorem dX7_set_52 : decode cX7_set 52 = .ok (.aload_n 0, 1) := by decide +kernel
theorem dX7_set_53 : decode cX7_set 53 = .ok (.getfield 19, 3) := by decide +kernel
theorem dX7_set_56 : decode cX7_set 56 = .ok (.lload_n 2, 1) := by decide +kernel
theorem dX7_set_57 : decode cX7_set 57 = .ok (.l2i, 1) := by decide +kernel
theorem dX7_set_58 : decode cX7_set 58 = .ok (.putfield 63, 3) := by decide +kernel
theorem dX7_set_61 : decode cX7_set 61 = .ok (.goto 64, 3) := by decide +kernel
theorem dX7_set_64 : decode cX7_set 64 = .ok (.aload_n 0, 1) := by decide +kernel
theorem dX7_set_65 : decode cX7_set 65 = .ok (.getfield 19, 3) := by decide +kernel
theorem dX7_set_68 : decode cX7_set 68 = .ok (.lload_n 2, 1) := by decide +kernel
theorem dX7_set_69 : decode cX7_set 69 = .ok (.putfield 67, 3) := by decide +kernel
theorem dX7_set_72 : decode cX7_set 72 = .ok (.goto 53, 3) := by decide +kernel
theorem dX7_set_75 : decode cX7_set 75 = .ok (.aload_n 0, 1) := by decide +kernel
theorem dX7_set_76 : decode cX7_set 76 = .ok (.getfield 19, 3) := by decide +kernel
theorem dX7_set_79 : decode cX7_set 79 = .ok (.lload_n 2, 1) := by decide +kernel
theorem dX7_set_80 : decode cX7_set 80 = .ok (.l2i, 1) := by decide +kernel
theorem dX7_set_81 : decode cX7_set 81 = .ok (.putfield 71, 3) := by decide +kernel
theorem dX7_set_84 : decode cX7_set 84 = .ok (.goto 41, 3) := by decide +kernel
theorem dX7_set_87 : decode cX7_set 87 = .ok (.aload_n 0, 1) := by decide +kernel
theorem dX7_set_88 : decode cX7_set 88 = .ok (.getfield 19, 3) := by decide +kernel
theorem dX7_set_91 : decode cX7_set 91 = .ok (.lload_n 2, 1) := by decide +kernel
theorem dX7_set_92 : decode cX7_set 92 = .ok (.putfield 74, 3) := by decide +kernel
theorem dX7_set_95 : decode cX7_set 95 = .ok (.goto 30, 3) := by decide +kernel
theorem dX7_set_98 : decode cX7_set 98 = .ok (.aload_n 0, 1) := by decide +kernel
theorem dX7_set_99 : decode cX7_set 99 = .ok (.getfield 19, 3) := by decide +kernel
theorem dX7_set_102 : decode cX7_set 102 = .ok (.lload_n 2, 1) := by decide +kernel
theorem dX7_set_103 : decode cX7_set 103 = .ok (.lconst 1, 1) := by decide +kernel
theorem dX7_set_104 : decode cX7_set 104 = .ok (.lcmp, 1) := by decide +kernel
theorem dX7_set_105 : decode cX7_set 105 = .ok (.ifCond .ne 7, 3) := by decide +kernel
theorem dX7_set_108 : decode cX7_set 108 = .ok (.iconst 1, 1) := by decide +kernel
theorem dX7_set_109 : decode cX7_set 109 = .ok (.goto 4, 3) := by decide +kernel
theorem dX7_set_112 : decode cX7_set 112 = .ok (.iconst 0, 1) := by decide +kernel
theorem dX7_set_113 : decode cX7_set 113 = .ok (.putfield 77, 3) := by decide +kernel
theorem dX7_set_116 : decode cX7_set 116 = .ok (.goto 9, 3) := by decide +kernel
theorem dX7_set_119 : decode cX7_set 119 = .ok (.aload_n 0, 1) := by decide +kernel
theorem dX7_set_120 : decode cX7_set 120 = .ok (.lload_n 2, 1) := by decide +kernel
theorem dX7_set_121 : decode cX7_set 121 = .ok (.l2i, 1) := by decide +kernel
theorem dX7_set_122 : decode cX7_set 122 = .ok (.putfield 81, 3) := by decide +kernel
theorem dX7_set_125 : decode cX7_set 125 = .ok (.iconst 1, 1) := by decide +kernel
theorem dX7_set_126 : decode cX7_set 126 = .ok (.ireturn, 1) := by decide +kernel
set_option maxRecDepth 100000 in
theorem ggX7_turn_X7_bitOf : GoodIn wsX7_turn wsX7_bitOf := goodIn_r _ [5] rfl (by decide +kernel)
set_option maxRecDepth 100000 in
theorem gX7_turn_X7_bitOf : GoodIn wsX7_turn (va_wsS RX7 103 yX7_bitOf wsX7_bitOf) := goodIn_app (goodIn_r _ [2, 3, 4] rfl (by decide +kernel)) ggX7_turn_X7_bitOf
theorem dX7_turn_0 : decode cX7_turn 0 = .ok (.iload_n 1, 1) := by decide +kernel
theorem dX7_turn_1 : decode cX7_turn 1 = .ok (.iconst 1, 1) := by decide +kernel
theorem dX7_turn_2 : decode cX7_turn 2 = .ok (.if_icmp .lt 8, 3) := by decide +kernel
theorem dX7_turn_5 : decode cX7_turn 5 = .ok (.iload_n 1, 1) := by decide +kernel
theorem dX7_turn_6 : decode cX7_turn 6 = .ok (.iconst 4, 1) := by decide +kernel
theorem dX7_turn_7 : decode cX7_turn 7 = .ok (.if_icmp .le 5, 3) := by decide +kernel
theorem dX7_turn_10 : decode cX7_turn 10 = .ok (.iconst (-1), 1) := by decide +kernel
theorem dX7_turn_11 : decode cX7_turn 11 = .ok (.ireturn, 1) := by decide +kernel
theorem dX7_turn_12 : decode cX7_turn 12 = .ok (.iload_n 1, 1) := by decide +kernel
theorem dX7_turn_13 : decode cX7_turn 13 = .ok (.invokestatic 103, 3) := by decide +kernel
theorem dX7_turn_16 : decode cX7_turn 16 = .ok (.istore_n 3, 1) := by decide +kernel
theorem dX7_turn_17 : decode cX7_turn 17 = .ok (.aload_n 0, 1) := by decide +kernel
theorem dX7_turn_18 : decode cX7_turn 18 = .ok (.getfield 106, 3) := by decide +kernel
theorem dX7_turn_21 : decode cX7_turn 21 = .ok (.iload_n 3, 1) := by decide +kernel
theorem dX7_turn_22 : decode cX7_turn 22 = .ok (.iand, 1) := by decide +kernel
theorem dX7_turn_23 : decode cX7_turn 23 = .ok (.ifCond .eq 7, 3) := by decide +kernel
theorem dX7_turn_26 : decode cX7_turn 26 = .ok (.iconst 1, 1) := by decide +kernel
theorem dX7_turn_27 : decode cX7_turn 27 = .ok (.goto 4, 3) := by decide +kernel
theorem dX7_turn_30 : decode cX7_turn 30 = .ok (.iconst 0, 1) := by decide +kernel
theorem dX7_turn_31 : decode cX7_turn 31 = .ok (.istore 4, 2) := by decide +kernel
theorem dX7_turn_33 : decode cX7_turn 33 = .ok (.aload_n 0, 1) := by decide +kernel
theorem dX7_turn_34 : decode cX7_turn 34 = .ok (.iload_n 2, 1) := by decide +kernel
theorem dX7_turn_35 : decode cX7_turn 35 = .ok (.ifCond .eq 12, 3) := by decide +kernel
theorem dX7_turn_38 : decode cX7_turn 38 = .ok (.aload_n 0, 1) := by decide +kernel
theorem dX7_turn_39 : decode cX7_turn 39 = .ok (.getfield 106, 3) := by decide +kernel
theorem dX7_turn_42 : decode cX7_turn 42 = .ok (.iload_n 3, 1) := by decide +kernel
theorem dX7_turn_43 : decode cX7_turn 43 = .ok (.ior, 1) := by decide +kernel
theorem dX7_turn_44 : decode cX7_turn 44 = .ok (.goto 11, 3) := by decide +kernel
theorem dX7_turn_47 : decode cX7_turn 47 = .ok (.aload_n 0, 1) := by decide +kernel
theorem dX7_turn_48 : decode cX7_turn 48 = .ok (.getfield 106, 3) := by decide +kernel
theorem dX7_turn_51 : decode cX7_turn 51 = .ok (.iload_n 3, 1) := by decide +kernel
theorem dX7_turn_52 : decode cX7_turn 52 = .ok (.iconst (-1), 1) := by decide +kernel
theorem dX7_turn_53 : decode cX7_turn 53 = .ok (.ixor, 1) := by decide +kernel
theorem dX7_turn_54 : decode cX7_turn 54 = .ok (.iand, 1) := by decide +kernel
theorem dX7_turn_55 : decode cX7_turn 55 = .ok (.putfield 106, 3) := by decide +kernel
theorem dX7_turn_58 : decode cX7_turn 58 = .ok (.iload 4, 2) := by decide +kernel
theorem dX7_turn_60 : decode cX7_turn 60 = .ok (.ireturn, 1) := by decide +kernel
set_option maxRecDepth 100000 in
theorem ggX7_run_X7_doNextAct : GoodIn wsX7_run wsX7_doNextAct := goodIn_td 40 (goodIn_r _ [6, 7, 8, 9, 1, 10, 11, 12, 13, 14, 15, 16, 17, 18, 5, 19, 20, 21, 22, 23, 24, 25, 26, 27, 28, 29, 30, 31, 32, 33, 34, 35, 36, 37, 38, 39, 40, 41, 42, 43] rfl (by decide +kernel)) (goodIn_td 40 (goodIn_r _ [44, 45, 46, 47, 48, 49, 50, 51, 52, 53, 54, 55, 56, 57, 58, 59, 60, 61, 62, 63, 64, 65, 66, 67, 68, 69, 70, 71, 72, 73, 74, 75, 76, 77, 78, 79, 80, 81, 82, 83] rfl (by decide +kernel)) (goodIn_td 40 (goodIn_r _ [84, 85, 86, 87, 88, 89, 90, 91, 92, 93, 94, 95, 96, 97, 98, 99, 100, 101, 102, 103, 104, 105, 106, 107, 108, 109, 110, 111, 112, 113, 114, 115, 116, 117, 118, 119, 120, 121, 122, 123] rfl (by decide +kernel)) (goodIn_td 40 (goodIn_r _ [124, 125, 126, 127, 128, 129, 130, 131, 132, 133, 134, 135, 136, 137, 138, 139, 140, 141, 142, 143, 144, 145, 146, 147, 148, 149, 150, 151, 152, 153, 154, 155, 156, 157, 158, 159, 160, 161, 162, 163] rfl (by decide +kernel)) (goodIn_td 40 (goodIn_r _ [164, 165, 166, 167, 168, 169, 170, 171, 172, 173, 174, 175, 176, 177, 178, 179, 180, 181, 182, 183, 184, 185, 186, 187, 188, 189, 190, 191, 192, 193, 194, 195, 196, 197, 198, 199, 200, 201, 202, 203] rfl (by decide +kernel)) (goodIn_td 40 (goodIn_r _ [204, 205, 206, 207, 208, 209, 210, 211, 212, 213, 214, 215, 216, 217, 218, 219, 220, 221, 222, 223, 224, 225, 226, 227, 228, 229, 230, 231, 232, 233, 234, 235, 236, 237, 238, 239, 240, 241, 242, 243] rfl (by decide +kernel)) (goodIn_r _ [244, 245, 246, 247, 248, 249, 250, 251, 252, 253, 254, 255, 256, 257, 258, 259, 260, 261, 262, 263, 264, 265, 266, 267, 268, 269, 270, 271, 272, 273, 274, 275, 276] rfl (by decide +kernel)))))))
set_option maxRecDepth 100000 in
theorem gX7_run_X7_doNextAct : GoodIn wsX7_run (wsV RX7 109 RX7 yX7_doNextAct wsX7_doNextAct) := goodIn_app (goodIn_r _ [2, 3, 4, 5] rfl (by decide +kernel)) ggX7_run_X7_doNextAct
theorem dX7_run_0 : decode cX7_run 0 = .ok (.iload_n 1, 1) := by decide +kernel
theorem dX7_run_1 : decode cX7_run 1 = .ok (.ifCond .lt 10, 3) := by decide +kernel
theorem dX7_run_4 : decode cX7_run 4 = .ok (.iload_n 1, 1) := by decide +kernel
theorem dX7_run_5 : decode cX7_run 5 = .ok (.sipush 20000, 3) := by decide +kernel
theorem dX7_run_8 : decode cX7_run 8 = .ok (.if_icmp .le 5, 3) := by decide +kernel
theorem dX7_run_11 : decode cX7_run 11 = .ok (.iconst (-1), 1) := by decide +kernel
theorem dX7_run_12 : decode cX7_run 12 = .ok (.ireturn, 1) := by decide +kernel
theorem dX7_run_13 : decode cX7_run 13 = .ok (.aload_n 0, 1) := by decide +kernel
theorem dX7_run_14 : decode cX7_run 14 = .ok (.iconst 0, 1) := by decide +kernel
theorem dX7_run_15 : decode cX7_run 15 = .ok (.putfield 94, 3) := by decide +kernel
theorem dX7_run_18 : decode cX7_run 18 = .ok (.iconst 0, 1) := by decide +kernel
theorem dX7_run_19 : decode cX7_run 19 = .ok (.istore_n 2, 1) := by decide +kernel
theorem dX7_run_20 : decode cX7_run 20 = .ok (.iload_n 2, 1) := by decide +kernel
theorem dX7_run_21 : decode cX7_run 21 = .ok (.iload_n 1, 1) := by decide +kernel
theorem dX7_run_22 : decode cX7_run 22 = .ok (.if_icmp .ge 20, 3) := by decide +kernel
theorem dX7_run_25 : decode cX7_run 25 = .ok (.aload_n 0, 1) := by decide +kernel
theorem dX7_run_26 : decode cX7_run 26 = .ok (.getfield 94, 3) := by decide +kernel
theorem dX7_run_29 : decode cX7_run 29 = .ok (.ifCond .ne 13, 3) := by decide +kernel
theorem dX7_run_32 : decode cX7_run 32 = .ok (.aload_n 0, 1) := by decide +kernel
theorem dX7_run_33 : decode cX7_run 33 = .ok (.invokevirtual 109, 3) := by decide +kernel
theorem dX7_run_36 : decode cX7_run 36 = .ok (.iinc 2 1, 3) := by decide +kernel
theorem dX7_run_39 : decode cX7_run 39 = .ok (.goto (-19), 3) := by decide +kernel
theorem dX7_run_42 : decode cX7_run 42 = .ok (.iload_n 2, 1) := by decide +kernel
theorem dX7_run_43 : decode cX7_run 43 = .ok (.ireturn, 1) := by decide +kernel
set_option maxRecDepth 100000 in
theorem ggX7_step_X7_doNextAct : GoodIn wsX7_step wsX7_doNextAct := goodIn_td 40 (goodIn_r _ [6, 7, 8, 9, 1, 10, 11, 12, 13, 14, 15, 16, 17, 18, 5, 19, 20, 21, 22, 23, 24, 25, 26, 27, 28, 29, 30, 31, 32, 33, 34, 35, 36, 37, 38, 39, 40, 41, 42, 43] rfl (by decide +kernel)) (goodIn_td 40 (goodIn_r _ [44, 45, 46, 47, 48, 49, 50, 51, 52, 53, 54, 55, 56, 57, 58, 59, 60, 61, 62, 63, 64, 65, 66, 67, 68, 69, 70, 71, 72, 73, 74, 75, 76, 77, 78, 79, 80, 81, 82, 83] rfl (by decide +kernel)) (goodIn_td 40 (goodIn_r _ [84, 85, 86, 87, 88, 89, 90, 91, 92, 93, 94, 95, 96, 97, 98, 99, 100, 101, 102, 103, 104, 105, 106, 107, 108, 109, 110, 111, 112, 113, 114, 115, 116, 117, 118, 119, 120, 121, 122, 123] rfl (by decide +kernel)) (goodIn_td 40 (goodIn_r _ [124, 125, 126, 127, 128, 129, 130, 131, 132, 133, 134, 135, 136, 137, 138, 139, 140, 141, 142, 143, 144, 145, 146, 147, 148, 149, 150, 151, 152, 153, 154, 155, 156, 157, 158, 159, 160, 161, 162, 163] rfl (by decide +kernel)) (goodIn_td 40 (goodIn_r _ [164, 165, 166, 167, 168, 169, 170, 171, 172, 173, 174, 175, 176, 177, 178, 179, 180, 181, 182, 183, 184, 185, 186, 187, 188, 189, 190, 191, 192, 193, 194, 195, 196, 197, 198, 199, 200, 201, 202, 203] rfl (by decide +kernel)) (goodIn_td 40 (goodIn_r _ [204, 205, 206, 207, 208, 209, 210, 211, 212, 213, 214, 215, 216, 217, 218, 219, 220, 221, 222, 223, 224, 225, 226, 227, 228, 229, 230, 231, 232, 233, 234, 235, 236, 237, 238, 239, 240, 241, 242, 243] rfl (by decide +kernel)) (goodIn_r _ [244, 245, 246, 247, 248, 249, 250, 251, 252, 253, 254, 255, 256, 257, 258, 259, 260, 261, 262, 263, 264, 265, 266, 267, 268, 269, 270, 271, 272, 273, 274, 275, 276] rfl (by decide +kernel)))))))
set_option maxRecDepth 100000 in
theorem gX7_step_X7_doNextAct : GoodIn wsX7_step (wsV RX7 109 RX7 yX7_doNextAct wsX7_doNextAct) := goodIn_app (goodIn_r _ [2, 3, 4, 5] rfl (by decide +kernel)) ggX7_step_X7_doNextAct
theorem dX7_step_0 : decode cX7_step 0 = .ok (.aload_n 0, 1) := by decide +kernel
theorem dX7_step_1 : decode cX7_step 1 = .ok (.invokevirtual 109, 3) := by decide +kernel
theorem dX7_step_4 : decode cX7_step 4 = .ok (.aload_n 0, 1) := by decide +kernel
theorem dX7_step_5 : decode cX7_step 5 = .ok (.getfield 94, 3) := by decide +kernel
theorem dX7_step_8 : decode cX7_step 8 = .ok (.ireturn, 1) := by decide +kernel
theorem dX7_acts_0 : decode cX7_acts 0 = .ok (.aload_n 0, 1) := by decide +kernel
theorem dX7_acts_1 : decode cX7_acts 1 = .ok (.getfield 112, 3) := by decide +kernel
theorem dX7_acts_4 : decode cX7_acts 4 = .ok (.lreturn, 1) := by decide +kernel
set_option maxRecDepth 100000 in
theorem ggX7_item_X6_tapeAt : GoodIn wsX7_item wsX6_tapeAt := goodIn_r _ [7, 8, 28, 29, 30, 31] rfl (by decide +kernel)
set_option maxRecDepth 100000 in
theorem gX7_item_X6_tapeAt : GoodIn wsX7_item (wsV RX7 115 RX6 yX6_tapeAt wsX6_tapeAt) := goodIn_app (goodIn_r _ [3, 4, 5, 6] rfl (by decide +kernel)) ggX7_item_X6_tapeAt
set_option maxRecDepth 100000 in
theorem ggX7_item_X4_itemAt : GoodIn wsX7_item wsX4_itemAt := goodIn_r _ [13, 14, 15, 16, 32, 33, 34] rfl (by decide +kernel)
set_option maxRecDepth 100000 in
theorem gX7_item_X4_itemAt : GoodIn wsX7_item (wsV RX7 119 RX4 yX4_itemAt wsX4_itemAt) := goodIn_app (goodIn_r _ [9, 10, 11, 12] rfl (by decide +kernel)) ggX7_item_X4_itemAt
theorem dX7_item_0 : decode cX7_item 0 = .ok (.aload_n 0, 1) := by decide +kernel
theorem dX7_item_1 : decode cX7_item 1 = .ok (.getfield 26, 3) := by decide +kernel
theorem dX7_item_4 : decode cX7_item 4 = .ok (.iload_n 1, 1) := by decide +kernel
theorem dX7_item_5 : decode cX7_item 5 = .ok (.invokevirtual 115, 3) := by decide +kernel
theorem dX7_item_8 : decode cX7_item 8 = .ok (.astore_n 3, 1) := by decide +kernel
theorem dX7_item_9 : decode cX7_item 9 = .ok (.aload_n 3, 1) := by decide +kernel
theorem dX7_item_10 : decode cX7_item 10 = .ok (.ifnonnull 9, 3) := by decide +kernel
theorem dX7_item_13 : decode cX7_item 13 = .ok (.ldc2_w 61, 3) := by decide +kernel
theorem dX7_item_16 : decode cX7_item 16 = .ok (.goto 8, 3) := by decide +kernel
theorem dX7_item_19 : decode cX7_item 19 = .ok (.aload_n 3, 1) := by decide +kernel
theorem dX7_item_20 : decode cX7_item 20 = .ok (.iload_n 2, 1) := by decide +kernel
theorem dX7_item_21 : decode cX7_item 21 = .ok (.invokevirtual 119, 3) := by decide +kernel
theorem dX7_item_24 : decode cX7_item 24 = .ok (.lreturn, 1) := by decide +kernel
set_option maxRecDepth 100000 in
theorem ggX7_lay_X6_tapeAt : GoodIn wsX7_lay wsX6_tapeAt := goodIn_r _ [7, 8, 37, 38, 39, 40] rfl (by decide +kernel)
set_option maxRecDepth 100000 in
theorem gX7_lay_X6_tapeAt : GoodIn wsX7_lay (wsV RX7 115 RX6 yX6_tapeAt wsX6_tapeAt) := goodIn_app (goodIn_r _ [3, 4, 5, 6] rfl (by decide +kernel)) ggX7_lay_X6_tapeAt
set_option maxRecDepth 100000 in
theorem ggX7_lay_X7_isItem : GoodIn wsX7_lay wsX7_isItem := goodIn_r _ [12, 13, 14, 15] rfl (by decide +kernel)
set_option maxRecDepth 100000 in
theorem gX7_lay_X7_isItem : GoodIn wsX7_lay (va_wsS RX7 124 yX7_isItem wsX7_isItem) := goodIn_app (goodIn_r _ [9, 10, 11] rfl (by decide +kernel)) ggX7_lay_X7_isItem
set_option maxRecDepth 100000 in
theorem ggX7_lay_X4_addBehindAll : GoodIn wsX7_lay wsX4_addBehindAll := goodIn_r _ [20, 21, 22, 34, 35, 36] rfl (by decide +kernel)
set_option maxRecDepth 100000 in
theorem gX7_lay_X4_addBehindAll : GoodIn wsX7_lay (wsV RX7 128 RX4 yX4_addBehindAll wsX4_addBehindAll) := goodIn_app (goodIn_r _ [16, 17, 18, 19] rfl (by decide +kernel)) ggX7_lay_X4_addBehindAll
theorem dX7_lay_0 : decode cX7_lay 0 = .ok (.aload_n 0, 1) := by decide +kernel
theorem dX7_lay_1 : decode cX7_lay 1 = .ok (.getfield 26, 3) := by decide +kernel
theorem dX7_lay_4 : decode cX7_lay 4 = .ok (.iload_n 1, 1) := by decide +kernel
theorem dX7_lay_5 : decode cX7_lay 5 = .ok (.invokevirtual 115, 3) := by decide +kernel
theorem dX7_lay_8 : decode cX7_lay 8 = .ok (.astore 4, 2) := by decide +kernel
theorem dX7_lay_10 : decode cX7_lay 10 = .ok (.aload 4, 2) := by decide +kernel
theorem dX7_lay_12 : decode cX7_lay 12 = .ok (.ifnull 10, 3) := by decide +kernel
theorem dX7_lay_15 : decode cX7_lay 15 = .ok (.lload_n 2, 1) := by decide +kernel
theorem dX7_lay_16 : decode cX7_lay 16 = .ok (.invokestatic 124, 3) := by decide +kernel
theorem dX7_lay_19 : decode cX7_lay 19 = .ok (.ifCond .ne 5, 3) := by decide +kernel
theorem dX7_lay_22 : decode cX7_lay 22 = .ok (.iconst (-1), 1) := by decide +kernel
theorem dX7_lay_23 : decode cX7_lay 23 = .ok (.ireturn, 1) := by decide +kernel
theorem dX7_lay_24 : decode cX7_lay 24 = .ok (.aload 4, 2) := by decide +kernel
theorem dX7_lay_26 : decode cX7_lay 26 = .ok (.lload_n 2, 1) := by decide +kernel
theorem dX7_lay_27 : decode cX7_lay 27 = .ok (.invokevirtual 128, 3) := by decide +kernel
theorem dX7_lay_30 : decode cX7_lay 30 = .ok (.ifCond .eq 11, 3) := by decide +kernel
theorem dX7_lay_33 : decode cX7_lay 33 = .ok (.aload 4, 2) := by decide +kernel
theorem dX7_lay_35 : decode cX7_lay 35 = .ok (.getfield 131, 3) := by decide +kernel
theorem dX7_lay_38 : decode cX7_lay 38 = .ok (.goto 5, 3) := by decide +kernel
theorem dX7_lay_41 : decode cX7_lay 41 = .ok (.bipush (-2), 2) := by decide +kernel
theorem dX7_lay_43 : decode cX7_lay 43 = .ok (.ireturn, 1) := by decide +kernel
set_option maxRecDepth 100000 in
theorem ggX7_stands_X6_tapeAt : GoodIn wsX7_stands wsX6_tapeAt := goodIn_r _ [7, 8, 23, 24, 25, 26] rfl (by decide +kernel)
set_option maxRecDepth 100000 in
theorem gX7_stands_X6_tapeAt : GoodIn wsX7_stands (wsV RX7 115 RX6 yX6_tapeAt wsX6_tapeAt) := goodIn_app (goodIn_r _ [3, 4, 5, 6] rfl (by decide +kernel)) ggX7_stands_X6_tapeAt
theorem dX7_stands_0 : decode cX7_stands 0 = .ok (.aload_n 0, 1) := by decide +kernel
theorem dX7_stands_1 : decode cX7_stands 1 = .ok (.getfield 26, 3) := by decide +kernel
theorem dX7_stands_4 : decode cX7_stands 4 = .ok (.iload_n 1, 1) := by decide +kernel
theorem dX7_stands_5 : decode cX7_stands 5 = .ok (.invokevirtual 115, 3) := by decide +kernel
theorem dX7_stands_8 : decode cX7_stands 8 = .ok (.astore_n 2, 1) := by decide +kernel
theorem dX7_stands_9 : decode cX7_stands 9 = .ok (.aload_n 2, 1) := by decide +kernel
theorem dX7_stands_10 : decode cX7_stands 10 = .ok (.ifnonnull 7, 3) := by decide +kernel
theorem dX7_stands_13 : decode cX7_stands 13 = .ok (.iconst (-1), 1) := by decide +kernel
theorem dX7_stands_14 : decode cX7_stands 14 = .ok (.goto 7, 3) := by decide +kernel
theorem dX7_stands_17 : decode cX7_stands 17 = .ok (.aload_n 2, 1) := by decide +kernel
theorem dX7_stands_18 : decode cX7_stands 18 = .ok (.getfield 134, 3) := by decide +kernel
theorem dX7_stands_21 : decode cX7_stands 21 = .ok (.ireturn, 1) := by decide +kernel
set_option maxRecDepth 100000 in
theorem ggX7_blank_X6_clearTape : GoodIn wsX7_blank wsX6_clearTape := goodIn_r _ [6, 7, 8, 9, 10, 11, 12, 5, 13, 14, 15, 16, 17, 18, 19, 20, 21, 33, 34, 35, 36, 37, 38, 39] rfl (by decide +kernel)
set_option maxRecDepth 100000 in
theorem gX7_blank_X6_clearTape : GoodIn wsX7_blank (wsV RX7 137 RX6 yX6_clearTape wsX6_clearTape) := goodIn_app (goodIn_r _ [2, 3, 4, 5] rfl (by decide +kernel)) ggX7_blank_X6_clearTape
theorem dX7_blank_0 : decode cX7_blank 0 = .ok (.aload_n 0, 1) := by decide +kernel
theorem dX7_blank_1 : decode cX7_blank 1 = .ok (.getfield 26, 3) := by decide +kernel
theorem dX7_blank_4 : decode cX7_blank 4 = .ok (.iload_n 1, 1) := by decide +kernel
theorem dX7_blank_5 : decode cX7_blank 5 = .ok (.invokevirtual 137, 3) := by decide +kernel
theorem dX7_blank_8 : decode cX7_blank 8 = .ok (.ireturn, 1) := by decide +kernel
set_option maxRecDepth 100000 in
theorem ggX7_drum_X1_wordAt : GoodIn wsX7_drum wsX1_wordAt := goodIn_r _ [8, 9, 25, 26] rfl (by decide +kernel)
set_option maxRecDepth 100000 in
theorem gX7_drum_X1_wordAt : GoodIn wsX7_drum (wsV RX7 140 RX1 yX1_wordAt wsX1_wordAt) := goodIn_app (goodIn_r _ [4, 5, 6, 7] rfl (by decide +kernel)) ggX7_drum_X1_wordAt
theorem dX7_drum_0 : decode cX7_drum 0 = .ok (.iload_n 1, 1) := by decide +kernel
theorem dX7_drum_1 : decode cX7_drum 1 = .ok (.ifCond .lt 10, 3) := by decide +kernel
theorem dX7_drum_4 : decode cX7_drum 4 = .ok (.iload_n 1, 1) := by decide +kernel
theorem dX7_drum_5 : decode cX7_drum 5 = .ok (.sipush 256, 3) := by decide +kernel
theorem dX7_drum_8 : decode cX7_drum 8 = .ok (.if_icmp .lt 9, 3) := by decide +kernel
theorem dX7_drum_11 : decode cX7_drum 11 = .ok (.ldc2_w 61, 3) := by decide +kernel
theorem dX7_drum_14 : decode cX7_drum 14 = .ok (.goto 14, 3) := by decide +kernel
theorem dX7_drum_17 : decode cX7_drum 17 = .ok (.aload_n 0, 1) := by decide +kernel
theorem dX7_drum_18 : decode cX7_drum 18 = .ok (.getfield 26, 3) := by decide +kernel
theorem dX7_drum_21 : decode cX7_drum 21 = .ok (.getfield 87, 3) := by decide +kernel
theorem dX7_drum_24 : decode cX7_drum 24 = .ok (.iload_n 1, 1) := by decide +kernel
theorem dX7_drum_25 : decode cX7_drum 25 = .ok (.invokevirtual 140, 3) := by decide +kernel
theorem dX7_drum_28 : decode cX7_drum 28 = .ok (.lreturn, 1) := by decide +kernel
set_option maxRecDepth 100000 in
theorem ggX7_feed_X5_takeBytes : GoodIn wsX7_feed wsX5_takeBytes := goodIn_r _ [7, 8, 9, 21, 22, 23, 24, 25, 26, 27] rfl (by decide +kernel)
set_option maxRecDepth 100000 in
theorem gX7_feed_X5_takeBytes : GoodIn wsX7_feed (wsV RX7 143 RX5 yX5_takeBytes wsX5_takeBytes) := goodIn_app (goodIn_r _ [3, 4, 5, 6] rfl (by decide +kernel)) ggX7_feed_X5_takeBytes
theorem dX7_feed_0 : decode cX7_feed 0 = .ok (.iload_n 3, 1) := by decide +kernel
theorem dX7_feed_1 : decode cX7_feed 1 = .ok (.iconst 1, 1) := by decide +kernel
theorem dX7_feed_2 : decode cX7_feed 2 = .ok (.if_icmp .lt 9, 3) := by decide +kernel
theorem dX7_feed_5 : decode cX7_feed 5 = .ok (.iload_n 3, 1) := by decide +kernel
theorem dX7_feed_6 : decode cX7_feed 6 = .ok (.bipush 8, 2) := by decide +kernel
theorem dX7_feed_8 : decode cX7_feed 8 = .ok (.if_icmp .le 5, 3) := by decide +kernel
theorem dX7_feed_11 : decode cX7_feed 11 = .ok (.iconst (-1), 1) := by decide +kernel
theorem dX7_feed_12 : decode cX7_feed 12 = .ok (.ireturn, 1) := by decide +kernel
theorem dX7_feed_13 : decode cX7_feed 13 = .ok (.aload_n 0, 1) := by decide +kernel
theorem dX7_feed_14 : decode cX7_feed 14 = .ok (.getfield 33, 3) := by decide +kernel
theorem dX7_feed_17 : decode cX7_feed 17 = .ok (.lload_n 1, 1) := by decide +kernel
theorem dX7_feed_18 : decode cX7_feed 18 = .ok (.iload_n 3, 1) := by decide +kernel
theorem dX7_feed_19 : decode cX7_feed 19 = .ok (.invokevirtual 143, 3) := by decide +kernel
theorem dX7_feed_22 : decode cX7_feed 22 = .ok (.ifCond .eq 13, 3) := by decide +kernel
theorem dX7_feed_25 : decode cX7_feed 25 = .ok (.aload_n 0, 1) := by decide +kernel
theorem dX7_feed_26 : decode cX7_feed 26 = .ok (.getfield 33, 3) := by decide +kernel
theorem dX7_feed_29 : decode cX7_feed 29 = .ok (.getfield 147, 3) := by decide +kernel
theorem dX7_feed_32 : decode cX7_feed 32 = .ok (.goto 5, 3) := by decide +kernel
theorem dX7_feed_35 : decode cX7_feed 35 = .ok (.bipush (-2), 2) := by decide +kernel
theorem dX7_feed_37 : decode cX7_feed 37 = .ok (.ireturn, 1) := by decide +kernel
set_option maxRecDepth 100000 in
theorem ggX7_load_X5_readLines : GoodIn wsX7_load wsX5_readLines := goodIn_td 40 (goodIn_r _ [9, 10, 11, 12, 13, 14, 15, 8, 16, 17, 18, 19, 20, 21, 22, 23, 24, 25, 26, 27, 28, 29, 30, 31, 32, 33, 34, 35, 36, 37, 38, 39, 40, 41, 42, 43, 44, 45, 46, 47] rfl (by decide +kernel)) (goodIn_td 40 (goodIn_r _ [48, 49, 50, 51, 52, 53, 54, 55, 56, 57, 58, 59, 60, 61, 62, 63, 64, 65, 66, 67, 68, 69, 70, 71, 72, 73, 74, 75, 76, 77, 78, 79, 80, 81, 94, 95, 96, 97, 98, 99] rfl (by decide +kernel)) (goodIn_r _ [100, 101] rfl (by decide +kernel)))
set_option maxRecDepth 100000 in
theorem gX7_load_X5_readLines : GoodIn wsX7_load (wsV RX7 150 RX5 yX5_readLines wsX5_readLines) := goodIn_app (goodIn_r _ [5, 6, 7, 8] rfl (by decide +kernel)) ggX7_load_X5_readLines
set_option maxRecDepth 100000 in
theorem ggX7_load_X5_isFaulty : GoodIn wsX7_load wsX5_isFaulty := goodIn_r _ [46, 11, 94, 95, 96, 97, 98, 99, 100] rfl (by decide +kernel)
set_option maxRecDepth 100000 in
theorem gX7_load_X5_isFaulty : GoodIn wsX7_load (wsV RX7 154 RX5 yX5_isFaulty wsX5_isFaulty) := goodIn_app (goodIn_r _ [82, 44, 45, 8] rfl (by decide +kernel)) ggX7_load_X5_isFaulty
theorem dX7_load_0 : decode cX7_load 0 = .ok (.aload_n 0, 1) := by decide +kernel
theorem dX7_load_1 : decode cX7_load 1 = .ok (.getfield 33, 3) := by decide +kernel
theorem dX7_load_4 : decode cX7_load 4 = .ok (.aload_n 0, 1) := by decide +kernel
theorem dX7_load_5 : decode cX7_load 5 = .ok (.getfield 12, 3) := by decide +kernel
theorem dX7_load_8 : decode cX7_load 8 = .ok (.iconst 0, 1) := by decide +kernel
theorem dX7_load_9 : decode cX7_load 9 = .ok (.invokevirtual 150, 3) := by decide +kernel
theorem dX7_load_12 : decode cX7_load 12 = .ok (.istore_n 1, 1) := by decide +kernel
theorem dX7_load_13 : decode cX7_load 13 = .ok (.aload_n 0, 1) := by decide +kernel
theorem dX7_load_14 : decode cX7_load 14 = .ok (.getfield 33, 3) := by decide +kernel
theorem dX7_load_17 : decode cX7_load 17 = .ok (.invokevirtual 154, 3) := by decide +kernel
theorem dX7_load_20 : decode cX7_load 20 = .ok (.ifCond .eq 17, 3) := by decide +kernel
theorem dX7_load_23 : decode cX7_load 23 = .ok (.bipush (-10), 2) := by decide +kernel
theorem dX7_load_25 : decode cX7_load 25 = .ok (.aload_n 0, 1) := by decide +kernel
theorem dX7_load_26 : decode cX7_load 26 = .ok (.getfield 33, 3) := by decide +kernel
theorem dX7_load_29 : decode cX7_load 29 = .ok (.getfield 158, 3) := by decide +kernel
theorem dX7_load_32 : decode cX7_load 32 = .ok (.isub, 1) := by decide +kernel
theorem dX7_load_33 : decode cX7_load 33 = .ok (.istore_n 1, 1) := by decide +kernel
theorem dX7_load_34 : decode cX7_load 34 = .ok (.goto 16, 3) := by decide +kernel
theorem dX7_load_37 : decode cX7_load 37 = .ok (.aload_n 0, 1) := by decide +kernel
theorem dX7_load_38 : decode cX7_load 38 = .ok (.getfield 33, 3) := by decide +kernel
theorem dX7_load_41 : decode cX7_load 41 = .ok (.aload_n 0, 1) := by decide +kernel
theorem dX7_load_42 : decode cX7_load 42 = .ok (.getfield 12, 3) := by decide +kernel
theorem dX7_load_45 : decode cX7_load 45 = .ok (.iconst 1, 1) := by decide +kernel
theorem dX7_load_46 : decode cX7_load 46 = .ok (.invokevirtual 150, 3) := by decide +kernel
theorem dX7_load_49 : decode cX7_load 49 = .ok (.pop, 1) := by decide +kernel
theorem dX7_load_50 : decode cX7_load 50 = .ok (.aload_n 0, 1) := by decide +kernel
theorem dX7_load_51 : decode cX7_load 51 = .ok (.getfield 33, 3) := by decide +kernel
theorem dX7_load_54 : decode cX7_load 54 = .ok (.iconst 0, 1) := by decide +kernel
theorem dX7_load_55 : decode cX7_load 55 = .ok (.putfield 147, 3) := by decide +kernel
theorem dX7_load_58 : decode cX7_load 58 = .ok (.iload_n 1, 1) := by decide +kernel
theorem dX7_load_59 : decode cX7_load 59 = .ok (.ireturn, 1) := by decide +kernel
set_option maxRecDepth 100000 in
theorem ggX7_written_X7_isHalf : GoodIn wsX7_written wsX7_isHalf := goodIn_r _ [6] rfl (by decide +kernel)
set_option maxRecDepth 100000 in
theorem gX7_written_X7_isHalf : GoodIn wsX7_written (va_wsS RX7 44 yX7_isHalf wsX7_isHalf) := goodIn_app (goodIn_r _ [3, 4, 5] rfl (by decide +kernel)) ggX7_written_X7_isHalf
set_option maxRecDepth 100000 in
theorem ggX7_written_X3_halfAt : GoodIn wsX7_written wsX3_halfAt := goodIn_r _ [11, 12, 4, 5, 6, 43] rfl (by decide +kernel)
set_option maxRecDepth 100000 in
theorem gX7_written_X3_halfAt : GoodIn wsX7_written (wsV RX7 48 RX3 yX3_halfAt wsX3_halfAt) := goodIn_app (goodIn_r _ [7, 8, 9, 10] rfl (by decide +kernel)) ggX7_written_X3_halfAt
set_option maxRecDepth 100000 in
theorem ggX7_written_X2_writeAct : GoodIn wsX7_written wsX2_writeAct := goodIn_r _ [17, 18, 19, 20, 21, 16, 22, 23, 24, 25, 26, 27, 44, 45] rfl (by decide +kernel)
set_option maxRecDepth 100000 in
theorem gX7_written_X2_writeAct : GoodIn wsX7_written (wsV RX7 161 RX2 yX2_writeAct wsX2_writeAct) := goodIn_app (goodIn_r _ [13, 14, 15, 16] rfl (by decide +kernel)) ggX7_written_X2_writeAct
set_option maxRecDepth 100000 in
theorem ggX7_written_X2_byteAt : GoodIn wsX7_written wsX2_byteAt := goodIn_r _ [31, 18, 27, 44, 45] rfl (by decide +kernel)
set_option maxRecDepth 100000 in
theorem gX7_written_X2_byteAt : GoodIn wsX7_written (wsV RX7 164 RX2 yX2_byteAt wsX2_byteAt) := goodIn_app (goodIn_r _ [28, 29, 30, 16] rfl (by decide +kernel)) ggX7_written_X2_byteAt
theorem dX7_written_0 : decode cX7_written 0 = .ok (.iload_n 1, 1) := by decide +kernel
theorem dX7_written_1 : decode cX7_written 1 = .ok (.invokestatic 44, 3) := by decide +kernel
theorem dX7_written_4 : decode cX7_written 4 = .ok (.ifCond .eq 7, 3) := by decide +kernel
theorem dX7_written_7 : decode cX7_written 7 = .ok (.iload_n 2, 1) := by decide +kernel
theorem dX7_written_8 : decode cX7_written 8 = .ok (.ifCond .ge 5, 3) := by decide +kernel
theorem dX7_written_11 : decode cX7_written 11 = .ok (.iconst (-1), 1) := by decide +kernel
theorem dX7_written_12 : decode cX7_written 12 = .ok (.ireturn, 1) := by decide +kernel
theorem dX7_written_13 : decode cX7_written 13 = .ok (.aload_n 0, 1) := by decide +kernel
theorem dX7_written_14 : decode cX7_written 14 = .ok (.getfield 40, 3) := by decide +kernel
theorem dX7_written_17 : decode cX7_written 17 = .ok (.iload_n 1, 1) := by decide +kernel
theorem dX7_written_18 : decode cX7_written 18 = .ok (.aload_n 0, 1) := by decide +kernel
theorem dX7_written_19 : decode cX7_written 19 = .ok (.getfield 12, 3) := by decide +kernel
theorem dX7_written_22 : decode cX7_written 22 = .ok (.iload_n 1, 1) := by decide +kernel
theorem dX7_written_23 : decode cX7_written 23 = .ok (.invokevirtual 48, 3) := by decide +kernel
theorem dX7_written_26 : decode cX7_written 26 = .ok (.invokevirtual 161, 3) := by decide +kernel
theorem dX7_written_29 : decode cX7_written 29 = .ok (.aload_n 0, 1) := by decide +kernel
theorem dX7_written_30 : decode cX7_written 30 = .ok (.getfield 40, 3) := by decide +kernel
theorem dX7_written_33 : decode cX7_written 33 = .ok (.iload_n 2, 1) := by decide +kernel
theorem dX7_written_34 : decode cX7_written 34 = .ok (.invokevirtual 164, 3) := by decide +kernel
theorem dX7_written_37 : decode cX7_written 37 = .ok (.ireturn, 1) := by decide +kernel
set_option maxRecDepth 100000 in
theorem ggX7_digest_X3_halfAt : GoodIn wsX7_digest wsX3_halfAt := goodIn_r _ [10, 11, 12, 13, 14, 72] rfl (by decide +kernel)
set_option maxRecDepth 100000 in
theorem gX7_digest_X3_halfAt : GoodIn wsX7_digest (wsV RX7 48 RX3 yX3_halfAt wsX3_halfAt) := goodIn_app (goodIn_r _ [6, 7, 8, 9] rfl (by decide +kernel)) ggX7_digest_X3_halfAt
set_option maxRecDepth 100000 in
theorem ggX7_digest_X7_told : GoodIn wsX7_digest wsX7_told := goodIn_r _ [18, 19, 20, 21, 22, 23, 24, 25, 26, 4, 5, 27, 28, 29, 30, 57, 58, 59, 60, 61, 62, 63, 64, 65, 66, 67, 73, 74, 75, 76, 77, 68, 69, 70, 71, 78, 79] rfl (by decide +kernel)
set_option maxRecDepth 100000 in
theorem gX7_digest_X7_told : GoodIn wsX7_digest (wsV RX7 171 RX7 yX7_told wsX7_told) := goodIn_app (goodIn_r _ [15, 16, 17, 13] rfl (by decide +kernel)) ggX7_digest_X7_told
set_option maxRecDepth 100000 in
theorem ggX7_digest_X6_tapeAt : GoodIn wsX7_digest wsX6_tapeAt := goodIn_r _ [35, 36, 68, 69, 70, 71] rfl (by decide +kernel)
set_option maxRecDepth 100000 in
theorem gX7_digest_X6_tapeAt : GoodIn wsX7_digest (wsV RX7 115 RX6 yX6_tapeAt wsX6_tapeAt) := goodIn_app (goodIn_r _ [31, 32, 33, 34] rfl (by decide +kernel)) ggX7_digest_X6_tapeAt
set_option maxRecDepth 100000 in
theorem ggX7_digest_X4_digestOnto : GoodIn wsX7_digest wsX4_digestOnto := goodIn_r _ [41, 42, 43, 44, 45, 46, 47, 40, 48, 49, 50, 80, 81, 82] rfl (by decide +kernel)
set_option maxRecDepth 100000 in
theorem gX7_digest_X4_digestOnto : GoodIn wsX7_digest (wsV RX7 174 RX4 yX4_digestOnto wsX4_digestOnto) := goodIn_app (goodIn_r _ [37, 38, 39, 40] rfl (by decide +kernel)) ggX7_digest_X4_digestOnto
set_option maxRecDepth 100000 in
theorem ggX7_digest_X1_wordAt : GoodIn wsX7_digest wsX1_wordAt := goodIn_r _ [55, 56, 78, 79] rfl (by decide +kernel)
set_option maxRecDepth 100000 in
theorem gX7_digest_X1_wordAt : GoodIn wsX7_digest (wsV RX7 140 RX1 yX1_wordAt wsX1_wordAt) := goodIn_app (goodIn_r _ [51, 52, 53, 54] rfl (by decide +kernel)) ggX7_digest_X1_wordAt
theorem dX7_digest_0 : decode cX7_digest 0 = .ok (.ldc2_w 167, 3) := by decide +kernel
theorem dX7_digest_3 : decode cX7_digest 3 = .ok (.lstore_n 1, 1) := by decide +kernel
theorem dX7_digest_4 : decode cX7_digest 4 = .ok (.iconst 0, 1) := by decide +kernel
theorem dX7_digest_5 : decode cX7_digest 5 = .ok (.istore_n 3, 1) := by decide +kernel
theorem dX7_digest_6 : decode cX7_digest 6 = .ok (.iload_n 3, 1) := by decide +kernel
theorem dX7_digest_7 : decode cX7_digest 7 = .ok (.sipush 512, 3) := by decide +kernel
theorem dX7_digest_10 : decode cX7_digest 10 = .ok (.if_icmp .ge 25, 3) := by decide +kernel
theorem dX7_digest_13 : decode cX7_digest 13 = .ok (.ldc2_w 169, 3) := by decide +kernel
theorem dX7_digest_16 : decode cX7_digest 16 = .ok (.lload_n 1, 1) := by decide +kernel
theorem dX7_digest_17 : decode cX7_digest 17 = .ok (.lmul, 1) := by decide +kernel
theorem dX7_digest_18 : decode cX7_digest 18 = .ok (.aload_n 0, 1) := by decide +kernel
theorem dX7_digest_19 : decode cX7_digest 19 = .ok (.getfield 12, 3) := by decide +kernel
theorem dX7_digest_22 : decode cX7_digest 22 = .ok (.iload_n 3, 1) := by decide +kernel
theorem dX7_digest_23 : decode cX7_digest 23 = .ok (.invokevirtual 48, 3) := by decide +kernel
theorem dX7_digest_26 : decode cX7_digest 26 = .ok (.i2l, 1) := by decide +kernel
theorem dX7_digest_27 : decode cX7_digest 27 = .ok (.ladd, 1) := by decide +kernel
theorem dX7_digest_28 : decode cX7_digest 28 = .ok (.lstore_n 1, 1) := by decide +kernel
theorem dX7_digest_29 : decode cX7_digest 29 = .ok (.iinc 3 1, 3) := by decide +kernel
theorem dX7_digest_32 : decode cX7_digest 32 = .ok (.goto (-26), 3) := by decide +kernel
theorem dX7_digest_35 : decode cX7_digest 35 = .ok (.iconst 0, 1) := by decide +kernel
theorem dX7_digest_36 : decode cX7_digest 36 = .ok (.istore_n 3, 1) := by decide +kernel
theorem dX7_digest_37 : decode cX7_digest 37 = .ok (.iload_n 3, 1) := by decide +kernel
theorem dX7_digest_38 : decode cX7_digest 38 = .ok (.bipush 10, 2) := by decide +kernel
theorem dX7_digest_40 : decode cX7_digest 40 = .ok (.if_icmp .ge 21, 3) := by decide +kernel
theorem dX7_digest_43 : decode cX7_digest 43 = .ok (.ldc2_w 169, 3) := by decide +kernel
theorem dX7_digest_46 : decode cX7_digest 46 = .ok (.lload_n 1, 1) := by decide +kernel
theorem dX7_digest_47 : decode cX7_digest 47 = .ok (.lmul, 1) := by decide +kernel
theorem dX7_digest_48 : decode cX7_digest 48 = .ok (.aload_n 0, 1) := by decide +kernel
theorem dX7_digest_49 : decode cX7_digest 49 = .ok (.iload_n 3, 1) := by decide +kernel
theorem dX7_digest_50 : decode cX7_digest 50 = .ok (.invokevirtual 171, 3) := by decide +kernel
theorem dX7_digest_53 : decode cX7_digest 53 = .ok (.ladd, 1) := by decide +kernel
theorem dX7_digest_54 : decode cX7_digest 54 = .ok (.lstore_n 1, 1) := by decide +kernel
theorem dX7_digest_55 : decode cX7_digest 55 = .ok (.iinc 3 1, 3) := by decide +kernel
theorem dX7_digest_58 : decode cX7_digest 58 = .ok (.goto (-21), 3) := by decide +kernel
theorem dX7_digest_61 : decode cX7_digest 61 = .ok (.iconst 0, 1) := by decide +kernel
theorem dX7_digest_62 : decode cX7_digest 62 = .ok (.istore_n 3, 1) := by decide +kernel
theorem dX7_digest_63 : decode cX7_digest 63 = .ok (.iload_n 3, 1) := by decide +kernel
theorem dX7_digest_64 : decode cX7_digest 64 = .ok (.iconst 4, 1) := by decide +kernel
theorem dX7_digest_65 : decode cX7_digest 65 = .ok (.if_icmp .ge 31, 3) := by decide +kernel
theorem dX7_digest_68 : decode cX7_digest 68 = .ok (.aload_n 0, 1) := by decide +kernel
theorem dX7_digest_69 : decode cX7_digest 69 = .ok (.getfield 26, 3) := by decide +kernel
theorem dX7_digest_72 : decode cX7_digest 72 = .ok (.iload_n 3, 1) := by decide +kernel
theorem dX7_digest_73 : decode cX7_digest 73 = .ok (.invokevirtual 115, 3) := by decide +kernel
theorem dX7_digest_76 : decode cX7_digest 76 = .ok (.astore 4, 2) := by decide +kernel
theorem dX7_digest_78 : decode cX7_digest 78 = .ok (.aload 4, 2) := by decide +kernel
theorem dX7_digest_80 : decode cX7_digest 80 = .ok (.ifnull 10, 3) := by decide +kernel
theorem dX7_digest_83 : decode cX7_digest 83 = .ok (.aload 4, 2) := by decide +kernel
theorem dX7_digest_85 : decode cX7_digest 85 = .ok (.lload_n 1, 1) := by decide +kernel
theorem dX7_digest_86 : decode cX7_digest 86 = .ok (.invokevirtual 174, 3) := by decide +kernel
theorem dX7_digest_89 : decode cX7_digest 89 = .ok (.lstore_n 1, 1) := by decide +kernel
theorem dX7_digest_90 : decode cX7_digest 90 = .ok (.iinc 3 1, 3) := by decide +kernel
theorem dX7_digest_93 : decode cX7_digest 93 = .ok (.goto (-30), 3) := by decide +kernel
theorem dX7_digest_96 : decode cX7_digest 96 = .ok (.iconst 0, 1) := by decide +kernel
theorem dX7_digest_97 : decode cX7_digest 97 = .ok (.istore_n 3, 1) := by decide +kernel
theorem dX7_digest_98 : decode cX7_digest 98 = .ok (.iload_n 3, 1) := by decide +kernel
theorem dX7_digest_99 : decode cX7_digest 99 = .ok (.sipush 256, 3) := by decide +kernel
theorem dX7_digest_102 : decode cX7_digest 102 = .ok (.if_icmp .ge 27, 3) := by decide +kernel
theorem dX7_digest_105 : decode cX7_digest 105 = .ok (.ldc2_w 169, 3) := by decide +kernel
theorem dX7_digest_108 : decode cX7_digest 108 = .ok (.lload_n 1, 1) := by decide +kernel
theorem dX7_digest_109 : decode cX7_digest 109 = .ok (.lmul, 1) := by decide +kernel
theorem dX7_digest_110 : decode cX7_digest 110 = .ok (.aload_n 0, 1) := by decide +kernel
theorem dX7_digest_111 : decode cX7_digest 111 = .ok (.getfield 26, 3) := by decide +kernel
theorem dX7_digest_114 : decode cX7_digest 114 = .ok (.getfield 87, 3) := by decide +kernel
theorem dX7_digest_117 : decode cX7_digest 117 = .ok (.iload_n 3, 1) := by decide +kernel
theorem dX7_digest_118 : decode cX7_digest 118 = .ok (.invokevirtual 140, 3) := by decide +kernel
theorem dX7_digest_121 : decode cX7_digest 121 = .ok (.ladd, 1) := by decide +kernel
theorem dX7_digest_122 : decode cX7_digest 122 = .ok (.lstore_n 1, 1) := by decide +kernel
theorem dX7_digest_123 : decode cX7_digest 123 = .ok (.iinc 3 1, 3) := by decide +kernel
theorem dX7_digest_126 : decode cX7_digest 126 = .ok (.goto (-28), 3) := by decide +kernel
theorem dX7_digest_129 : decode cX7_digest 129 = .ok (.lload_n 1, 1) := by decide +kernel
theorem dX7_digest_130 : decode cX7_digest 130 = .ok (.lreturn, 1) := by decide +kernel
set_option maxRecDepth 100000 in
theorem ggX7_doNextAct_X3_halfAt : GoodIn wsX7_doNextAct wsX3_halfAt := goodIn_r _ [11, 12, 13, 14, 15, 258] rfl (by decide +kernel)
set_option maxRecDepth 100000 in
theorem gX7_doNextAct_X3_halfAt : GoodIn wsX7_doNextAct (wsV RX7 48 RX3 yX3_halfAt wsX3_halfAt) := goodIn_app (goodIn_r _ [7, 8, 9, 10] rfl (by decide +kernel)) ggX7_doNextAct_X3_halfAt
set_option maxRecDepth 100000 in
theorem ggX7_doNextAct_X7_passOver : GoodIn wsX7_doNextAct wsX7_passOver := goodIn_r _ [19, 3, 247, 248, 249, 250, 251, 252, 253, 254, 255, 256, 257] rfl (by decide +kernel)
set_option maxRecDepth 100000 in
theorem gX7_doNextAct_X7_passOver : GoodIn wsX7_doNextAct (wsV RX7 181 RX7 yX7_passOver wsX7_passOver) := goodIn_app (goodIn_r _ [16, 17, 18, 14] rfl (by decide +kernel)) ggX7_doNextAct_X7_passOver
set_option maxRecDepth 100000 in
theorem ggX7_doNextAct_X7_wantsHalfOfStore : GoodIn wsX7_doNextAct wsX7_wantsHalfOfStore := goodIn_r _ [22] rfl (by decide +kernel)
set_option maxRecDepth 100000 in
theorem gX7_doNextAct_X7_wantsHalfOfStore : GoodIn wsX7_doNextAct (va_wsS RX7 185 yX7_wantsHalfOfStore wsX7_wantsHalfOfStore) := goodIn_app (goodIn_r _ [20, 21, 14] rfl (by decide +kernel)) ggX7_doNextAct_X7_wantsHalfOfStore
set_option maxRecDepth 100000 in
theorem ggX7_doNextAct_X7_perform : GoodIn wsX7_doNextAct wsX7_perform := goodIn_td 40 (goodIn_r _ [26, 1, 27, 5, 28, 29, 30, 14, 31, 3, 32, 33, 34, 35, 36, 37, 38, 39, 40, 41, 42, 43, 44, 45, 46, 47, 48, 49, 50, 51, 10, 52, 53, 54, 55, 56, 57, 58, 59, 60] rfl (by decide +kernel)) (goodIn_td 40 (goodIn_r _ [61, 12, 62, 13, 15, 63, 64, 65, 66, 67, 68, 69, 70, 71, 72, 73, 74, 75, 8, 9, 11, 7, 76, 77, 78, 79, 80, 81, 82, 83, 84, 85, 86, 87, 88, 89, 90, 91, 92, 93] rfl (by decide +kernel)) (goodIn_td 40 (goodIn_r _ [94, 95, 96, 97, 98, 99, 100, 101, 102, 103, 104, 105, 106, 107, 108, 109, 110, 111, 112, 113, 114, 115, 116, 117, 118, 119, 120, 121, 122, 123, 124, 125, 126, 127, 128, 129, 130, 131, 132, 133] rfl (by decide +kernel)) (goodIn_td 40 (goodIn_r _ [134, 135, 136, 137, 138, 139, 140, 141, 142, 143, 144, 145, 146, 147, 148, 149, 150, 151, 152, 153, 154, 155, 156, 157, 158, 159, 160, 161, 162, 163, 164, 165, 166, 167, 168, 169, 170, 171, 172, 173] rfl (by decide +kernel)) (goodIn_td 40 (goodIn_r _ [16, 17, 18, 19, 174, 175, 176, 177, 178, 179, 180, 181, 182, 183, 184, 185, 186, 187, 188, 189, 190, 191, 192, 193, 194, 195, 196, 197, 198, 199, 200, 201, 202, 203, 204, 205, 206, 207, 208, 209] rfl (by decide +kernel)) (goodIn_td 40 (goodIn_r _ [210, 211, 212, 213, 214, 215, 216, 217, 218, 219, 220, 221, 222, 223, 224, 225, 226, 227, 228, 229, 230, 231, 232, 233, 234, 235, 236, 237, 238, 239, 240, 241, 242, 247, 248, 249, 250, 251, 252, 253] rfl (by decide +kernel)) (goodIn_r _ [254, 255, 256, 257, 259, 260, 261, 262, 263, 258, 264, 265, 266, 267, 268, 269, 270, 271, 272] rfl (by decide +kernel)))))))
set_option maxRecDepth 100000 in
theorem gX7_doNextAct_X7_perform : GoodIn wsX7_doNextAct (wsV RX7 188 RX7 yX7_perform wsX7_perform) := goodIn_app (goodIn_r _ [23, 24, 25, 14] rfl (by decide +kernel)) ggX7_doNextAct_X7_perform
set_option maxRecDepth 100000 in
theorem ggX7_doNextAct_X6_endByStop : GoodIn wsX7_doNextAct wsX6_endByStop := goodIn_r _ [246, 120, 126, 127, 128, 118, 129, 130, 131, 132, 133, 134, 135, 121, 122, 123, 124, 125, 136, 137, 138, 139, 140, 141, 142, 143, 264, 265, 266, 267, 268, 269, 270] rfl (by decide +kernel)
set_option maxRecDepth 100000 in
theorem gX7_doNextAct_X6_endByStop : GoodIn wsX7_doNextAct (wsV RX7 192 RX6 yX6_endByStop wsX6_endByStop) := goodIn_app (goodIn_r _ [243, 244, 245, 118] rfl (by decide +kernel)) ggX7_doNextAct_X6_endByStop
theorem dX7_doNextAct_0 : decode cX7_doNextAct 0 = .ok (.aload_n 0, 1) := by decide +kernel
theorem dX7_doNextAct_1 : decode cX7_doNextAct 1 = .ok (.getfield 12, 3) := by decide +kernel
theorem dX7_doNextAct_4 : decode cX7_doNextAct 4 = .ok (.aload_n 0, 1) := by decide +kernel
theorem dX7_doNextAct_5 : decode cX7_doNextAct 5 = .ok (.getfield 81, 3) := by decide +kernel
theorem dX7_doNextAct_8 : decode cX7_doNextAct 8 = .ok (.invokevirtual 48, 3) := by decide +kernel
theorem dX7_doNextAct_11 : decode cX7_doNextAct 11 = .ok (.istore_n 1, 1) := by decide +kernel
theorem dX7_doNextAct_12 : decode cX7_doNextAct 12 = .ok (.iload_n 1, 1) := by decide +kernel
theorem dX7_doNextAct_13 : decode cX7_doNextAct 13 = .ok (.bipush 12, 2) := by decide +kernel
theorem dX7_doNextAct_15 : decode cX7_doNextAct 15 = .ok (.ishr, 1) := by decide +kernel
theorem dX7_doNextAct_16 : decode cX7_doNextAct 16 = .ok (.bipush 31, 2) := by decide +kernel
theorem dX7_doNextAct_18 : decode cX7_doNextAct 18 = .ok (.iand, 1) := by decide +kernel
theorem dX7_doNextAct_19 : decode cX7_doNextAct 19 = .ok (.istore_n 2, 1) := by decide +kernel
theorem dX7_doNextAct_20 : decode cX7_doNextAct 20 = .ok (.iload_n 1, 1) := by decide +kernel
theorem dX7_doNextAct_21 : decode cX7_doNextAct 21 = .ok (.sipush 4095, 3) := by decide +kernel
theorem dX7_doNextAct_24 : decode cX7_doNextAct 24 = .ok (.iand, 1) := by decide +kernel
theorem dX7_doNextAct_25 : decode cX7_doNextAct 25 = .ok (.istore_n 3, 1) := by decide +kernel
theorem dX7_doNextAct_26 : decode cX7_doNextAct 26 = .ok (.aload_n 0, 1) := by decide +kernel
theorem dX7_doNextAct_27 : decode cX7_doNextAct 27 = .ok (.aload_n 0, 1) := by decide +kernel
theorem dX7_doNextAct_28 : decode cX7_doNextAct 28 = .ok (.getfield 81, 3) := by decide +kernel
theorem dX7_doNextAct_31 : decode cX7_doNextAct 31 = .ok (.putfield 178, 3) := by decide +kernel
theorem dX7_doNextAct_34 : decode cX7_doNextAct 34 = .ok (.aload_n 0, 1) := by decide +kernel
theorem dX7_doNextAct_35 : decode cX7_doNextAct 35 = .ok (.iconst 1, 1) := by decide +kernel
theorem dX7_doNextAct_36 : decode cX7_doNextAct 36 = .ok (.invokevirtual 181, 3) := by decide +kernel
theorem dX7_doNextAct_39 : decode cX7_doNextAct 39 = .ok (.aload_n 0, 1) := by decide +kernel
theorem dX7_doNextAct_40 : decode cX7_doNextAct 40 = .ok (.iload_n 2, 1) := by decide +kernel
theorem dX7_doNextAct_41 : decode cX7_doNextAct 41 = .ok (.invokestatic 185, 3) := by decide +kernel
theorem dX7_doNextAct_44 : decode cX7_doNextAct 44 = .ok (.ifCond .eq 14, 3) := by decide +kernel
theorem dX7_doNextAct_47 : decode cX7_doNextAct 47 = .ok (.iload_n 3, 1) := by decide +kernel
theorem dX7_doNextAct_48 : decode cX7_doNextAct 48 = .ok (.sipush 511, 3) := by decide +kernel
theorem dX7_doNextAct_51 : decode cX7_doNextAct 51 = .ok (.if_icmp .le 7, 3) := by decide +kernel
theorem dX7_doNextAct_54 : decode cX7_doNextAct 54 = .ok (.iconst 2, 1) := by decide +kernel
theorem dX7_doNextAct_55 : decode cX7_doNextAct 55 = .ok (.goto 21, 3) := by decide +kernel
theorem dX7_doNextAct_58 : decode cX7_doNextAct 58 = .ok (.aload_n 0, 1) := by decide +kernel
theorem dX7_doNextAct_59 : decode cX7_doNextAct 59 = .ok (.iload_n 2, 1) := by decide +kernel
theorem dX7_doNextAct_60 : decode cX7_doNextAct 60 = .ok (.iload_n 1, 1) := by decide +kernel
theorem dX7_doNextAct_61 : decode cX7_doNextAct 61 = .ok (.bipush 17, 2) := by decide +kernel
theorem dX7_doNextAct_63 : decode cX7_doNextAct 63 = .ok (.ishr, 1) := by decide +kernel
theorem dX7_doNextAct_64 : decode cX7_doNextAct 64 = .ok (.ifCond .eq 7, 3) := by decide +kernel
theorem dX7_doNextAct_67 : decode cX7_doNextAct 67 = .ok (.iconst 1, 1) := by decide +kernel
theorem dX7_doNextAct_68 : decode cX7_doNextAct 68 = .ok (.goto 4, 3) := by decide +kernel
theorem dX7_doNextAct_71 : decode cX7_doNextAct 71 = .ok (.iconst 0, 1) := by decide +kernel
theorem dX7_doNextAct_72 : decode cX7_doNextAct 72 = .ok (.iload_n 3, 1) := by decide +kernel
theorem dX7_doNextAct_73 : decode cX7_doNextAct 73 = .ok (.invokevirtual 188, 3) := by decide +kernel
theorem dX7_doNextAct_76 : decode cX7_doNextAct 76 = .ok (.putfield 94, 3) := by decide +kernel
theorem dX7_doNextAct_79 : decode cX7_doNextAct 79 = .ok (.aload_n 0, 1) := by decide +kernel
theorem dX7_doNextAct_80 : decode cX7_doNextAct 80 = .ok (.getfield 94, 3) := by decide +kernel
theorem dX7_doNextAct_83 : decode cX7_doNextAct 83 = .ok (.ifCond .eq 10, 3) := by decide +kernel
theorem dX7_doNextAct_86 : decode cX7_doNextAct 86 = .ok (.aload_n 0, 1) := by decide +kernel
theorem dX7_doNextAct_87 : decode cX7_doNextAct 87 = .ok (.getfield 26, 3) := by decide +kernel
theorem dX7_doNextAct_90 : decode cX7_doNextAct 90 = .ok (.invokevirtual 192, 3) := by decide +kernel
theorem dX7_doNextAct_93 : decode cX7_doNextAct 93 = .ok (.aload_n 0, 1) := by decide +kernel
theorem dX7_doNextAct_94 : decode cX7_doNextAct 94 = .ok (.getfield 94, 3) := by decide +kernel
theorem dX7_doNextAct_97 : decode cX7_doNextAct 97 = .ok (.ifCond .eq 11, 3) := by decide +kernel
theorem dX7_doNextAct_100 : decode cX7_doNextAct 100 = .ok (.aload_n 0, 1) := by decide +kernel
theorem dX7_doNextAct_101 : decode cX7_doNextAct 101 = .ok (.getfield 94, 3) := by decide +kernel
theorem dX7_doNextAct_104 : decode cX7_doNextAct 104 = .ok (.iconst 1, 1) := by decide +kernel
theorem dX7_doNextAct_105 : decode cX7_doNextAct 105 = .ok (.if_icmp .ne 11, 3) := by decide +kernel
theorem dX7_doNextAct_108 : decode cX7_doNextAct 108 = .ok (.aload_n 0, 1) := by decide +kernel
theorem dX7_doNextAct_109 : decode cX7_doNextAct 109 = .ok (.aload_n 0, 1) := by decide +kernel
theorem dX7_doNextAct_110 : decode cX7_doNextAct 110 = .ok (.getfield 178, 3) := by decide +kernel
theorem dX7_doNextAct_113 : decode cX7_doNextAct 113 = .ok (.putfield 81, 3) := by decide +kernel
theorem dX7_doNextAct_116 : decode cX7_doNextAct 116 = .ok (.aload_n 0, 1) := by decide +kernel
theorem dX7_doNextAct_117 : decode cX7_doNextAct 117 = .ok (.dup, 1) := by decide +kernel
theorem dX7_doNextAct_118 : decode cX7_doNextAct 118 = .ok (.getfield 112, 3) := by decide +kernel
theorem dX7_doNextAct_121 : decode cX7_doNextAct 121 = .ok (.lconst 1, 1) := by decide +kernel
theorem dX7_doNextAct_122 : decode cX7_doNextAct 122 = .ok (.ladd, 1) := by decide +kernel
theorem dX7_doNextAct_123 : decode cX7_doNextAct 123 = .ok (.putfield 112, 3) := by decide +kernel
theorem dX7_doNextAct_126 : decode cX7_doNextAct 126 = .ok (.return_, 1) := by decide +kernel
theorem dX7_wantsHalfOfStore_0 : decode cX7_wantsHalfOfStore 0 = .ok (.iload_n 0, 1) := by decide +kernel
theorem dX7_wantsHalfOfStore_1 : decode cX7_wantsHalfOfStore 1 = .ok (.bipush 18, 2) := by decide +kernel
theorem dX7_wantsHalfOfStore_3 : decode cX7_wantsHalfOfStore 3 = .ok (.if_icmp .gt 9, 3) := by decide +kernel
theorem dX7_wantsHalfOfStore_6 : decode cX7_wantsHalfOfStore 6 = .ok (.iload_n 0, 1) := by decide +kernel
theorem dX7_wantsHalfOfStore_7 : decode cX7_wantsHalfOfStore 7 = .ok (.bipush 8, 2) := by decide +kernel
theorem dX7_wantsHalfOfStore_9 : decode cX7_wantsHalfOfStore 9 = .ok (.if_icmp .ne 9, 3) := by decide +kernel
theorem dX7_wantsHalfOfStore_12 : decode cX7_wantsHalfOfStore 12 = .ok (.iload_n 0, 1) := by decide +kernel
theorem dX7_wantsHalfOfStore_13 : decode cX7_wantsHalfOfStore 13 = .ok (.bipush 31, 2) := by decide +kernel
theorem dX7_wantsHalfOfStore_15 : decode cX7_wantsHalfOfStore 15 = .ok (.if_icmp .ne 7, 3) := by decide +kernel
theorem dX7_wantsHalfOfStore_18 : decode cX7_wantsHalfOfStore 18 = .ok (.iconst 1, 1) := by decide +kernel
theorem dX7_wantsHalfOfStore_19 : decode cX7_wantsHalfOfStore 19 = .ok (.goto 4, 3) := by decide +kernel
theorem dX7_wantsHalfOfStore_22 : decode cX7_wantsHalfOfStore 22 = .ok (.iconst 0, 1) := by decide +kernel
theorem dX7_wantsHalfOfStore_23 : decode cX7_wantsHalfOfStore 23 = .ok (.ireturn, 1) := by decide +kernel
set_option maxRecDepth 100000 in
theorem ggX7_perform_X7_goTo : GoodIn wsX7_perform wsX7_goTo := goodIn_r _ [8, 9, 233, 234, 235, 236, 237, 238, 239, 240, 241, 242, 243] rfl (by decide +kernel)
set_option maxRecDepth 100000 in
theorem gX7_perform_X7_goTo : GoodIn wsX7_perform (wsV RX7 195 RX7 yX7_goTo wsX7_goTo) := goodIn_app (goodIn_r _ [4, 5, 6, 7] rfl (by decide +kernel)) ggX7_perform_X7_goTo
set_option maxRecDepth 100000 in
theorem ggX7_perform_X7_goIf : GoodIn wsX7_perform wsX7_goIf := goodIn_r _ [13, 2, 14, 15, 16, 4, 5, 6, 7, 8, 9, 233, 234, 235, 236, 237, 238, 239, 240, 241, 242, 243, 244, 245, 246, 247, 248] rfl (by decide +kernel)
set_option maxRecDepth 100000 in
theorem gX7_perform_X7_goIf : GoodIn wsX7_perform (wsV RX7 198 RX7 yX7_goIf wsX7_goIf) := goodIn_app (goodIn_r _ [10, 11, 12, 7] rfl (by decide +kernel)) ggX7_perform_X7_goIf
set_option maxRecDepth 100000 in
theorem ggX7_perform_X0_accWord : GoodIn wsX7_perform wsX0_accWord := goodIn_r _ [21, 22, 23, 24, 7, 25, 26, 244, 245, 246, 247, 248] rfl (by decide +kernel)
set_option maxRecDepth 100000 in
theorem gX7_perform_X0_accWord : GoodIn wsX7_perform (wsV RX7 202 RX0 yX0_accWord wsX0_accWord) := goodIn_app (goodIn_r _ [17, 18, 19, 20] rfl (by decide +kernel)) ggX7_perform_X0_accWord
set_option maxRecDepth 100000 in
theorem ggX7_perform_X3_keepOperand : GoodIn wsX7_perform wsX3_keepOperand := goodIn_r _ [31, 32, 33, 34, 30, 35, 36, 37, 38, 39, 40, 41, 42, 43, 7, 44, 249] rfl (by decide +kernel)
set_option maxRecDepth 100000 in
theorem gX7_perform_X3_keepOperand : GoodIn wsX7_perform (wsV RX7 206 RX3 yX3_keepOperand wsX3_keepOperand) := goodIn_app (goodIn_r _ [27, 28, 29, 30] rfl (by decide +kernel)) ggX7_perform_X3_keepOperand
set_option maxRecDepth 100000 in
theorem ggX7_perform_X7_storePart : GoodIn wsX7_perform wsX7_storePart := goodIn_td 40 (goodIn_r _ [48, 2, 1, 17, 18, 19, 20, 21, 22, 23, 24, 7, 25, 26, 49, 50, 51, 30, 52, 53, 54, 55, 56, 57, 58, 59, 60, 41, 43, 44, 27, 28, 29, 31, 32, 33, 34, 35, 36, 37] rfl (by decide +kernel)) (goodIn_r _ [38, 39, 40, 42, 61, 62, 233, 234, 235, 236, 237, 238, 239, 240, 241, 242, 243, 244, 245, 246, 247, 248, 249] rfl (by decide +kernel))
set_option maxRecDepth 100000 in
theorem gX7_perform_X7_storePart : GoodIn wsX7_perform (wsV RX7 210 RX7 yX7_storePart wsX7_storePart) := goodIn_app (goodIn_r _ [45, 46, 47, 7] rfl (by decide +kernel)) ggX7_perform_X7_storePart
set_option maxRecDepth 100000 in
theorem ggX7_perform_X0_mqWord : GoodIn wsX7_perform wsX0_mqWord := goodIn_r _ [66, 67, 68, 24, 7, 25, 26, 244, 245, 246, 247, 248] rfl (by decide +kernel)
set_option maxRecDepth 100000 in
theorem gX7_perform_X0_mqWord : GoodIn wsX7_perform (wsV RX7 214 RX0 yX0_mqWord wsX0_mqWord) := goodIn_app (goodIn_r _ [63, 64, 65, 20] rfl (by decide +kernel)) ggX7_perform_X0_mqWord
set_option maxRecDepth 100000 in
theorem ggX7_perform_X0_round : GoodIn wsX7_perform wsX0_round := goodIn_r _ [72, 68, 73, 74, 75, 20, 76, 23, 77, 78, 79, 244, 245, 246, 247, 248] rfl (by decide +kernel)
set_option maxRecDepth 100000 in
theorem gX7_perform_X0_round : GoodIn wsX7_perform (wsV RX7 217 RX0 yX0_round wsX0_round) := goodIn_app (goodIn_r _ [69, 70, 71, 20] rfl (by decide +kernel)) ggX7_perform_X0_round
set_option maxRecDepth 100000 in
theorem ggX7_perform_X0_leftBoth : GoodIn wsX7_perform wsX0_leftBoth := goodIn_r _ [83, 78, 68, 23, 79, 77, 67, 22, 84, 85, 86, 20, 87, 88, 89, 90, 244, 245, 246, 247, 248] rfl (by decide +kernel)
set_option maxRecDepth 100000 in
theorem gX7_perform_X0_leftBoth : GoodIn wsX7_perform (wsV RX7 220 RX0 yX0_leftBoth wsX0_leftBoth) := goodIn_app (goodIn_r _ [80, 81, 82, 20] rfl (by decide +kernel)) ggX7_perform_X0_leftBoth
set_option maxRecDepth 100000 in
theorem ggX7_perform_X0_rightBoth : GoodIn wsX7_perform wsX0_rightBoth := goodIn_r _ [94, 23, 68, 77, 22, 67, 95, 96, 97, 20, 98, 244, 245, 246, 247, 248] rfl (by decide +kernel)
set_option maxRecDepth 100000 in
theorem gX7_perform_X0_rightBoth : GoodIn wsX7_perform (wsV RX7 223 RX0 yX0_rightBoth wsX0_rightBoth) := goodIn_app (goodIn_r _ [91, 92, 93, 20] rfl (by decide +kernel)) ggX7_perform_X0_rightBoth
set_option maxRecDepth 100000 in
theorem ggX7_perform_X0_left : GoodIn wsX7_perform wsX0_left := goodIn_r _ [87, 78, 23, 79, 88, 89, 20, 90, 77, 244, 245, 246, 247, 248] rfl (by decide +kernel)
set_option maxRecDepth 100000 in
theorem gX7_perform_X0_left : GoodIn wsX7_perform (wsV RX7 226 RX0 yX0_left wsX0_left) := goodIn_app (goodIn_r _ [99, 85, 86, 20] rfl (by decide +kernel)) ggX7_perform_X0_left
set_option maxRecDepth 100000 in
theorem ggX7_perform_X0_right : GoodIn wsX7_perform wsX0_right := goodIn_r _ [98, 23, 244, 245, 246, 247, 248] rfl (by decide +kernel)
set_option maxRecDepth 100000 in
theorem gX7_perform_X0_right : GoodIn wsX7_perform (wsV RX7 229 RX0 yX0_right wsX0_right) := goodIn_app (goodIn_r _ [100, 96, 97, 20] rfl (by decide +kernel)) ggX7_perform_X0_right
set_option maxRecDepth 100000 in
theorem ggX7_perform_X6_choose : GoodIn wsX7_perform wsX6_choose := goodIn_td 40 (goodIn_r _ [105, 106, 107, 108, 109, 104, 110, 111, 112, 113, 114, 115, 116, 117, 118, 119, 120, 121, 122, 123, 124, 125, 126, 127, 128, 129, 130, 131, 132, 133, 134, 135, 136, 137, 138, 139, 250, 251, 252, 253] rfl (by decide +kernel)) (goodIn_r _ [254, 255, 256] rfl (by decide +kernel))
set_option maxRecDepth 100000 in
theorem gX7_perform_X6_choose : GoodIn wsX7_perform (wsV RX7 232 RX6 yX6_choose wsX6_choose) := goodIn_app (goodIn_r _ [101, 102, 103, 104] rfl (by decide +kernel)) ggX7_perform_X6_choose
set_option maxRecDepth 100000 in
theorem ggX7_perform_X6_setDrumPlace : GoodIn wsX7_perform wsX6_setDrumPlace := goodIn_r _ [143, 106, 144, 145, 146, 147, 148, 149, 150, 250, 251, 252, 253, 257, 258] rfl (by decide +kernel)
set_option maxRecDepth 100000 in
theorem gX7_perform_X6_setDrumPlace : GoodIn wsX7_perform (wsV RX7 235 RX6 yX6_setDrumPlace wsX6_setDrumPlace) := goodIn_app (goodIn_r _ [140, 141, 142, 104] rfl (by decide +kernel)) ggX7_perform_X6_setDrumPlace
set_option maxRecDepth 100000 in
theorem ggX7_perform_X7_sense : GoodIn wsX7_perform wsX7_sense := goodIn_r _ [154, 155, 156, 157, 158, 7, 159, 160, 161, 162, 163, 9, 233, 234, 235, 236, 237, 238, 239, 240, 241, 242, 243] rfl (by decide +kernel)
set_option maxRecDepth 100000 in
theorem gX7_perform_X7_sense : GoodIn wsX7_perform (wsV RX7 238 RX7 yX7_sense wsX7_sense) := goodIn_app (goodIn_r _ [151, 152, 153, 7] rfl (by decide +kernel)) ggX7_perform_X7_sense
set_option maxRecDepth 100000 in
theorem ggX7_perform_X7_copy : GoodIn wsX7_perform wsX7_copy := goodIn_td 40 (goodIn_r _ [167, 3, 168, 1, 169, 170, 171, 172, 104, 173, 106, 118, 119, 120, 121, 107, 108, 109, 110, 111, 49, 50, 51, 30, 52, 53, 54, 55, 56, 57, 58, 59, 60, 41, 43, 7, 44, 174, 175, 176] rfl (by decide +kernel)) (goodIn_td 40 (goodIn_r _ [177, 144, 116, 178, 179, 180, 148, 181, 150, 182, 183, 146, 147, 149, 122, 123, 124, 125, 126, 127, 128, 129, 184, 185, 186, 187, 188, 189, 190, 191, 192, 193, 194, 195, 196, 197, 198, 199, 200, 201] rfl (by decide +kernel)) (goodIn_td 40 (goodIn_r _ [202, 203, 204, 205, 206, 207, 208, 209, 27, 28, 29, 31, 32, 33, 34, 35, 36, 37, 38, 39, 40, 42, 160, 161, 162, 163, 9, 233, 234, 235, 236, 237, 238, 239, 240, 241, 242, 243, 250, 251] rfl (by decide +kernel)) (goodIn_r _ [252, 253, 249, 257, 258, 254, 255, 256] rfl (by decide +kernel))))
set_option maxRecDepth 100000 in
theorem gX7_perform_X7_copy : GoodIn wsX7_perform (wsV RX7 241 RX7 yX7_copy wsX7_copy) := goodIn_app (goodIn_r _ [164, 165, 166, 7] rfl (by decide +kernel)) ggX7_perform_X7_copy
set_option maxRecDepth 100000 in
theorem ggX7_perform_X3_operand : GoodIn wsX7_perform wsX3_operand := goodIn_r _ [52, 53, 54, 55, 30, 56, 57, 58, 59, 60, 41, 43, 7, 44, 249] rfl (by decide +kernel)
set_option maxRecDepth 100000 in
theorem gX7_perform_X3_operand : GoodIn wsX7_perform (wsV RX7 245 RX3 yX3_operand wsX3_operand) := goodIn_app (goodIn_r _ [49, 50, 51, 30] rfl (by decide +kernel)) ggX7_perform_X3_operand
set_option maxRecDepth 100000 in
theorem ggX7_perform_X0_calculate : GoodIn wsX7_perform wsX0_calculate := goodIn_r _ [213, 77, 67, 68, 214, 215, 216, 20, 217, 22, 23, 73, 74, 75, 76, 78, 79, 218, 219, 220, 221, 222, 223, 224, 225, 226, 227, 228, 70, 71, 72, 229, 230, 231, 232, 244, 245, 246, 247, 248] rfl (by decide +kernel)
set_option maxRecDepth 100000 in
theorem gX7_perform_X0_calculate : GoodIn wsX7_perform (wsV RX7 249 RX0 yX0_calculate wsX0_calculate) := goodIn_app (goodIn_r _ [210, 211, 212, 20] rfl (by decide +kernel)) ggX7_perform_X0_calculate
theorem dX7_perform_0 : decode cX7_perform 0 = .ok (.iload_n 1, 1) := by decide +kernel
theorem dX7_perform_1 : decode cX7_perform 1 = .ok (.tableswitch 304 0 31 #[143, 150, 150, 150, 150, 304, 304, 304, 157, 304, 304, 304, 159, 177, 185, 304, 304, 304, 304, 203, 212, 225, 238, 251, 264, 264, 264, 264, 264, 274, 291, 297], 143) := by decide +kernel
theorem dX7_perform_144 : decode cX7_perform 144 = .ok (.aload_n 0, 1) := by decide +kernel
theorem dX7_perform_145 : decode cX7_perform 145 = .ok (.iload_n 3, 1) := by decide +kernel
theorem dX7_perform_146 : decode cX7_perform 146 = .ok (.invokevirtual 195, 3) := by decide +kernel
theorem dX7_perform_149 : decode cX7_perform 149 = .ok (.iconst 1, 1) := by decide +kernel
theorem dX7_perform_150 : decode cX7_perform 150 = .ok (.ireturn, 1) := by decide +kernel
theorem dX7_perform_151 : decode cX7_perform 151 = .ok (.aload_n 0, 1) := by decide +kernel
theorem dX7_perform_152 : decode cX7_perform 152 = .ok (.iload_n 1, 1) := by decide +kernel
theorem dX7_perform_153 : decode cX7_perform 153 = .ok (.iload_n 3, 1) := by decide +kernel
theorem dX7_perform_154 : decode cX7_perform 154 = .ok (.invokevirtual 198, 3) := by decide +kernel
theorem dX7_perform_157 : decode cX7_perform 157 = .ok (.ireturn, 1) := by decide +kernel
theorem dX7_perform_158 : decode cX7_perform 158 = .ok (.iconst 0, 1) := by decide +kernel
theorem dX7_perform_159 : decode cX7_perform 159 = .ok (.ireturn, 1) := by decide +kernel
theorem dX7_perform_160 : decode cX7_perform 160 = .ok (.aload_n 0, 1) := by decide +kernel
theorem dX7_perform_161 : decode cX7_perform 161 = .ok (.getfield 12, 3) := by decide +kernel
theorem dX7_perform_164 : decode cX7_perform 164 = .ok (.iload_n 2, 1) := by decide +kernel
theorem dX7_perform_165 : decode cX7_perform 165 = .ok (.iload_n 3, 1) := by decide +kernel
theorem dX7_perform_166 : decode cX7_perform 166 = .ok (.aload_n 0, 1) := by decide +kernel
theorem dX7_perform_167 : decode cX7_perform 167 = .ok (.getfield 19, 3) := by decide +kernel
theorem dX7_perform_170 : decode cX7_perform 170 = .ok (.invokevirtual 202, 3) := by decide +kernel
theorem dX7_perform_173 : decode cX7_perform 173 = .ok (.invokevirtual 206, 3) := by decide +kernel
theorem dX7_perform_176 : decode cX7_perform 176 = .ok (.iconst 0, 1) := by decide +kernel
theorem dX7_perform_177 : decode cX7_perform 177 = .ok (.ireturn, 1) := by decide +kernel
theorem dX7_perform_178 : decode cX7_perform 178 = .ok (.aload_n 0, 1) := by decide +kernel
theorem dX7_perform_179 : decode cX7_perform 179 = .ok (.iload_n 2, 1) := by decide +kernel
theorem dX7_perform_180 : decode cX7_perform 180 = .ok (.iload_n 3, 1) := by decide +kernel
theorem dX7_perform_181 : decode cX7_perform 181 = .ok (.invokevirtual 210, 3) := by decide +kernel
theorem dX7_perform_184 : decode cX7_perform 184 = .ok (.iconst 0, 1) := by decide +kernel
theorem dX7_perform_185 : decode cX7_perform 185 = .ok (.ireturn, 1) := by decide +kernel
theorem dX7_perform_186 : decode cX7_perform 186 = .ok (.aload_n 0, 1) := by decide +kernel
theorem dX7_perform_187 : decode cX7_perform 187 = .ok (.getfield 12, 3) := by decide +kernel
theorem dX7_perform_190 : decode cX7_perform 190 = .ok (.iload_n 2, 1) := by decide +kernel
theorem dX7_perform_191 : decode cX7_perform 191 = .ok (.iload_n 3, 1) := by decide +kernel
theorem dX7_perform_192 : decode cX7_perform 192 = .ok (.aload_n 0, 1) := by decide +kernel
theorem dX7_perform_193 : decode cX7_perform 193 = .ok (.getfield 19, 3) := by decide +kernel
theorem dX7_perform_196 : decode cX7_perform 196 = .ok (.invokevirtual 214, 3) := by decide +kernel
theorem dX7_perform_199 : decode cX7_perform 199 = .ok (.invokevirtual 206, 3) := by decide +kernel
theorem dX7_perform_202 : decode cX7_perform 202 = .ok (.iconst 0, 1) := by decide +kernel
theorem dX7_perform_203 : decode cX7_perform 203 = .ok (.ireturn, 1) := by decide +kernel
theorem dX7_perform_204 : decode cX7_perform 204 = .ok (.aload_n 0, 1) := by decide +kernel
theorem dX7_perform_205 : decode cX7_perform 205 = .ok (.getfield 19, 3) := by decide +kernel
theorem dX7_perform_208 : decode cX7_perform 208 = .ok (.invokevirtual 217, 3) := by decide +kernel
theorem dX7_perform_211 : decode cX7_perform 211 = .ok (.iconst 0, 1) := by decide +kernel
theorem dX7_perform_212 : decode cX7_perform 212 = .ok (.ireturn, 1) := by decide +kernel
theorem dX7_perform_213 : decode cX7_perform 213 = .ok (.aload_n 0, 1) := by decide +kernel
theorem dX7_perform_214 : decode cX7_perform 214 = .ok (.getfield 19, 3) := by decide +kernel
theorem dX7_perform_217 : decode cX7_perform 217 = .ok (.iload_n 3, 1) := by decide +kernel
theorem dX7_perform_218 : decode cX7_perform 218 = .ok (.bipush 63, 2) := by decide +kernel
theorem dX7_perform_220 : decode cX7_perform 220 = .ok (.iand, 1) := by decide +kernel
theorem dX7_perform_221 : decode cX7_perform 221 = .ok (.invokevirtual 220, 3) := by decide +kernel
theorem dX7_perform_224 : decode cX7_perform 224 = .ok (.iconst 0, 1) := by decide +kernel
theorem dX7_perform_225 : decode cX7_perform 225 = .ok (.ireturn, 1) := by decide +kernel
theorem dX7_perform_226 : decode cX7_perform 226 = .ok (.aload_n 0, 1) := by decide +kernel
theorem dX7_perform_227 : decode cX7_perform 227 = .ok (.getfield 19, 3) := by decide +kernel
theorem dX7_perform_230 : decode cX7_perform 230 = .ok (.iload_n 3, 1) := by decide +kernel
theorem dX7_perform_231 : decode cX7_perform 231 = .ok (.bipush 63, 2) := by decide +kernel
theorem dX7_perform_233 : decode cX7_perform 233 = .ok (.iand, 1) := by decide +kernel
theorem dX7_perform_234 : decode cX7_perform 234 = .ok (.invokevirtual 223, 3) := by decide +kernel
theorem dX7_perform_237 : decode cX7_perform 237 = .ok (.iconst 0, 1) := by decide +kernel
theorem dX7_perform_238 : decode cX7_perform 238 = .ok (.ireturn, 1) := by decide +kernel
theorem dX7_perform_239 : decode cX7_perform 239 = .ok (.aload_n 0, 1) := by decide +kernel
theorem dX7_perform_240 : decode cX7_perform 240 = .ok (.getfield 19, 3) := by decide +kernel
theorem dX7_perform_243 : decode cX7_perform 243 = .ok (.iload_n 3, 1) := by decide +kernel
theorem dX7_perform_244 : decode cX7_perform 244 = .ok (.bipush 63, 2) := by decide +kernel
theorem dX7_perform_246 : decode cX7_perform 246 = .ok (.iand, 1) := by decide +kernel
theorem dX7_perform_247 : decode cX7_perform 247 = .ok (.invokevirtual 226, 3) := by decide +kernel
theorem dX7_perform_250 : decode cX7_perform 250 = .ok (.iconst 0, 1) := by decide +kernel
theorem dX7_perform_251 : decode cX7_perform 251 = .ok (.ireturn, 1) := by decide +kernel
theorem dX7_perform_252 : decode cX7_perform 252 = .ok (.aload_n 0, 1) := by decide +kernel
theorem dX7_perform_253 : decode cX7_perform 253 = .ok (.getfield 19, 3) := by decide +kernel
theorem dX7_perform_256 : decode cX7_perform 256 = .ok (.iload_n 3, 1) := by decide +kernel
theorem dX7_perform_257 : decode cX7_perform 257 = .ok (.bipush 63, 2) := by decide +kernel
theorem dX7_perform_259 : decode cX7_perform 259 = .ok (.iand, 1) := by decide +kernel
theorem dX7_perform_260 : decode cX7_perform 260 = .ok (.invokevirtual 229, 3) := by decide +kernel
theorem dX7_perform_263 : decode cX7_perform 263 = .ok (.iconst 0, 1) := by decide +kernel
theorem dX7_perform_264 : decode cX7_perform 264 = .ok (.ireturn, 1) := by decide +kernel
theorem dX7_perform_265 : decode cX7_perform 265 = .ok (.aload_n 0, 1) := by decide +kernel
theorem dX7_perform_266 : decode cX7_perform 266 = .ok (.getfield 26, 3) := by decide +kernel
theorem dX7_perform_269 : decode cX7_perform 269 = .ok (.iload_n 1, 1) := by decide +kernel
theorem dX7_perform_270 : decode cX7_perform 270 = .ok (.iload_n 3, 1) := by decide +kernel
theorem dX7_perform_271 : decode cX7_perform 271 = .ok (.invokevirtual 232, 3) := by decide +kernel
theorem dX7_perform_274 : decode cX7_perform 274 = .ok (.ireturn, 1) := by decide +kernel
theorem dX7_perform_275 : decode cX7_perform 275 = .ok (.aload_n 0, 1) := by decide +kernel
theorem dX7_perform_276 : decode cX7_perform 276 = .ok (.getfield 26, 3) := by decide +kernel
theorem dX7_perform_279 : decode cX7_perform 279 = .ok (.iload_n 3, 1) := by decide +kernel
theorem dX7_perform_280 : decode cX7_perform 280 = .ok (.invokevirtual 235, 3) := by decide +kernel
theorem dX7_perform_283 : decode cX7_perform 283 = .ok (.ifCond .eq 7, 3) := by decide +kernel
theorem dX7_perform_286 : decode cX7_perform 286 = .ok (.iconst 0, 1) := by decide +kernel
theorem dX7_perform_287 : decode cX7_perform 287 = .ok (.goto 4, 3) := by decide +kernel
theorem dX7_perform_290 : decode cX7_perform 290 = .ok (.iconst 4, 1) := by decide +kernel
theorem dX7_perform_291 : decode cX7_perform 291 = .ok (.ireturn, 1) := by decide +kernel
theorem dX7_perform_292 : decode cX7_perform 292 = .ok (.aload_n 0, 1) := by decide +kernel
theorem dX7_perform_293 : decode cX7_perform 293 = .ok (.iload_n 3, 1) := by decide +kernel
theorem dX7_perform_294 : decode cX7_perform 294 = .ok (.invokevirtual 238, 3) := by decide +kernel
theorem dX7_perform_297 : decode cX7_perform 297 = .ok (.ireturn, 1) := by decide +kernel
theorem dX7_perform_298 : decode cX7_perform 298 = .ok (.aload_n 0, 1) := by decide +kernel
theorem dX7_perform_299 : decode cX7_perform 299 = .ok (.iload_n 2, 1) := by decide +kernel
theorem dX7_perform_300 : decode cX7_perform 300 = .ok (.iload_n 3, 1) := by decide +kernel
theorem dX7_perform_301 : decode cX7_perform 301 = .ok (.invokevirtual 241, 3) := by decide +kernel
theorem dX7_perform_304 : decode cX7_perform 304 = .ok (.ireturn, 1) := by decide +kernel
theorem dX7_perform_305 : decode cX7_perform 305 = .ok (.aload_n 0, 1) := by decide +kernel
theorem dX7_perform_306 : decode cX7_perform 306 = .ok (.getfield 19, 3) := by decide +kernel
theorem dX7_perform_309 : decode cX7_perform 309 = .ok (.iload_n 1, 1) := by decide +kernel
theorem dX7_perform_310 : decode cX7_perform 310 = .ok (.aload_n 0, 1) := by decide +kernel
theorem dX7_perform_311 : decode cX7_perform 311 = .ok (.getfield 12, 3) := by decide +kernel
theorem dX7_perform_314 : decode cX7_perform 314 = .ok (.iload_n 2, 1) := by decide +kernel
theorem dX7_perform_315 : decode cX7_perform 315 = .ok (.iload_n 3, 1) := by decide +kernel
theorem dX7_perform_316 : decode cX7_perform 316 = .ok (.invokevirtual 245, 3) := by decide +kernel
theorem dX7_perform_319 : decode cX7_perform 319 = .ok (.invokevirtual 249, 3) := by decide +kernel
theorem dX7_perform_322 : decode cX7_perform 322 = .ok (.ireturn, 1) := by decide +kernel
set_option maxRecDepth 100000 in
theorem ggX7_goIf_X7_goTo : GoodIn wsX7_goIf wsX7_goTo := goodIn_r _ [9, 10, 11, 12, 13, 14, 15, 16, 17, 18, 19, 20, 21] rfl (by decide +kernel)
set_option maxRecDepth 100000 in
theorem gX7_goIf_X7_goTo : GoodIn wsX7_goIf (wsV RX7 195 RX7 yX7_goTo wsX7_goTo) := goodIn_app (goodIn_r _ [5, 6, 7, 8] rfl (by decide +kernel)) ggX7_goIf_X7_goTo
theorem dX7_goIf_0 : decode cX7_goIf 0 = .ok (.iload_n 1, 1) := by decide +kernel
theorem dX7_goIf_1 : decode cX7_goIf 1 = .ok (.iconst 1, 1) := by decide +kernel
theorem dX7_goIf_2 : decode cX7_goIf 2 = .ok (.if_icmp .eq 50, 3) := by decide +kernel
theorem dX7_goIf_5 : decode cX7_goIf 5 = .ok (.iload_n 1, 1) := by decide +kernel
theorem dX7_goIf_6 : decode cX7_goIf 6 = .ok (.iconst 2, 1) := by decide +kernel
theorem dX7_goIf_7 : decode cX7_goIf 7 = .ok (.if_icmp .ne 13, 3) := by decide +kernel
theorem dX7_goIf_10 : decode cX7_goIf 10 = .ok (.aload_n 0, 1) := by decide +kernel
theorem dX7_goIf_11 : decode cX7_goIf 11 = .ok (.getfield 19, 3) := by decide +kernel
theorem dX7_goIf_14 : decode cX7_goIf 14 = .ok (.getfield 77, 3) := by decide +kernel
theorem dX7_goIf_17 : decode cX7_goIf 17 = .ok (.ifCond .ne 35, 3) := by decide +kernel
theorem dX7_goIf_20 : decode cX7_goIf 20 = .ok (.iload_n 1, 1) := by decide +kernel
theorem dX7_goIf_21 : decode cX7_goIf 21 = .ok (.iconst 3, 1) := by decide +kernel
theorem dX7_goIf_22 : decode cX7_goIf 22 = .ok (.if_icmp .ne 13, 3) := by decide +kernel
theorem dX7_goIf_25 : decode cX7_goIf 25 = .ok (.aload_n 0, 1) := by decide +kernel
theorem dX7_goIf_26 : decode cX7_goIf 26 = .ok (.getfield 19, 3) := by decide +kernel
theorem dX7_goIf_29 : decode cX7_goIf 29 = .ok (.getfield 63, 3) := by decide +kernel
theorem dX7_goIf_32 : decode cX7_goIf 32 = .ok (.ifCond .eq 20, 3) := by decide +kernel
theorem dX7_goIf_35 : decode cX7_goIf 35 = .ok (.iload_n 1, 1) := by decide +kernel
theorem dX7_goIf_36 : decode cX7_goIf 36 = .ok (.iconst 4, 1) := by decide +kernel
theorem dX7_goIf_37 : decode cX7_goIf 37 = .ok (.if_icmp .ne 19, 3) := by decide +kernel
theorem dX7_goIf_40 : decode cX7_goIf 40 = .ok (.aload_n 0, 1) := by decide +kernel
theorem dX7_goIf_41 : decode cX7_goIf 41 = .ok (.getfield 19, 3) := by decide +kernel
theorem dX7_goIf_44 : decode cX7_goIf 44 = .ok (.getfield 67, 3) := by decide +kernel
theorem dX7_goIf_47 : decode cX7_goIf 47 = .ok (.lconst 0, 1) := by decide +kernel
theorem dX7_goIf_48 : decode cX7_goIf 48 = .ok (.lcmp, 1) := by decide +kernel
theorem dX7_goIf_49 : decode cX7_goIf 49 = .ok (.ifCond .ne 7, 3) := by decide +kernel
theorem dX7_goIf_52 : decode cX7_goIf 52 = .ok (.iconst 1, 1) := by decide +kernel
theorem dX7_goIf_53 : decode cX7_goIf 53 = .ok (.goto 4, 3) := by decide +kernel
theorem dX7_goIf_56 : decode cX7_goIf 56 = .ok (.iconst 0, 1) := by decide +kernel
theorem dX7_goIf_57 : decode cX7_goIf 57 = .ok (.istore_n 3, 1) := by decide +kernel
theorem dX7_goIf_58 : decode cX7_goIf 58 = .ok (.iload_n 1, 1) := by decide +kernel
theorem dX7_goIf_59 : decode cX7_goIf 59 = .ok (.iconst 2, 1) := by decide +kernel
theorem dX7_goIf_60 : decode cX7_goIf 60 = .ok (.if_icmp .ne 11, 3) := by decide +kernel
theorem dX7_goIf_63 : decode cX7_goIf 63 = .ok (.aload_n 0, 1) := by decide +kernel
theorem dX7_goIf_64 : decode cX7_goIf 64 = .ok (.getfield 19, 3) := by decide +kernel
theorem dX7_goIf_67 : decode cX7_goIf 67 = .ok (.iconst 0, 1) := by decide +kernel
theorem dX7_goIf_68 : decode cX7_goIf 68 = .ok (.putfield 77, 3) := by decide +kernel
theorem dX7_goIf_71 : decode cX7_goIf 71 = .ok (.iload_n 3, 1) := by decide +kernel
theorem dX7_goIf_72 : decode cX7_goIf 72 = .ok (.ifCond .eq 8, 3) := by decide +kernel
theorem dX7_goIf_75 : decode cX7_goIf 75 = .ok (.aload_n 0, 1) := by decide +kernel
theorem dX7_goIf_76 : decode cX7_goIf 76 = .ok (.iload_n 2, 1) := by decide +kernel
theorem dX7_goIf_77 : decode cX7_goIf 77 = .ok (.invokevirtual 195, 3) := by decide +kernel
theorem dX7_goIf_80 : decode cX7_goIf 80 = .ok (.iconst 0, 1) := by decide +kernel
theorem dX7_goIf_81 : decode cX7_goIf 81 = .ok (.ireturn, 1) := by decide +kernel
theorem dX7_goTo_0 : decode cX7_goTo 0 = .ok (.aload_n 0, 1) := by decide +kernel
theorem dX7_goTo_1 : decode cX7_goTo 1 = .ok (.iload_n 1, 1) := by decide +kernel
theorem dX7_goTo_2 : decode cX7_goTo 2 = .ok (.sipush 511, 3) := by decide +kernel
theorem dX7_goTo_5 : decode cX7_goTo 5 = .ok (.iand, 1) := by decide +kernel
theorem dX7_goTo_6 : decode cX7_goTo 6 = .ok (.putfield 178, 3) := by decide +kernel
theorem dX7_goTo_9 : decode cX7_goTo 9 = .ok (.return_, 1) := by decide +kernel
theorem dX7_passOver_0 : decode cX7_passOver 0 = .ok (.aload_n 0, 1) := by decide +kernel
theorem dX7_passOver_1 : decode cX7_passOver 1 = .ok (.aload_n 0, 1) := by decide +kernel
theorem dX7_passOver_2 : decode cX7_passOver 2 = .ok (.getfield 178, 3) := by decide +kernel
theorem dX7_passOver_5 : decode cX7_passOver 5 = .ok (.iload_n 1, 1) := by decide +kernel
theorem dX7_passOver_6 : decode cX7_passOver 6 = .ok (.iadd, 1) := by decide +kernel
theorem dX7_passOver_7 : decode cX7_passOver 7 = .ok (.sipush 511, 3) := by decide +kernel
theorem dX7_passOver_10 : decode cX7_passOver 10 = .ok (.iand, 1) := by decide +kernel
theorem dX7_passOver_11 : decode cX7_passOver 11 = .ok (.putfield 178, 3) := by decide +kernel
theorem dX7_passOver_14 : decode cX7_passOver 14 = .ok (.return_, 1) := by decide +kernel
set_option maxRecDepth 100000 in
theorem ggX7_storePart_X0_accWord : GoodIn wsX7_storePart wsX0_accWord := goodIn_r _ [7, 8, 9, 10, 11, 12, 13, 57, 58, 59, 60, 61] rfl (by decide +kernel)
set_option maxRecDepth 100000 in
theorem gX7_storePart_X0_accWord : GoodIn wsX7_storePart (wsV RX7 202 RX0 yX0_accWord wsX0_accWord) := goodIn_app (goodIn_r _ [3, 4, 5, 6] rfl (by decide +kernel)) ggX7_storePart_X0_accWord
set_option maxRecDepth 100000 in
theorem ggX7_storePart_X3_operand : GoodIn wsX7_storePart wsX3_operand := goodIn_r _ [18, 19, 20, 21, 17, 22, 23, 24, 25, 26, 27, 28, 11, 29, 62] rfl (by decide +kernel)
set_option maxRecDepth 100000 in
theorem gX7_storePart_X3_operand : GoodIn wsX7_storePart (wsV RX7 245 RX3 yX3_operand wsX3_operand) := goodIn_app (goodIn_r _ [14, 15, 16, 17] rfl (by decide +kernel)) ggX7_storePart_X3_operand
set_option maxRecDepth 100000 in
theorem ggX7_storePart_X3_keepOperand : GoodIn wsX7_storePart wsX3_keepOperand := goodIn_r _ [33, 34, 35, 36, 17, 37, 38, 39, 40, 41, 42, 27, 43, 28, 11, 29, 62] rfl (by decide +kernel)
set_option maxRecDepth 100000 in
theorem gX7_storePart_X3_keepOperand : GoodIn wsX7_storePart (wsV RX7 206 RX3 yX3_keepOperand wsX3_keepOperand) := goodIn_app (goodIn_r _ [30, 31, 32, 17] rfl (by decide +kernel)) ggX7_storePart_X3_keepOperand
set_option maxRecDepth 100000 in
theorem ggX7_storePart_X3_halfAt : GoodIn wsX7_storePart wsX3_halfAt := goodIn_r _ [26, 27, 28, 11, 29, 62] rfl (by decide +kernel)
set_option maxRecDepth 100000 in
theorem gX7_storePart_X3_halfAt : GoodIn wsX7_storePart (wsV RX7 48 RX3 yX3_halfAt wsX3_halfAt) := goodIn_app (goodIn_r _ [44, 24, 25, 17] rfl (by decide +kernel)) ggX7_storePart_X3_halfAt
set_option maxRecDepth 100000 in
theorem ggX7_storePart_X3_keepHalf : GoodIn wsX7_storePart wsX3_keepHalf := goodIn_r _ [42, 27, 43, 28, 11, 29, 62] rfl (by decide +kernel)
set_option maxRecDepth 100000 in
theorem gX7_storePart_X3_keepHalf : GoodIn wsX7_storePart (wsV RX7 53 RX3 yX3_keepHalf wsX3_keepHalf) := goodIn_app (goodIn_r _ [45, 40, 41, 17] rfl (by decide +kernel)) ggX7_storePart_X3_keepHalf
theorem dX7_storePart_0 : decode cX7_storePart 0 = .ok (.aload_n 0, 1) := by decide +kernel
theorem dX7_storePart_1 : decode cX7_storePart 1 = .ok (.getfield 19, 3) := by decide +kernel
theorem dX7_storePart_4 : decode cX7_storePart 4 = .ok (.invokevirtual 202, 3) := by decide +kernel
theorem dX7_storePart_7 : decode cX7_storePart 7 = .ok (.lstore_n 3, 1) := by decide +kernel
theorem dX7_storePart_8 : decode cX7_storePart 8 = .ok (.iload_n 1, 1) := by decide +kernel
theorem dX7_storePart_9 : decode cX7_storePart 9 = .ok (.ifCond .eq 26, 3) := by decide +kernel
theorem dX7_storePart_12 : decode cX7_storePart 12 = .ok (.aload_n 0, 1) := by decide +kernel
theorem dX7_storePart_13 : decode cX7_storePart 13 = .ok (.getfield 12, 3) := by decide +kernel
theorem dX7_storePart_16 : decode cX7_storePart 16 = .ok (.iconst 1, 1) := by decide +kernel
theorem dX7_storePart_17 : decode cX7_storePart 17 = .ok (.iload_n 2, 1) := by decide +kernel
theorem dX7_storePart_18 : decode cX7_storePart 18 = .ok (.aload_n 0, 1) := by decide +kernel
theorem dX7_storePart_19 : decode cX7_storePart 19 = .ok (.getfield 12, 3) := by decide +kernel
theorem dX7_storePart_22 : decode cX7_storePart 22 = .ok (.iconst 1, 1) := by decide +kernel
theorem dX7_storePart_23 : decode cX7_storePart 23 = .ok (.iload_n 2, 1) := by decide +kernel
theorem dX7_storePart_24 : decode cX7_storePart 24 = .ok (.invokevirtual 245, 3) := by decide +kernel
theorem dX7_storePart_27 : decode cX7_storePart 27 = .ok (.lload_n 3, 1) := by decide +kernel
theorem dX7_storePart_28 : decode cX7_storePart 28 = .ok (.land, 1) := by decide +kernel
theorem dX7_storePart_29 : decode cX7_storePart 29 = .ok (.invokevirtual 206, 3) := by decide +kernel
theorem dX7_storePart_32 : decode cX7_storePart 32 = .ok (.goto 37, 3) := by decide +kernel
theorem dX7_storePart_35 : decode cX7_storePart 35 = .ok (.aload_n 0, 1) := by decide +kernel
theorem dX7_storePart_36 : decode cX7_storePart 36 = .ok (.getfield 12, 3) := by decide +kernel
theorem dX7_storePart_39 : decode cX7_storePart 39 = .ok (.iload_n 2, 1) := by decide +kernel
theorem dX7_storePart_40 : decode cX7_storePart 40 = .ok (.invokevirtual 48, 3) := by decide +kernel
theorem dX7_storePart_43 : decode cX7_storePart 43 = .ok (.sipush (-4096), 3) := by decide +kernel
theorem dX7_storePart_46 : decode cX7_storePart 46 = .ok (.iand, 1) := by decide +kernel
theorem dX7_storePart_47 : decode cX7_storePart 47 = .ok (.istore 5, 2) := by decide +kernel
theorem dX7_storePart_49 : decode cX7_storePart 49 = .ok (.aload_n 0, 1) := by decide +kernel
theorem dX7_storePart_50 : decode cX7_storePart 50 = .ok (.getfield 12, 3) := by decide +kernel
theorem dX7_storePart_53 : decode cX7_storePart 53 = .ok (.iload_n 2, 1) := by decide +kernel
theorem dX7_storePart_54 : decode cX7_storePart 54 = .ok (.iload 5, 2) := by decide +kernel
theorem dX7_storePart_56 : decode cX7_storePart 56 = .ok (.lload_n 3, 1) := by decide +kernel
theorem dX7_storePart_57 : decode cX7_storePart 57 = .ok (.bipush 18, 2) := by decide +kernel
theorem dX7_storePart_59 : decode cX7_storePart 59 = .ok (.lshr, 1) := by decide +kernel
theorem dX7_storePart_60 : decode cX7_storePart 60 = .ok (.l2i, 1) := by decide +kernel
theorem dX7_storePart_61 : decode cX7_storePart 61 = .ok (.sipush 4095, 3) := by decide +kernel
theorem dX7_storePart_64 : decode cX7_storePart 64 = .ok (.iand, 1) := by decide +kernel
theorem dX7_storePart_65 : decode cX7_storePart 65 = .ok (.ior, 1) := by decide +kernel
theorem dX7_storePart_66 : decode cX7_storePart 66 = .ok (.invokevirtual 53, 3) := by decide +kernel
theorem dX7_storePart_69 : decode cX7_storePart 69 = .ok (.return_, 1) := by decide +kernel
set_option maxRecDepth 100000 in
theorem ggX7_sense_X7_bitOf : GoodIn wsX7_sense wsX7_bitOf := goodIn_r _ [6] rfl (by decide +kernel)
set_option maxRecDepth 100000 in
theorem gX7_sense_X7_bitOf : GoodIn wsX7_sense (va_wsS RX7 103 yX7_bitOf wsX7_bitOf) := goodIn_app (goodIn_r _ [3, 4, 5] rfl (by decide +kernel)) ggX7_sense_X7_bitOf
set_option maxRecDepth 100000 in
theorem ggX7_sense_X7_passOver : GoodIn wsX7_sense wsX7_passOver := goodIn_r _ [10, 11, 12, 13, 14, 15, 16, 17, 18, 19, 20, 21, 22] rfl (by decide +kernel)
set_option maxRecDepth 100000 in
theorem gX7_sense_X7_passOver : GoodIn wsX7_sense (wsV RX7 181 RX7 yX7_passOver wsX7_passOver) := goodIn_app (goodIn_r _ [7, 8, 9, 5] rfl (by decide +kernel)) ggX7_sense_X7_passOver
theorem dX7_sense_0 : decode cX7_sense 0 = .ok (.iload_n 1, 1) := by decide +kernel
theorem dX7_sense_1 : decode cX7_sense 1 = .ok (.bipush 64, 2) := by decide +kernel
theorem dX7_sense_3 : decode cX7_sense 3 = .ok (.if_icmp .lt 9, 3) := by decide +kernel
theorem dX7_sense_6 : decode cX7_sense 6 = .ok (.iload_n 1, 1) := by decide +kernel
theorem dX7_sense_7 : decode cX7_sense 7 = .ok (.bipush 76, 2) := by decide +kernel
theorem dX7_sense_9 : decode cX7_sense 9 = .ok (.if_icmp .le 5, 3) := by decide +kernel
theorem dX7_sense_12 : decode cX7_sense 12 = .ok (.iconst 4, 1) := by decide +kernel
theorem dX7_sense_13 : decode cX7_sense 13 = .ok (.ireturn, 1) := by decide +kernel
theorem dX7_sense_14 : decode cX7_sense 14 = .ok (.iload_n 1, 1) := by decide +kernel
theorem dX7_sense_15 : decode cX7_sense 15 = .ok (.bipush 64, 2) := by decide +kernel
theorem dX7_sense_17 : decode cX7_sense 17 = .ok (.if_icmp .ne 11, 3) := by decide +kernel
theorem dX7_sense_20 : decode cX7_sense 20 = .ok (.aload_n 0, 1) := by decide +kernel
theorem dX7_sense_21 : decode cX7_sense 21 = .ok (.iconst 0, 1) := by decide +kernel
theorem dX7_sense_22 : decode cX7_sense 22 = .ok (.putfield 84, 3) := by decide +kernel
theorem dX7_sense_25 : decode cX7_sense 25 = .ok (.goto 103, 3) := by decide +kernel
theorem dX7_sense_28 : decode cX7_sense 28 = .ok (.iload_n 1, 1) := by decide +kernel
theorem dX7_sense_29 : decode cX7_sense 29 = .ok (.bipush 68, 2) := by decide +kernel
theorem dX7_sense_31 : decode cX7_sense 31 = .ok (.if_icmp .gt 22, 3) := by decide +kernel
theorem dX7_sense_34 : decode cX7_sense 34 = .ok (.aload_n 0, 1) := by decide +kernel
theorem dX7_sense_35 : decode cX7_sense 35 = .ok (.dup, 1) := by decide +kernel
theorem dX7_sense_36 : decode cX7_sense 36 = .ok (.getfield 84, 3) := by decide +kernel
theorem dX7_sense_39 : decode cX7_sense 39 = .ok (.iload_n 1, 1) := by decide +kernel
theorem dX7_sense_40 : decode cX7_sense 40 = .ok (.bipush 64, 2) := by decide +kernel
theorem dX7_sense_42 : decode cX7_sense 42 = .ok (.isub, 1) := by decide +kernel
theorem dX7_sense_43 : decode cX7_sense 43 = .ok (.invokestatic 103, 3) := by decide +kernel
theorem dX7_sense_46 : decode cX7_sense 46 = .ok (.ior, 1) := by decide +kernel
theorem dX7_sense_47 : decode cX7_sense 47 = .ok (.putfield 84, 3) := by decide +kernel
theorem dX7_sense_50 : decode cX7_sense 50 = .ok (.goto 78, 3) := by decide +kernel
theorem dX7_sense_53 : decode cX7_sense 53 = .ok (.iload_n 1, 1) := by decide +kernel
theorem dX7_sense_54 : decode cX7_sense 54 = .ok (.bipush 72, 2) := by decide +kernel
theorem dX7_sense_56 : decode cX7_sense 56 = .ok (.if_icmp .gt 30, 3) := by decide +kernel
theorem dX7_sense_59 : decode cX7_sense 59 = .ok (.aload_n 0, 1) := by decide +kernel
theorem dX7_sense_60 : decode cX7_sense 60 = .ok (.aload_n 0, 1) := by decide +kernel
theorem dX7_sense_61 : decode cX7_sense 61 = .ok (.getfield 106, 3) := by decide +kernel
theorem dX7_sense_64 : decode cX7_sense 64 = .ok (.iload_n 1, 1) := by decide +kernel
theorem dX7_sense_65 : decode cX7_sense 65 = .ok (.bipush 68, 2) := by decide +kernel
theorem dX7_sense_67 : decode cX7_sense 67 = .ok (.isub, 1) := by decide +kernel
theorem dX7_sense_68 : decode cX7_sense 68 = .ok (.invokestatic 103, 3) := by decide +kernel
theorem dX7_sense_71 : decode cX7_sense 71 = .ok (.iand, 1) := by decide +kernel
theorem dX7_sense_72 : decode cX7_sense 72 = .ok (.ifCond .eq 7, 3) := by decide +kernel
theorem dX7_sense_75 : decode cX7_sense 75 = .ok (.iconst 1, 1) := by decide +kernel
theorem dX7_sense_76 : decode cX7_sense 76 = .ok (.goto 4, 3) := by decide +kernel
theorem dX7_sense_79 : decode cX7_sense 79 = .ok (.iconst 0, 1) := by decide +kernel
theorem dX7_sense_80 : decode cX7_sense 80 = .ok (.invokevirtual 181, 3) := by decide +kernel
theorem dX7_sense_83 : decode cX7_sense 83 = .ok (.goto 45, 3) := by decide +kernel
theorem dX7_sense_86 : decode cX7_sense 86 = .ok (.aload_n 0, 1) := by decide +kernel
theorem dX7_sense_87 : decode cX7_sense 87 = .ok (.aload_n 0, 1) := by decide +kernel
theorem dX7_sense_88 : decode cX7_sense 88 = .ok (.getfield 84, 3) := by decide +kernel
theorem dX7_sense_91 : decode cX7_sense 91 = .ok (.iload_n 1, 1) := by decide +kernel
theorem dX7_sense_92 : decode cX7_sense 92 = .ok (.bipush 72, 2) := by decide +kernel
theorem dX7_sense_94 : decode cX7_sense 94 = .ok (.isub, 1) := by decide +kernel
theorem dX7_sense_95 : decode cX7_sense 95 = .ok (.invokestatic 103, 3) := by decide +kernel
theorem dX7_sense_98 : decode cX7_sense 98 = .ok (.iand, 1) := by decide +kernel
theorem dX7_sense_99 : decode cX7_sense 99 = .ok (.ifCond .eq 7, 3) := by decide +kernel
theorem dX7_sense_102 : decode cX7_sense 102 = .ok (.iconst 1, 1) := by decide +kernel
theorem dX7_sense_103 : decode cX7_sense 103 = .ok (.goto 4, 3) := by decide +kernel
theorem dX7_sense_106 : decode cX7_sense 106 = .ok (.iconst 0, 1) := by decide +kernel
theorem dX7_sense_107 : decode cX7_sense 107 = .ok (.invokevirtual 181, 3) := by decide +kernel
theorem dX7_sense_110 : decode cX7_sense 110 = .ok (.aload_n 0, 1) := by decide +kernel
theorem dX7_sense_111 : decode cX7_sense 111 = .ok (.dup, 1) := by decide +kernel
theorem dX7_sense_112 : decode cX7_sense 112 = .ok (.getfield 84, 3) := by decide +kernel
theorem dX7_sense_115 : decode cX7_sense 115 = .ok (.iload_n 1, 1) := by decide +kernel
theorem dX7_sense_116 : decode cX7_sense 116 = .ok (.bipush 72, 2) := by decide +kernel
theorem dX7_sense_118 : decode cX7_sense 118 = .ok (.isub, 1) := by decide +kernel
theorem dX7_sense_119 : decode cX7_sense 119 = .ok (.invokestatic 103, 3) := by decide +kernel
theorem dX7_sense_122 : decode cX7_sense 122 = .ok (.iconst (-1), 1) := by decide +kernel
theorem dX7_sense_123 : decode cX7_sense 123 = .ok (.ixor, 1) := by decide +kernel
theorem dX7_sense_124 : decode cX7_sense 124 = .ok (.iand, 1) := by decide +kernel
theorem dX7_sense_125 : decode cX7_sense 125 = .ok (.putfield 84, 3) := by decide +kernel
theorem dX7_sense_128 : decode cX7_sense 128 = .ok (.iconst 0, 1) := by decide +kernel
theorem dX7_sense_129 : decode cX7_sense 129 = .ok (.ireturn, 1) := by decide +kernel
set_option maxRecDepth 100000 in
theorem ggX7_copy_X6_isWriting : GoodIn wsX7_copy wsX6_isWriting := goodIn_r _ [9, 10, 11, 12, 13, 8, 14, 15, 16, 17, 18, 19, 118, 119, 120, 121] rfl (by decide +kernel)
set_option maxRecDepth 100000 in
theorem gX7_copy_X6_isWriting : GoodIn wsX7_copy (wsV RX7 253 RX6 yX6_isWriting wsX6_isWriting) := goodIn_app (goodIn_r _ [5, 6, 7, 8] rfl (by decide +kernel)) ggX7_copy_X6_isWriting
set_option maxRecDepth 100000 in
theorem ggX7_copy_X3_operand : GoodIn wsX7_copy wsX3_operand := goodIn_r _ [24, 25, 26, 27, 23, 28, 29, 30, 31, 32, 33, 34, 35, 36, 122] rfl (by decide +kernel)
set_option maxRecDepth 100000 in
theorem gX7_copy_X3_operand : GoodIn wsX7_copy (wsV RX7 245 RX3 yX3_operand wsX3_operand) := goodIn_app (goodIn_r _ [20, 21, 22, 23] rfl (by decide +kernel)) ggX7_copy_X3_operand
set_option maxRecDepth 100000 in
theorem ggX7_copy_X6_writeWord : GoodIn wsX7_copy wsX6_writeWord := goodIn_td 40 (goodIn_r _ [40, 41, 42, 11, 12, 13, 8, 14, 10, 15, 16, 17, 18, 19, 43, 44, 45, 46, 47, 48, 49, 50, 51, 52, 53, 54, 55, 56, 57, 58, 59, 60, 61, 118, 119, 120, 121, 123, 124, 125] rfl (by decide +kernel)) (goodIn_r _ [126, 127] rfl (by decide +kernel))
set_option maxRecDepth 100000 in
theorem gX7_copy_X6_writeWord : GoodIn wsX7_copy (wsV RX7 256 RX6 yX6_writeWord wsX6_writeWord) := goodIn_app (goodIn_r _ [37, 38, 39, 8] rfl (by decide +kernel)) ggX7_copy_X6_writeWord
set_option maxRecDepth 100000 in
theorem ggX7_copy_X6_readItem : GoodIn wsX7_copy wsX6_readItem := goodIn_td 40 (goodIn_r _ [65, 10, 41, 66, 67, 68, 69, 46, 70, 48, 71, 72, 73, 74, 49, 50, 51, 52, 53, 15, 16, 17, 8, 18, 19, 75, 76, 77, 57, 78, 59, 79, 80, 81, 82, 83, 60, 61, 84, 85] rfl (by decide +kernel)) (goodIn_r _ [86, 87, 118, 119, 120, 121, 123, 124, 125, 126, 127] rfl (by decide +kernel))
set_option maxRecDepth 100000 in
theorem gX7_copy_X6_readItem : GoodIn wsX7_copy (wsV RX7 259 RX6 yX6_readItem wsX6_readItem) := goodIn_app (goodIn_r _ [62, 63, 64, 8] rfl (by decide +kernel)) ggX7_copy_X6_readItem
set_option maxRecDepth 100000 in
theorem ggX7_copy_X3_keepOperand : GoodIn wsX7_copy wsX3_keepOperand := goodIn_r _ [91, 92, 93, 94, 23, 95, 96, 97, 98, 99, 100, 33, 101, 34, 35, 36, 122] rfl (by decide +kernel)
set_option maxRecDepth 100000 in
theorem gX7_copy_X3_keepOperand : GoodIn wsX7_copy (wsV RX7 206 RX3 yX3_keepOperand wsX3_keepOperand) := goodIn_app (goodIn_r _ [88, 89, 90, 23] rfl (by decide +kernel)) ggX7_copy_X3_keepOperand
set_option maxRecDepth 100000 in
theorem ggX7_copy_X7_passOver : GoodIn wsX7_copy wsX7_passOver := goodIn_r _ [105, 106, 107, 108, 109, 110, 111, 112, 113, 114, 115, 116, 117] rfl (by decide +kernel)
set_option maxRecDepth 100000 in
theorem gX7_copy_X7_passOver : GoodIn wsX7_copy (wsV RX7 181 RX7 yX7_passOver wsX7_passOver) := goodIn_app (goodIn_r _ [102, 103, 104, 35] rfl (by decide +kernel)) ggX7_copy_X7_passOver
theorem dX7_copy_0 : decode cX7_copy 0 = .ok (.aload_n 0, 1) := by decide +kernel
theorem dX7_copy_1 : decode cX7_copy 1 = .ok (.getfield 26, 3) := by decide +kernel
theorem dX7_copy_4 : decode cX7_copy 4 = .ok (.getfield 97, 3) := by decide +kernel
theorem dX7_copy_7 : decode cX7_copy 7 = .ok (.ifCond .ne 6, 3) := by decide +kernel
theorem dX7_copy_10 : decode cX7_copy 10 = .ok (.bipush 6, 2) := by decide +kernel
theorem dX7_copy_12 : decode cX7_copy 12 = .ok (.ireturn, 1) := by decide +kernel
theorem dX7_copy_13 : decode cX7_copy 13 = .ok (.aload_n 0, 1) := by decide +kernel
theorem dX7_copy_14 : decode cX7_copy 14 = .ok (.getfield 26, 3) := by decide +kernel
theorem dX7_copy_17 : decode cX7_copy 17 = .ok (.invokevirtual 253, 3) := by decide +kernel
theorem dX7_copy_20 : decode cX7_copy 20 = .ok (.ifCond .eq 28, 3) := by decide +kernel
theorem dX7_copy_23 : decode cX7_copy 23 = .ok (.aload_n 0, 1) := by decide +kernel
theorem dX7_copy_24 : decode cX7_copy 24 = .ok (.getfield 26, 3) := by decide +kernel
theorem dX7_copy_27 : decode cX7_copy 27 = .ok (.aload_n 0, 1) := by decide +kernel
theorem dX7_copy_28 : decode cX7_copy 28 = .ok (.getfield 12, 3) := by decide +kernel
theorem dX7_copy_31 : decode cX7_copy 31 = .ok (.iload_n 1, 1) := by decide +kernel
theorem dX7_copy_32 : decode cX7_copy 32 = .ok (.iload_n 2, 1) := by decide +kernel
theorem dX7_copy_33 : decode cX7_copy 33 = .ok (.invokevirtual 245, 3) := by decide +kernel
theorem dX7_copy_36 : decode cX7_copy 36 = .ok (.invokevirtual 256, 3) := by decide +kernel
theorem dX7_copy_39 : decode cX7_copy 39 = .ok (.ifCond .eq 7, 3) := by decide +kernel
theorem dX7_copy_42 : decode cX7_copy 42 = .ok (.iconst 0, 1) := by decide +kernel
theorem dX7_copy_43 : decode cX7_copy 43 = .ok (.goto 4, 3) := by decide +kernel
theorem dX7_copy_46 : decode cX7_copy 46 = .ok (.iconst 5, 1) := by decide +kernel
theorem dX7_copy_47 : decode cX7_copy 47 = .ok (.ireturn, 1) := by decide +kernel
theorem dX7_copy_48 : decode cX7_copy 48 = .ok (.aload_n 0, 1) := by decide +kernel
theorem dX7_copy_49 : decode cX7_copy 49 = .ok (.getfield 26, 3) := by decide +kernel
theorem dX7_copy_52 : decode cX7_copy 52 = .ok (.invokevirtual 259, 3) := by decide +kernel
theorem dX7_copy_55 : decode cX7_copy 55 = .ok (.lstore_n 3, 1) := by decide +kernel
theorem dX7_copy_56 : decode cX7_copy 56 = .ok (.lload_n 3, 1) := by decide +kernel
theorem dX7_copy_57 : decode cX7_copy 57 = .ok (.lconst 0, 1) := by decide +kernel
theorem dX7_copy_58 : decode cX7_copy 58 = .ok (.lcmp, 1) := by decide +kernel
theorem dX7_copy_59 : decode cX7_copy 59 = .ok (.ifCond .lt 16, 3) := by decide +kernel
theorem dX7_copy_62 : decode cX7_copy 62 = .ok (.aload_n 0, 1) := by decide +kernel
theorem dX7_copy_63 : decode cX7_copy 63 = .ok (.getfield 12, 3) := by decide +kernel
theorem dX7_copy_66 : decode cX7_copy 66 = .ok (.iload_n 1, 1) := by decide +kernel
theorem dX7_copy_67 : decode cX7_copy 67 = .ok (.iload_n 2, 1) := by decide +kernel
theorem dX7_copy_68 : decode cX7_copy 68 = .ok (.lload_n 3, 1) := by decide +kernel
theorem dX7_copy_69 : decode cX7_copy 69 = .ok (.invokevirtual 206, 3) := by decide +kernel
theorem dX7_copy_72 : decode cX7_copy 72 = .ok (.goto 20, 3) := by decide +kernel
theorem dX7_copy_75 : decode cX7_copy 75 = .ok (.aload_n 0, 1) := by decide +kernel
theorem dX7_copy_76 : decode cX7_copy 76 = .ok (.lload_n 3, 1) := by decide +kernel
theorem dX7_copy_77 : decode cX7_copy 77 = .ok (.ldc2_w 262, 3) := by decide +kernel
theorem dX7_copy_80 : decode cX7_copy 80 = .ok (.lcmp, 1) := by decide +kernel
theorem dX7_copy_81 : decode cX7_copy 81 = .ok (.ifCond .ne 7, 3) := by decide +kernel
theorem dX7_copy_84 : decode cX7_copy 84 = .ok (.iconst 2, 1) := by decide +kernel
theorem dX7_copy_85 : decode cX7_copy 85 = .ok (.goto 4, 3) := by decide +kernel
theorem dX7_copy_88 : decode cX7_copy 88 = .ok (.iconst 1, 1) := by decide +kernel
theorem dX7_copy_89 : decode cX7_copy 89 = .ok (.invokevirtual 181, 3) := by decide +kernel
theorem dX7_copy_92 : decode cX7_copy 92 = .ok (.iconst 0, 1) := by decide +kernel
theorem dX7_copy_93 : decode cX7_copy 93 = .ok (.ireturn, 1) := by decide +kernel
theorem dX7_isHalf_0 : decode cX7_isHalf 0 = .ok (.iload_n 0, 1) := by decide +kernel
theorem dX7_isHalf_1 : decode cX7_isHalf 1 = .ok (.ifCond .lt 14, 3) := by decide +kernel
theorem dX7_isHalf_4 : decode cX7_isHalf 4 = .ok (.iload_n 0, 1) := by decide +kernel
theorem dX7_isHalf_5 : decode cX7_isHalf 5 = .ok (.sipush 512, 3) := by decide +kernel
theorem dX7_isHalf_8 : decode cX7_isHalf 8 = .ok (.if_icmp .ge 7, 3) := by decide +kernel
theorem dX7_isHalf_11 : decode cX7_isHalf 11 = .ok (.iconst 1, 1) := by decide +kernel
theorem dX7_isHalf_12 : decode cX7_isHalf 12 = .ok (.goto 4, 3) := by decide +kernel
theorem dX7_isHalf_15 : decode cX7_isHalf 15 = .ok (.iconst 0, 1) := by decide +kernel
theorem dX7_isHalf_16 : decode cX7_isHalf 16 = .ok (.ireturn, 1) := by decide +kernel
theorem dX7_isItem_0 : decode cX7_isItem 0 = .ok (.lload_n 0, 1) := by decide +kernel
theorem dX7_isItem_1 : decode cX7_isItem 1 = .ok (.lconst 0, 1) := by decide +kernel
theorem dX7_isItem_2 : decode cX7_isItem 2 = .ok (.lcmp, 1) := by decide +kernel
theorem dX7_isItem_3 : decode cX7_isItem 3 = .ok (.ifCond .lt 11, 3) := by decide +kernel
theorem dX7_isItem_6 : decode cX7_isItem 6 = .ok (.lload_n 0, 1) := by decide +kernel
theorem dX7_isItem_7 : decode cX7_isItem 7 = .ok (.ldc2_w 264, 3) := by decide +kernel
theorem dX7_isItem_10 : decode cX7_isItem 10 = .ok (.lcmp, 1) := by decide +kernel
theorem dX7_isItem_11 : decode cX7_isItem 11 = .ok (.ifCond .le 19, 3) := by decide +kernel
theorem dX7_isItem_14 : decode cX7_isItem 14 = .ok (.lload_n 0, 1) := by decide +kernel
theorem dX7_isItem_15 : decode cX7_isItem 15 = .ok (.ldc2_w 262, 3) := by decide +kernel
theorem dX7_isItem_18 : decode cX7_isItem 18 = .ok (.lcmp, 1) := by decide +kernel
theorem dX7_isItem_19 : decode cX7_isItem 19 = .ok (.ifCond .eq 11, 3) := by decide +kernel
theorem dX7_isItem_22 : decode cX7_isItem 22 = .ok (.lload_n 0, 1) := by decide +kernel
theorem dX7_isItem_23 : decode cX7_isItem 23 = .ok (.ldc2_w 266, 3) := by decide +kernel
theorem dX7_isItem_26 : decode cX7_isItem 26 = .ok (.lcmp, 1) := by decide +kernel
theorem dX7_isItem_27 : decode cX7_isItem 27 = .ok (.ifCond .ne 7, 3) := by decide +kernel
theorem dX7_isItem_30 : decode cX7_isItem 30 = .ok (.iconst 1, 1) := by decide +kernel
theorem dX7_isItem_31 : decode cX7_isItem 31 = .ok (.goto 4, 3) := by decide +kernel
theorem dX7_isItem_34 : decode cX7_isItem 34 = .ok (.iconst 0, 1) := by decide +kernel
theorem dX7_isItem_35 : decode cX7_isItem 35 = .ok (.ireturn, 1) := by decide +kernel
theorem dX7_mostOfRegister_0 : decode cX7_mostOfRegister 0 = .ok (.iload_n 0, 1) := by decide +kernel
theorem dX7_mostOfRegister_1 : decode cX7_mostOfRegister 1 = .ok (.tableswitch 53 0 5 #[39, 41, 39, 45, 39, 49], 39) := by decide +kernel
theorem dX7_mostOfRegister_40 : decode cX7_mostOfRegister 40 = .ok (.lconst 1, 1) := by decide +kernel
theorem dX7_mostOfRegister_41 : decode cX7_mostOfRegister 41 = .ok (.lreturn, 1) := by decide +kernel
theorem dX7_mostOfRegister_42 : decode cX7_mostOfRegister 42 = .ok (.ldc2_w 268, 3) := by decide +kernel
theorem dX7_mostOfRegister_45 : decode cX7_mostOfRegister 45 = .ok (.lreturn, 1) := by decide +kernel
theorem dX7_mostOfRegister_46 : decode cX7_mostOfRegister 46 = .ok (.ldc2_w 270, 3) := by decide +kernel
theorem dX7_mostOfRegister_49 : decode cX7_mostOfRegister 49 = .ok (.lreturn, 1) := by decide +kernel
theorem dX7_mostOfRegister_50 : decode cX7_mostOfRegister 50 = .ok (.ldc2_w 272, 3) := by decide +kernel
theorem dX7_mostOfRegister_53 : decode cX7_mostOfRegister 53 = .ok (.lreturn, 1) := by decide +kernel
theorem dX7_mostOfRegister_54 : decode cX7_mostOfRegister 54 = .ok (.ldc2_w 61, 3) := by decide +kernel
theorem dX7_mostOfRegister_57 : decode cX7_mostOfRegister 57 = .ok (.lreturn, 1) := by decide +kernel
theorem dX7_bitOf_0 : decode cX7_bitOf 0 = .ok (.iconst 1, 1) := by decide +kernel
theorem dX7_bitOf_1 : decode cX7_bitOf 1 = .ok (.iload_n 0, 1) := by decide +kernel
theorem dX7_bitOf_2 : decode cX7_bitOf 2 = .ok (.iconst 1, 1) := by decide +kernel
theorem dX7_bitOf_3 : decode cX7_bitOf 3 = .ok (.isub, 1) := by decide +kernel
theorem dX7_bitOf_4 : decode cX7_bitOf 4 = .ok (.ishl, 1) := by decide +kernel
theorem dX7_bitOf_5 : decode cX7_bitOf 5 = .ok (.ireturn, 1) := by decide +kernel
theorem dX7_wordOf_0 : decode cX7_wordOf 0 = .ok (.iload_n 0, 1) := by decide +kernel
theorem dX7_wordOf_1 : decode cX7_wordOf 1 = .ok (.i2l, 1) := by decide +kernel
theorem dX7_wordOf_2 : decode cX7_wordOf 2 = .ok (.bipush 35, 2) := by decide +kernel
theorem dX7_wordOf_4 : decode cX7_wordOf 4 = .ok (.lshl, 1) := by decide +kernel
theorem dX7_wordOf_5 : decode cX7_wordOf 5 = .ok (.lload_n 1, 1) := by decide +kernel
theorem dX7_wordOf_6 : decode cX7_wordOf 6 = .ok (.ldc2_w 270, 3) := by decide +kernel
theorem dX7_wordOf_9 : decode cX7_wordOf 9 = .ok (.land, 1) := by decide +kernel
theorem dX7_wordOf_10 : decode cX7_wordOf 10 = .ok (.lor, 1) := by decide +kernel
theorem dX7_wordOf_11 : decode cX7_wordOf 11 = .ok (.lreturn, 1) := by decide +kernel
