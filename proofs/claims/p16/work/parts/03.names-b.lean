theorem dX0_init_0 : decode cX0_init 0 = .ok (.aload_n 0, 1) := by decide +kernel
theorem dX0_init_1 : decode cX0_init 1 = .ok (.invokespecial 3, 3) := by decide +kernel
theorem dX0_init_4 : decode cX0_init 4 = .ok (.return_, 1) := by decide +kernel
set_option maxRecDepth 100000 in
theorem ggX0_accWord_X7_wordOf : GoodIn wsX0_accWord wsX7_wordOf := goodIn_r _ [5, 6] rfl (by decide +kernel)
theorem gX0_accWord_X7_wordOf_n19 : GoodIn wsX0_accWord (wsX7_wordOf) := ggX0_accWord_X7_wordOf
theorem dX0_accWord_0 : decode cX0_accWord 0 = .ok (.aload_n 0, 1) := by decide +kernel
theorem dX0_accWord_1 : decode cX0_accWord 1 = .ok (.getfield 9, 3) := by decide +kernel
theorem dX0_accWord_4 : decode cX0_accWord 4 = .ok (.aload_n 0, 1) := by decide +kernel
theorem dX0_accWord_5 : decode cX0_accWord 5 = .ok (.getfield 15, 3) := by decide +kernel
theorem dX0_accWord_8 : decode cX0_accWord 8 = .ok (.invokestatic 19, 3) := by decide +kernel
theorem dX0_accWord_11 : decode cX0_accWord 11 = .ok (.lreturn, 1) := by decide +kernel
set_option maxRecDepth 100000 in
theorem ggX0_mqWord_X7_wordOf : GoodIn wsX0_mqWord wsX7_wordOf := goodIn_r _ [5, 6] rfl (by decide +kernel)
theorem gX0_mqWord_X7_wordOf_n19 : GoodIn wsX0_mqWord (wsX7_wordOf) := ggX0_mqWord_X7_wordOf
theorem dX0_mqWord_0 : decode cX0_mqWord 0 = .ok (.aload_n 0, 1) := by decide +kernel
theorem dX0_mqWord_1 : decode cX0_mqWord 1 = .ok (.getfield 23, 3) := by decide +kernel
theorem dX0_mqWord_4 : decode cX0_mqWord 4 = .ok (.aload_n 0, 1) := by decide +kernel
theorem dX0_mqWord_5 : decode cX0_mqWord 5 = .ok (.getfield 26, 3) := by decide +kernel
theorem dX0_mqWord_8 : decode cX0_mqWord 8 = .ok (.invokestatic 19, 3) := by decide +kernel
theorem dX0_mqWord_11 : decode cX0_mqWord 11 = .ok (.lreturn, 1) := by decide +kernel
set_option maxRecDepth 100000 in
theorem ggX0_calculate_X0_addSigned : GoodIn wsX0_calculate wsX0_addSigned := goodIn_r _ [8, 9, 10, 11, 12, 13, 7, 14, 1, 15, 16, 35, 36, 37, 38, 39] rfl (by decide +kernel)
set_option maxRecDepth 100000 in
theorem gX0_calculate_X0_addSigned : GoodIn wsX0_calculate (wsV RX0 31 RX0 yX0_addSigned wsX0_addSigned) := goodIn_app (goodIn_r _ [4, 5, 6, 7] rfl (by decide +kernel)) ggX0_calculate_X0_addSigned
set_option maxRecDepth 100000 in
theorem ggX0_calculate_X0_loadAcc : GoodIn wsX0_calculate wsX0_loadAcc := goodIn_r _ [20, 9, 10, 35, 36, 37, 38, 39] rfl (by decide +kernel)
set_option maxRecDepth 100000 in
theorem gX0_calculate_X0_loadAcc : GoodIn wsX0_calculate (wsV RX0 35 RX0 yX0_loadAcc wsX0_loadAcc) := goodIn_app (goodIn_r _ [17, 18, 19, 7] rfl (by decide +kernel)) ggX0_calculate_X0_loadAcc
set_option maxRecDepth 100000 in
theorem ggX0_calculate_X0_times : GoodIn wsX0_calculate wsX0_times := goodIn_r _ [24, 3, 25, 10, 26, 2, 9, 35, 36, 37, 38, 39] rfl (by decide +kernel)
set_option maxRecDepth 100000 in
theorem gX0_calculate_X0_times : GoodIn wsX0_calculate (wsV RX0 38 RX0 yX0_times wsX0_times) := goodIn_app (goodIn_r _ [21, 22, 23, 7] rfl (by decide +kernel)) ggX0_calculate_X0_times
set_option maxRecDepth 100000 in
theorem ggX0_calculate_X0_round : GoodIn wsX0_calculate wsX0_round := goodIn_r _ [30, 3, 11, 12, 13, 7, 14, 10, 1, 15, 16, 35, 36, 37, 38, 39] rfl (by decide +kernel)
set_option maxRecDepth 100000 in
theorem gX0_calculate_X0_round : GoodIn wsX0_calculate (wsV RX0 41 RX0 yX0_round wsX0_round) := goodIn_app (goodIn_r _ [27, 28, 29, 7] rfl (by decide +kernel)) ggX0_calculate_X0_round
set_option maxRecDepth 100000 in
theorem ggX0_calculate_X0_share : GoodIn wsX0_calculate wsX0_share := goodIn_r _ [34, 10, 3, 25, 9, 2, 35, 36, 37, 38, 39] rfl (by decide +kernel)
set_option maxRecDepth 100000 in
theorem gX0_calculate_X0_share : GoodIn wsX0_calculate (wsV RX0 44 RX0 yX0_share wsX0_share) := goodIn_app (goodIn_r _ [31, 32, 33, 7] rfl (by decide +kernel)) ggX0_calculate_X0_share
theorem dX0_calculate_0 : decode cX0_calculate 0 = .ok (.lload_n 2, 1) := by decide +kernel
theorem dX0_calculate_1 : decode cX0_calculate 1 = .ok (.bipush 35, 2) := by decide +kernel
theorem dX0_calculate_3 : decode cX0_calculate 3 = .ok (.lshr, 1) := by decide +kernel
theorem dX0_calculate_4 : decode cX0_calculate 4 = .ok (.l2i, 1) := by decide +kernel
theorem dX0_calculate_5 : decode cX0_calculate 5 = .ok (.iconst 1, 1) := by decide +kernel
theorem dX0_calculate_6 : decode cX0_calculate 6 = .ok (.iand, 1) := by decide +kernel
theorem dX0_calculate_7 : decode cX0_calculate 7 = .ok (.istore 4, 2) := by decide +kernel
theorem dX0_calculate_9 : decode cX0_calculate 9 = .ok (.lload_n 2, 1) := by decide +kernel
theorem dX0_calculate_10 : decode cX0_calculate 10 = .ok (.ldc2_w 29, 3) := by decide +kernel
theorem dX0_calculate_13 : decode cX0_calculate 13 = .ok (.land, 1) := by decide +kernel
theorem dX0_calculate_14 : decode cX0_calculate 14 = .ok (.lstore 5, 2) := by decide +kernel
theorem dX0_calculate_16 : decode cX0_calculate 16 = .ok (.iload_n 1, 1) := by decide +kernel
theorem dX0_calculate_17 : decode cX0_calculate 17 = .ok (.tableswitch 197 5 18 #[82, 126, 105, 197, 71, 115, 95, 197, 197, 197, 139, 154, 165, 180], 71) := by decide +kernel
theorem dX0_calculate_88 : decode cX0_calculate 88 = .ok (.aload_n 0, 1) := by decide +kernel
theorem dX0_calculate_89 : decode cX0_calculate 89 = .ok (.iload 4, 2) := by decide +kernel
theorem dX0_calculate_91 : decode cX0_calculate 91 = .ok (.lload 5, 2) := by decide +kernel
theorem dX0_calculate_93 : decode cX0_calculate 93 = .ok (.invokevirtual 31, 3) := by decide +kernel
theorem dX0_calculate_96 : decode cX0_calculate 96 = .ok (.goto 118, 3) := by decide +kernel
theorem dX0_calculate_99 : decode cX0_calculate 99 = .ok (.aload_n 0, 1) := by decide +kernel
theorem dX0_calculate_100 : decode cX0_calculate 100 = .ok (.iconst 1, 1) := by decide +kernel
theorem dX0_calculate_101 : decode cX0_calculate 101 = .ok (.iload 4, 2) := by decide +kernel
theorem dX0_calculate_103 : decode cX0_calculate 103 = .ok (.isub, 1) := by decide +kernel
theorem dX0_calculate_104 : decode cX0_calculate 104 = .ok (.lload 5, 2) := by decide +kernel
theorem dX0_calculate_106 : decode cX0_calculate 106 = .ok (.invokevirtual 31, 3) := by decide +kernel
theorem dX0_calculate_109 : decode cX0_calculate 109 = .ok (.goto 105, 3) := by decide +kernel
theorem dX0_calculate_112 : decode cX0_calculate 112 = .ok (.aload_n 0, 1) := by decide +kernel
theorem dX0_calculate_113 : decode cX0_calculate 113 = .ok (.iconst 0, 1) := by decide +kernel
theorem dX0_calculate_114 : decode cX0_calculate 114 = .ok (.lload 5, 2) := by decide +kernel
theorem dX0_calculate_116 : decode cX0_calculate 116 = .ok (.invokevirtual 31, 3) := by decide +kernel
theorem dX0_calculate_119 : decode cX0_calculate 119 = .ok (.goto 95, 3) := by decide +kernel
theorem dX0_calculate_122 : decode cX0_calculate 122 = .ok (.aload_n 0, 1) := by decide +kernel
theorem dX0_calculate_123 : decode cX0_calculate 123 = .ok (.iconst 1, 1) := by decide +kernel
theorem dX0_calculate_124 : decode cX0_calculate 124 = .ok (.lload 5, 2) := by decide +kernel
theorem dX0_calculate_126 : decode cX0_calculate 126 = .ok (.invokevirtual 31, 3) := by decide +kernel
theorem dX0_calculate_129 : decode cX0_calculate 129 = .ok (.goto 85, 3) := by decide +kernel
theorem dX0_calculate_132 : decode cX0_calculate 132 = .ok (.aload_n 0, 1) := by decide +kernel
theorem dX0_calculate_133 : decode cX0_calculate 133 = .ok (.iload 4, 2) := by decide +kernel
theorem dX0_calculate_135 : decode cX0_calculate 135 = .ok (.lload 5, 2) := by decide +kernel
theorem dX0_calculate_137 : decode cX0_calculate 137 = .ok (.invokevirtual 35, 3) := by decide +kernel
theorem dX0_calculate_140 : decode cX0_calculate 140 = .ok (.goto 74, 3) := by decide +kernel
theorem dX0_calculate_143 : decode cX0_calculate 143 = .ok (.aload_n 0, 1) := by decide +kernel
theorem dX0_calculate_144 : decode cX0_calculate 144 = .ok (.iconst 1, 1) := by decide +kernel
theorem dX0_calculate_145 : decode cX0_calculate 145 = .ok (.iload 4, 2) := by decide +kernel
theorem dX0_calculate_147 : decode cX0_calculate 147 = .ok (.isub, 1) := by decide +kernel
theorem dX0_calculate_148 : decode cX0_calculate 148 = .ok (.lload 5, 2) := by decide +kernel
theorem dX0_calculate_150 : decode cX0_calculate 150 = .ok (.invokevirtual 35, 3) := by decide +kernel
theorem dX0_calculate_153 : decode cX0_calculate 153 = .ok (.goto 61, 3) := by decide +kernel
theorem dX0_calculate_156 : decode cX0_calculate 156 = .ok (.aload_n 0, 1) := by decide +kernel
theorem dX0_calculate_157 : decode cX0_calculate 157 = .ok (.iload 4, 2) := by decide +kernel
theorem dX0_calculate_159 : decode cX0_calculate 159 = .ok (.putfield 23, 3) := by decide +kernel
theorem dX0_calculate_162 : decode cX0_calculate 162 = .ok (.aload_n 0, 1) := by decide +kernel
theorem dX0_calculate_163 : decode cX0_calculate 163 = .ok (.lload 5, 2) := by decide +kernel
theorem dX0_calculate_165 : decode cX0_calculate 165 = .ok (.putfield 26, 3) := by decide +kernel
theorem dX0_calculate_168 : decode cX0_calculate 168 = .ok (.goto 46, 3) := by decide +kernel
theorem dX0_calculate_171 : decode cX0_calculate 171 = .ok (.aload_n 0, 1) := by decide +kernel
theorem dX0_calculate_172 : decode cX0_calculate 172 = .ok (.iload 4, 2) := by decide +kernel
theorem dX0_calculate_174 : decode cX0_calculate 174 = .ok (.lload 5, 2) := by decide +kernel
theorem dX0_calculate_176 : decode cX0_calculate 176 = .ok (.invokevirtual 38, 3) := by decide +kernel
theorem dX0_calculate_179 : decode cX0_calculate 179 = .ok (.goto 35, 3) := by decide +kernel
theorem dX0_calculate_182 : decode cX0_calculate 182 = .ok (.aload_n 0, 1) := by decide +kernel
theorem dX0_calculate_183 : decode cX0_calculate 183 = .ok (.iload 4, 2) := by decide +kernel
theorem dX0_calculate_185 : decode cX0_calculate 185 = .ok (.lload 5, 2) := by decide +kernel
theorem dX0_calculate_187 : decode cX0_calculate 187 = .ok (.invokevirtual 38, 3) := by decide +kernel
theorem dX0_calculate_190 : decode cX0_calculate 190 = .ok (.aload_n 0, 1) := by decide +kernel
theorem dX0_calculate_191 : decode cX0_calculate 191 = .ok (.invokevirtual 41, 3) := by decide +kernel
theorem dX0_calculate_194 : decode cX0_calculate 194 = .ok (.goto 20, 3) := by decide +kernel
theorem dX0_calculate_197 : decode cX0_calculate 197 = .ok (.aload_n 0, 1) := by decide +kernel
theorem dX0_calculate_198 : decode cX0_calculate 198 = .ok (.iload 4, 2) := by decide +kernel
theorem dX0_calculate_200 : decode cX0_calculate 200 = .ok (.lload 5, 2) := by decide +kernel
theorem dX0_calculate_202 : decode cX0_calculate 202 = .ok (.invokevirtual 44, 3) := by decide +kernel
theorem dX0_calculate_205 : decode cX0_calculate 205 = .ok (.ifCond .eq 7, 3) := by decide +kernel
theorem dX0_calculate_208 : decode cX0_calculate 208 = .ok (.iconst 0, 1) := by decide +kernel
theorem dX0_calculate_209 : decode cX0_calculate 209 = .ok (.goto 4, 3) := by decide +kernel
theorem dX0_calculate_212 : decode cX0_calculate 212 = .ok (.iconst 3, 1) := by decide +kernel
theorem dX0_calculate_213 : decode cX0_calculate 213 = .ok (.ireturn, 1) := by decide +kernel
theorem dX0_calculate_214 : decode cX0_calculate 214 = .ok (.iconst 0, 1) := by decide +kernel
theorem dX0_calculate_215 : decode cX0_calculate 215 = .ok (.ireturn, 1) := by decide +kernel
theorem dX0_loadAcc_0 : decode cX0_loadAcc 0 = .ok (.aload_n 0, 1) := by decide +kernel
theorem dX0_loadAcc_1 : decode cX0_loadAcc 1 = .ok (.iload_n 1, 1) := by decide +kernel
theorem dX0_loadAcc_2 : decode cX0_loadAcc 2 = .ok (.putfield 9, 3) := by decide +kernel
theorem dX0_loadAcc_5 : decode cX0_loadAcc 5 = .ok (.aload_n 0, 1) := by decide +kernel
theorem dX0_loadAcc_6 : decode cX0_loadAcc 6 = .ok (.lload_n 2, 1) := by decide +kernel
theorem dX0_loadAcc_7 : decode cX0_loadAcc 7 = .ok (.putfield 15, 3) := by decide +kernel
theorem dX0_loadAcc_10 : decode cX0_loadAcc 10 = .ok (.return_, 1) := by decide +kernel
set_option maxRecDepth 100000 in
theorem ggX0_addSigned_X0_addSize : GoodIn wsX0_addSigned wsX0_addSize := goodIn_r _ [7, 2, 8, 9, 10, 11, 12, 13, 14, 15] rfl (by decide +kernel)
set_option maxRecDepth 100000 in
theorem gX0_addSigned_X0_addSize : GoodIn wsX0_addSigned (wsV RX0 48 RX0 yX0_addSize wsX0_addSize) := goodIn_app (goodIn_r _ [3, 4, 5, 6] rfl (by decide +kernel)) ggX0_addSigned_X0_addSize
theorem dX0_addSigned_0 : decode cX0_addSigned 0 = .ok (.iload_n 1, 1) := by decide +kernel
theorem dX0_addSigned_1 : decode cX0_addSigned 1 = .ok (.aload_n 0, 1) := by decide +kernel
theorem dX0_addSigned_2 : decode cX0_addSigned 2 = .ok (.getfield 9, 3) := by decide +kernel
theorem dX0_addSigned_5 : decode cX0_addSigned 5 = .ok (.if_icmp .ne 11, 3) := by decide +kernel
theorem dX0_addSigned_8 : decode cX0_addSigned 8 = .ok (.aload_n 0, 1) := by decide +kernel
theorem dX0_addSigned_9 : decode cX0_addSigned 9 = .ok (.lload_n 2, 1) := by decide +kernel
theorem dX0_addSigned_10 : decode cX0_addSigned 10 = .ok (.invokevirtual 48, 3) := by decide +kernel
theorem dX0_addSigned_13 : decode cX0_addSigned 13 = .ok (.goto 40, 3) := by decide +kernel
theorem dX0_addSigned_16 : decode cX0_addSigned 16 = .ok (.lload_n 2, 1) := by decide +kernel
theorem dX0_addSigned_17 : decode cX0_addSigned 17 = .ok (.aload_n 0, 1) := by decide +kernel
theorem dX0_addSigned_18 : decode cX0_addSigned 18 = .ok (.getfield 15, 3) := by decide +kernel
theorem dX0_addSigned_21 : decode cX0_addSigned 21 = .ok (.lcmp, 1) := by decide +kernel
theorem dX0_addSigned_22 : decode cX0_addSigned 22 = .ok (.ifCond .le 21, 3) := by decide +kernel
theorem dX0_addSigned_25 : decode cX0_addSigned 25 = .ok (.aload_n 0, 1) := by decide +kernel
theorem dX0_addSigned_26 : decode cX0_addSigned 26 = .ok (.lload_n 2, 1) := by decide +kernel
theorem dX0_addSigned_27 : decode cX0_addSigned 27 = .ok (.aload_n 0, 1) := by decide +kernel
theorem dX0_addSigned_28 : decode cX0_addSigned 28 = .ok (.getfield 15, 3) := by decide +kernel
theorem dX0_addSigned_31 : decode cX0_addSigned 31 = .ok (.lsub, 1) := by decide +kernel
theorem dX0_addSigned_32 : decode cX0_addSigned 32 = .ok (.putfield 15, 3) := by decide +kernel
theorem dX0_addSigned_35 : decode cX0_addSigned 35 = .ok (.aload_n 0, 1) := by decide +kernel
theorem dX0_addSigned_36 : decode cX0_addSigned 36 = .ok (.iload_n 1, 1) := by decide +kernel
theorem dX0_addSigned_37 : decode cX0_addSigned 37 = .ok (.putfield 9, 3) := by decide +kernel
theorem dX0_addSigned_40 : decode cX0_addSigned 40 = .ok (.goto 13, 3) := by decide +kernel
theorem dX0_addSigned_43 : decode cX0_addSigned 43 = .ok (.aload_n 0, 1) := by decide +kernel
theorem dX0_addSigned_44 : decode cX0_addSigned 44 = .ok (.dup, 1) := by decide +kernel
theorem dX0_addSigned_45 : decode cX0_addSigned 45 = .ok (.getfield 15, 3) := by decide +kernel
theorem dX0_addSigned_48 : decode cX0_addSigned 48 = .ok (.lload_n 2, 1) := by decide +kernel
theorem dX0_addSigned_49 : decode cX0_addSigned 49 = .ok (.lsub, 1) := by decide +kernel
theorem dX0_addSigned_50 : decode cX0_addSigned 50 = .ok (.putfield 15, 3) := by decide +kernel
theorem dX0_addSigned_53 : decode cX0_addSigned 53 = .ok (.return_, 1) := by decide +kernel
theorem dX0_addSize_0 : decode cX0_addSize 0 = .ok (.aload_n 0, 1) := by decide +kernel
theorem dX0_addSize_1 : decode cX0_addSize 1 = .ok (.getfield 15, 3) := by decide +kernel
theorem dX0_addSize_4 : decode cX0_addSize 4 = .ok (.ldc2_w 29, 3) := by decide +kernel
theorem dX0_addSize_7 : decode cX0_addSize 7 = .ok (.land, 1) := by decide +kernel
theorem dX0_addSize_8 : decode cX0_addSize 8 = .ok (.lload_n 1, 1) := by decide +kernel
theorem dX0_addSize_9 : decode cX0_addSize 9 = .ok (.ladd, 1) := by decide +kernel
theorem dX0_addSize_10 : decode cX0_addSize 10 = .ok (.ldc2_w 29, 3) := by decide +kernel
theorem dX0_addSize_13 : decode cX0_addSize 13 = .ok (.lcmp, 1) := by decide +kernel
theorem dX0_addSize_14 : decode cX0_addSize 14 = .ok (.ifCond .le 8, 3) := by decide +kernel
theorem dX0_addSize_17 : decode cX0_addSize 17 = .ok (.aload_n 0, 1) := by decide +kernel
theorem dX0_addSize_18 : decode cX0_addSize 18 = .ok (.iconst 1, 1) := by decide +kernel
theorem dX0_addSize_19 : decode cX0_addSize 19 = .ok (.putfield 52, 3) := by decide +kernel
theorem dX0_addSize_22 : decode cX0_addSize 22 = .ok (.aload_n 0, 1) := by decide +kernel
theorem dX0_addSize_23 : decode cX0_addSize 23 = .ok (.aload_n 0, 1) := by decide +kernel
theorem dX0_addSize_24 : decode cX0_addSize 24 = .ok (.getfield 15, 3) := by decide +kernel
theorem dX0_addSize_27 : decode cX0_addSize 27 = .ok (.lload_n 1, 1) := by decide +kernel
theorem dX0_addSize_28 : decode cX0_addSize 28 = .ok (.ladd, 1) := by decide +kernel
theorem dX0_addSize_29 : decode cX0_addSize 29 = .ok (.ldc2_w 56, 3) := by decide +kernel
theorem dX0_addSize_32 : decode cX0_addSize 32 = .ok (.land, 1) := by decide +kernel
theorem dX0_addSize_33 : decode cX0_addSize 33 = .ok (.putfield 15, 3) := by decide +kernel
theorem dX0_addSize_36 : decode cX0_addSize 36 = .ok (.return_, 1) := by decide +kernel
set_option maxRecDepth 100000 in
theorem ggX0_round_X0_addSize : GoodIn wsX0_round wsX0_addSize := goodIn_r _ [6, 7, 8, 9, 10, 11, 12, 13, 14, 15] rfl (by decide +kernel)
set_option maxRecDepth 100000 in
theorem gX0_round_X0_addSize : GoodIn wsX0_round (wsV RX0 48 RX0 yX0_addSize wsX0_addSize) := goodIn_app (goodIn_r _ [2, 3, 4, 5] rfl (by decide +kernel)) ggX0_round_X0_addSize
theorem dX0_round_0 : decode cX0_round 0 = .ok (.aload_n 0, 1) := by decide +kernel
theorem dX0_round_1 : decode cX0_round 1 = .ok (.getfield 26, 3) := by decide +kernel
theorem dX0_round_4 : decode cX0_round 4 = .ok (.bipush 34, 2) := by decide +kernel
theorem dX0_round_6 : decode cX0_round 6 = .ok (.lshr, 1) := by decide +kernel
theorem dX0_round_7 : decode cX0_round 7 = .ok (.lconst 0, 1) := by decide +kernel
theorem dX0_round_8 : decode cX0_round 8 = .ok (.lcmp, 1) := by decide +kernel
theorem dX0_round_9 : decode cX0_round 9 = .ok (.ifCond .eq 8, 3) := by decide +kernel
theorem dX0_round_12 : decode cX0_round 12 = .ok (.aload_n 0, 1) := by decide +kernel
theorem dX0_round_13 : decode cX0_round 13 = .ok (.lconst 1, 1) := by decide +kernel
theorem dX0_round_14 : decode cX0_round 14 = .ok (.invokevirtual 48, 3) := by decide +kernel
theorem dX0_round_17 : decode cX0_round 17 = .ok (.return_, 1) := by decide +kernel
theorem dX0_times_0 : decode cX0_times 0 = .ok (.aload_n 0, 1) := by decide +kernel
theorem dX0_times_1 : decode cX0_times 1 = .ok (.getfield 26, 3) := by decide +kernel
theorem dX0_times_4 : decode cX0_times 4 = .ok (.lload_n 2, 1) := by decide +kernel
theorem dX0_times_5 : decode cX0_times 5 = .ok (.ldc2_w 58, 3) := by decide +kernel
theorem dX0_times_8 : decode cX0_times 8 = .ok (.land, 1) := by decide +kernel
theorem dX0_times_9 : decode cX0_times 9 = .ok (.lmul, 1) := by decide +kernel
theorem dX0_times_10 : decode cX0_times 10 = .ok (.lstore 4, 2) := by decide +kernel
theorem dX0_times_12 : decode cX0_times 12 = .ok (.aload_n 0, 1) := by decide +kernel
theorem dX0_times_13 : decode cX0_times 13 = .ok (.getfield 26, 3) := by decide +kernel
theorem dX0_times_16 : decode cX0_times 16 = .ok (.lload_n 2, 1) := by decide +kernel
theorem dX0_times_17 : decode cX0_times 17 = .ok (.bipush 18, 2) := by decide +kernel
theorem dX0_times_19 : decode cX0_times 19 = .ok (.lshr, 1) := by decide +kernel
theorem dX0_times_20 : decode cX0_times 20 = .ok (.lmul, 1) := by decide +kernel
theorem dX0_times_21 : decode cX0_times 21 = .ok (.lload 4, 2) := by decide +kernel
theorem dX0_times_23 : decode cX0_times 23 = .ok (.bipush 18, 2) := by decide +kernel
theorem dX0_times_25 : decode cX0_times 25 = .ok (.lshr, 1) := by decide +kernel
theorem dX0_times_26 : decode cX0_times 26 = .ok (.ladd, 1) := by decide +kernel
theorem dX0_times_27 : decode cX0_times 27 = .ok (.lstore 6, 2) := by decide +kernel
theorem dX0_times_29 : decode cX0_times 29 = .ok (.aload_n 0, 1) := by decide +kernel
theorem dX0_times_30 : decode cX0_times 30 = .ok (.lload 6, 2) := by decide +kernel
theorem dX0_times_32 : decode cX0_times 32 = .ok (.bipush 17, 2) := by decide +kernel
theorem dX0_times_34 : decode cX0_times 34 = .ok (.lshr, 1) := by decide +kernel
theorem dX0_times_35 : decode cX0_times 35 = .ok (.putfield 15, 3) := by decide +kernel
theorem dX0_times_38 : decode cX0_times 38 = .ok (.aload_n 0, 1) := by decide +kernel
theorem dX0_times_39 : decode cX0_times 39 = .ok (.lload 6, 2) := by decide +kernel
theorem dX0_times_41 : decode cX0_times 41 = .ok (.ldc2_w 60, 3) := by decide +kernel
theorem dX0_times_44 : decode cX0_times 44 = .ok (.land, 1) := by decide +kernel
theorem dX0_times_45 : decode cX0_times 45 = .ok (.bipush 18, 2) := by decide +kernel
theorem dX0_times_47 : decode cX0_times 47 = .ok (.lshl, 1) := by decide +kernel
theorem dX0_times_48 : decode cX0_times 48 = .ok (.lload 4, 2) := by decide +kernel
theorem dX0_times_50 : decode cX0_times 50 = .ok (.ldc2_w 58, 3) := by decide +kernel
theorem dX0_times_53 : decode cX0_times 53 = .ok (.land, 1) := by decide +kernel
theorem dX0_times_54 : decode cX0_times 54 = .ok (.lor, 1) := by decide +kernel
theorem dX0_times_55 : decode cX0_times 55 = .ok (.putfield 26, 3) := by decide +kernel
theorem dX0_times_58 : decode cX0_times 58 = .ok (.aload_n 0, 1) := by decide +kernel
theorem dX0_times_59 : decode cX0_times 59 = .ok (.aload_n 0, 1) := by decide +kernel
theorem dX0_times_60 : decode cX0_times 60 = .ok (.getfield 23, 3) := by decide +kernel
theorem dX0_times_63 : decode cX0_times 63 = .ok (.iload_n 1, 1) := by decide +kernel
theorem dX0_times_64 : decode cX0_times 64 = .ok (.ixor, 1) := by decide +kernel
theorem dX0_times_65 : decode cX0_times 65 = .ok (.putfield 9, 3) := by decide +kernel
theorem dX0_times_68 : decode cX0_times 68 = .ok (.aload_n 0, 1) := by decide +kernel
theorem dX0_times_69 : decode cX0_times 69 = .ok (.aload_n 0, 1) := by decide +kernel
theorem dX0_times_70 : decode cX0_times 70 = .ok (.getfield 9, 3) := by decide +kernel
theorem dX0_times_73 : decode cX0_times 73 = .ok (.putfield 23, 3) := by decide +kernel
theorem dX0_times_76 : decode cX0_times 76 = .ok (.return_, 1) := by decide +kernel
theorem dX0_share_0 : decode cX0_share 0 = .ok (.lload_n 2, 1) := by decide +kernel
theorem dX0_share_1 : decode cX0_share 1 = .ok (.lconst 0, 1) := by decide +kernel
theorem dX0_share_2 : decode cX0_share 2 = .ok (.lcmp, 1) := by decide +kernel
theorem dX0_share_3 : decode cX0_share 3 = .ok (.ifCond .le 12, 3) := by decide +kernel
theorem dX0_share_6 : decode cX0_share 6 = .ok (.lload_n 2, 1) := by decide +kernel
theorem dX0_share_7 : decode cX0_share 7 = .ok (.aload_n 0, 1) := by decide +kernel
theorem dX0_share_8 : decode cX0_share 8 = .ok (.getfield 15, 3) := by decide +kernel
theorem dX0_share_11 : decode cX0_share 11 = .ok (.lcmp, 1) := by decide +kernel
theorem dX0_share_12 : decode cX0_share 12 = .ok (.ifCond .gt 5, 3) := by decide +kernel
theorem dX0_share_15 : decode cX0_share 15 = .ok (.iconst 0, 1) := by decide +kernel
theorem dX0_share_16 : decode cX0_share 16 = .ok (.ireturn, 1) := by decide +kernel
theorem dX0_share_17 : decode cX0_share 17 = .ok (.aload_n 0, 1) := by decide +kernel
theorem dX0_share_18 : decode cX0_share 18 = .ok (.getfield 15, 3) := by decide +kernel
theorem dX0_share_21 : decode cX0_share 21 = .ok (.bipush 17, 2) := by decide +kernel
theorem dX0_share_23 : decode cX0_share 23 = .ok (.lshl, 1) := by decide +kernel
theorem dX0_share_24 : decode cX0_share 24 = .ok (.aload_n 0, 1) := by decide +kernel
theorem dX0_share_25 : decode cX0_share 25 = .ok (.getfield 26, 3) := by decide +kernel
theorem dX0_share_28 : decode cX0_share 28 = .ok (.bipush 18, 2) := by decide +kernel
theorem dX0_share_30 : decode cX0_share 30 = .ok (.lshr, 1) := by decide +kernel
theorem dX0_share_31 : decode cX0_share 31 = .ok (.lor, 1) := by decide +kernel
theorem dX0_share_32 : decode cX0_share 32 = .ok (.lstore 4, 2) := by decide +kernel
theorem dX0_share_34 : decode cX0_share 34 = .ok (.lload 4, 2) := by decide +kernel
theorem dX0_share_36 : decode cX0_share 36 = .ok (.lload_n 2, 1) := by decide +kernel
theorem dX0_share_37 : decode cX0_share 37 = .ok (.lrem, 1) := by decide +kernel
theorem dX0_share_38 : decode cX0_share 38 = .ok (.bipush 18, 2) := by decide +kernel
theorem dX0_share_40 : decode cX0_share 40 = .ok (.lshl, 1) := by decide +kernel
theorem dX0_share_41 : decode cX0_share 41 = .ok (.aload_n 0, 1) := by decide +kernel
theorem dX0_share_42 : decode cX0_share 42 = .ok (.getfield 26, 3) := by decide +kernel
theorem dX0_share_45 : decode cX0_share 45 = .ok (.ldc2_w 58, 3) := by decide +kernel
theorem dX0_share_48 : decode cX0_share 48 = .ok (.land, 1) := by decide +kernel
theorem dX0_share_49 : decode cX0_share 49 = .ok (.lor, 1) := by decide +kernel
theorem dX0_share_50 : decode cX0_share 50 = .ok (.lstore 6, 2) := by decide +kernel
theorem dX0_share_52 : decode cX0_share 52 = .ok (.aload_n 0, 1) := by decide +kernel
theorem dX0_share_53 : decode cX0_share 53 = .ok (.lload 4, 2) := by decide +kernel
theorem dX0_share_55 : decode cX0_share 55 = .ok (.lload_n 2, 1) := by decide +kernel
theorem dX0_share_56 : decode cX0_share 56 = .ok (.ldiv, 1) := by decide +kernel
theorem dX0_share_57 : decode cX0_share 57 = .ok (.bipush 18, 2) := by decide +kernel
theorem dX0_share_59 : decode cX0_share 59 = .ok (.lshl, 1) := by decide +kernel
theorem dX0_share_60 : decode cX0_share 60 = .ok (.lload 6, 2) := by decide +kernel
theorem dX0_share_62 : decode cX0_share 62 = .ok (.lload_n 2, 1) := by decide +kernel
theorem dX0_share_63 : decode cX0_share 63 = .ok (.ldiv, 1) := by decide +kernel
theorem dX0_share_64 : decode cX0_share 64 = .ok (.lor, 1) := by decide +kernel
theorem dX0_share_65 : decode cX0_share 65 = .ok (.putfield 26, 3) := by decide +kernel
theorem dX0_share_68 : decode cX0_share 68 = .ok (.aload_n 0, 1) := by decide +kernel
theorem dX0_share_69 : decode cX0_share 69 = .ok (.lload 6, 2) := by decide +kernel
theorem dX0_share_71 : decode cX0_share 71 = .ok (.lload_n 2, 1) := by decide +kernel
theorem dX0_share_72 : decode cX0_share 72 = .ok (.lrem, 1) := by decide +kernel
theorem dX0_share_73 : decode cX0_share 73 = .ok (.putfield 15, 3) := by decide +kernel
theorem dX0_share_76 : decode cX0_share 76 = .ok (.aload_n 0, 1) := by decide +kernel
theorem dX0_share_77 : decode cX0_share 77 = .ok (.aload_n 0, 1) := by decide +kernel
theorem dX0_share_78 : decode cX0_share 78 = .ok (.getfield 9, 3) := by decide +kernel
theorem dX0_share_81 : decode cX0_share 81 = .ok (.iload_n 1, 1) := by decide +kernel
theorem dX0_share_82 : decode cX0_share 82 = .ok (.ixor, 1) := by decide +kernel
theorem dX0_share_83 : decode cX0_share 83 = .ok (.putfield 23, 3) := by decide +kernel
theorem dX0_share_86 : decode cX0_share 86 = .ok (.iconst 1, 1) := by decide +kernel
theorem dX0_share_87 : decode cX0_share 87 = .ok (.ireturn, 1) := by decide +kernel
set_option maxRecDepth 100000 in
theorem ggX0_left_X0_hasOneAhead : GoodIn wsX0_left wsX0_hasOneAhead := goodIn_r _ [7, 8] rfl (by decide +kernel)
set_option maxRecDepth 100000 in
theorem gX0_left_X0_hasOneAhead : GoodIn wsX0_left (va_wsS RX0 62 yX0_hasOneAhead wsX0_hasOneAhead) := goodIn_app (goodIn_r _ [4, 5, 6] rfl (by decide +kernel)) ggX0_left_X0_hasOneAhead
theorem dX0_left_0 : decode cX0_left 0 = .ok (.aload_n 0, 1) := by decide +kernel
theorem dX0_left_1 : decode cX0_left 1 = .ok (.aload_n 0, 1) := by decide +kernel
theorem dX0_left_2 : decode cX0_left 2 = .ok (.getfield 52, 3) := by decide +kernel
theorem dX0_left_5 : decode cX0_left 5 = .ok (.ifCond .ne 14, 3) := by decide +kernel
theorem dX0_left_8 : decode cX0_left 8 = .ok (.aload_n 0, 1) := by decide +kernel
theorem dX0_left_9 : decode cX0_left 9 = .ok (.getfield 15, 3) := by decide +kernel
theorem dX0_left_12 : decode cX0_left 12 = .ok (.iload_n 1, 1) := by decide +kernel
theorem dX0_left_13 : decode cX0_left 13 = .ok (.invokestatic 62, 3) := by decide +kernel
theorem dX0_left_16 : decode cX0_left 16 = .ok (.ifCond .eq 7, 3) := by decide +kernel
theorem dX0_left_19 : decode cX0_left 19 = .ok (.iconst 1, 1) := by decide +kernel
theorem dX0_left_20 : decode cX0_left 20 = .ok (.goto 4, 3) := by decide +kernel
theorem dX0_left_23 : decode cX0_left 23 = .ok (.iconst 0, 1) := by decide +kernel
theorem dX0_left_24 : decode cX0_left 24 = .ok (.putfield 52, 3) := by decide +kernel
theorem dX0_left_27 : decode cX0_left 27 = .ok (.aload_n 0, 1) := by decide +kernel
theorem dX0_left_28 : decode cX0_left 28 = .ok (.aload_n 0, 1) := by decide +kernel
theorem dX0_left_29 : decode cX0_left 29 = .ok (.getfield 15, 3) := by decide +kernel
theorem dX0_left_32 : decode cX0_left 32 = .ok (.iload_n 1, 1) := by decide +kernel
theorem dX0_left_33 : decode cX0_left 33 = .ok (.lshl, 1) := by decide +kernel
theorem dX0_left_34 : decode cX0_left 34 = .ok (.ldc2_w 56, 3) := by decide +kernel
theorem dX0_left_37 : decode cX0_left 37 = .ok (.land, 1) := by decide +kernel
theorem dX0_left_38 : decode cX0_left 38 = .ok (.putfield 15, 3) := by decide +kernel
theorem dX0_left_41 : decode cX0_left 41 = .ok (.return_, 1) := by decide +kernel
theorem dX0_right_0 : decode cX0_right 0 = .ok (.aload_n 0, 1) := by decide +kernel
theorem dX0_right_1 : decode cX0_right 1 = .ok (.dup, 1) := by decide +kernel
theorem dX0_right_2 : decode cX0_right 2 = .ok (.getfield 15, 3) := by decide +kernel
theorem dX0_right_5 : decode cX0_right 5 = .ok (.iload_n 1, 1) := by decide +kernel
theorem dX0_right_6 : decode cX0_right 6 = .ok (.lshr, 1) := by decide +kernel
theorem dX0_right_7 : decode cX0_right 7 = .ok (.putfield 15, 3) := by decide +kernel
theorem dX0_right_10 : decode cX0_right 10 = .ok (.return_, 1) := by decide +kernel
set_option maxRecDepth 100000 in
theorem ggX0_leftBoth_X0_left : GoodIn wsX0_leftBoth wsX0_left := goodIn_r _ [12, 1, 3, 4, 13, 14, 11, 15, 5, 16, 17, 18, 19, 20] rfl (by decide +kernel)
set_option maxRecDepth 100000 in
theorem gX0_leftBoth_X0_left : GoodIn wsX0_leftBoth (wsV RX0 66 RX0 yX0_left wsX0_left) := goodIn_app (goodIn_r _ [8, 9, 10, 11] rfl (by decide +kernel)) ggX0_leftBoth_X0_left
set_option maxRecDepth 100000 in
theorem ggX0_leftBoth_X0_hasOneAhead : GoodIn wsX0_leftBoth wsX0_hasOneAhead := goodIn_r _ [15, 5] rfl (by decide +kernel)
set_option maxRecDepth 100000 in
theorem gX0_leftBoth_X0_hasOneAhead : GoodIn wsX0_leftBoth (va_wsS RX0 62 yX0_hasOneAhead wsX0_hasOneAhead) := goodIn_app (goodIn_r _ [13, 14, 11] rfl (by decide +kernel)) ggX0_leftBoth_X0_hasOneAhead
theorem dX0_leftBoth_0 : decode cX0_leftBoth 0 = .ok (.iload_n 1, 1) := by decide +kernel
theorem dX0_leftBoth_1 : decode cX0_leftBoth 1 = .ok (.bipush 35, 2) := by decide +kernel
theorem dX0_leftBoth_3 : decode cX0_leftBoth 3 = .ok (.isub, 1) := by decide +kernel
theorem dX0_leftBoth_4 : decode cX0_leftBoth 4 = .ok (.istore_n 2, 1) := by decide +kernel
theorem dX0_leftBoth_5 : decode cX0_leftBoth 5 = .ok (.aload_n 0, 1) := by decide +kernel
theorem dX0_leftBoth_6 : decode cX0_leftBoth 6 = .ok (.iload_n 1, 1) := by decide +kernel
theorem dX0_leftBoth_7 : decode cX0_leftBoth 7 = .ok (.invokevirtual 66, 3) := by decide +kernel
theorem dX0_leftBoth_10 : decode cX0_leftBoth 10 = .ok (.aload_n 0, 1) := by decide +kernel
theorem dX0_leftBoth_11 : decode cX0_leftBoth 11 = .ok (.aload_n 0, 1) := by decide +kernel
theorem dX0_leftBoth_12 : decode cX0_leftBoth 12 = .ok (.getfield 52, 3) := by decide +kernel
theorem dX0_leftBoth_15 : decode cX0_leftBoth 15 = .ok (.ifCond .ne 14, 3) := by decide +kernel
theorem dX0_leftBoth_18 : decode cX0_leftBoth 18 = .ok (.aload_n 0, 1) := by decide +kernel
theorem dX0_leftBoth_19 : decode cX0_leftBoth 19 = .ok (.getfield 26, 3) := by decide +kernel
theorem dX0_leftBoth_22 : decode cX0_leftBoth 22 = .ok (.iload_n 2, 1) := by decide +kernel
theorem dX0_leftBoth_23 : decode cX0_leftBoth 23 = .ok (.invokestatic 62, 3) := by decide +kernel
theorem dX0_leftBoth_26 : decode cX0_leftBoth 26 = .ok (.ifCond .eq 7, 3) := by decide +kernel
theorem dX0_leftBoth_29 : decode cX0_leftBoth 29 = .ok (.iconst 1, 1) := by decide +kernel
theorem dX0_leftBoth_30 : decode cX0_leftBoth 30 = .ok (.goto 4, 3) := by decide +kernel
theorem dX0_leftBoth_33 : decode cX0_leftBoth 33 = .ok (.iconst 0, 1) := by decide +kernel
theorem dX0_leftBoth_34 : decode cX0_leftBoth 34 = .ok (.putfield 52, 3) := by decide +kernel
theorem dX0_leftBoth_37 : decode cX0_leftBoth 37 = .ok (.aload_n 0, 1) := by decide +kernel
theorem dX0_leftBoth_38 : decode cX0_leftBoth 38 = .ok (.dup, 1) := by decide +kernel
theorem dX0_leftBoth_39 : decode cX0_leftBoth 39 = .ok (.getfield 15, 3) := by decide +kernel
theorem dX0_leftBoth_42 : decode cX0_leftBoth 42 = .ok (.iload_n 2, 1) := by decide +kernel
theorem dX0_leftBoth_43 : decode cX0_leftBoth 43 = .ok (.ifCond .ge 13, 3) := by decide +kernel
theorem dX0_leftBoth_46 : decode cX0_leftBoth 46 = .ok (.aload_n 0, 1) := by decide +kernel
theorem dX0_leftBoth_47 : decode cX0_leftBoth 47 = .ok (.getfield 26, 3) := by decide +kernel
theorem dX0_leftBoth_50 : decode cX0_leftBoth 50 = .ok (.iload_n 2, 1) := by decide +kernel
theorem dX0_leftBoth_51 : decode cX0_leftBoth 51 = .ok (.ineg, 1) := by decide +kernel
theorem dX0_leftBoth_52 : decode cX0_leftBoth 52 = .ok (.lshr, 1) := by decide +kernel
theorem dX0_leftBoth_53 : decode cX0_leftBoth 53 = .ok (.goto 9, 3) := by decide +kernel
theorem dX0_leftBoth_56 : decode cX0_leftBoth 56 = .ok (.aload_n 0, 1) := by decide +kernel
theorem dX0_leftBoth_57 : decode cX0_leftBoth 57 = .ok (.getfield 26, 3) := by decide +kernel
theorem dX0_leftBoth_60 : decode cX0_leftBoth 60 = .ok (.iload_n 2, 1) := by decide +kernel
theorem dX0_leftBoth_61 : decode cX0_leftBoth 61 = .ok (.lshl, 1) := by decide +kernel
theorem dX0_leftBoth_62 : decode cX0_leftBoth 62 = .ok (.ldc2_w 56, 3) := by decide +kernel
theorem dX0_leftBoth_65 : decode cX0_leftBoth 65 = .ok (.land, 1) := by decide +kernel
theorem dX0_leftBoth_66 : decode cX0_leftBoth 66 = .ok (.lor, 1) := by decide +kernel
theorem dX0_leftBoth_67 : decode cX0_leftBoth 67 = .ok (.putfield 15, 3) := by decide +kernel
theorem dX0_leftBoth_70 : decode cX0_leftBoth 70 = .ok (.aload_n 0, 1) := by decide +kernel
theorem dX0_leftBoth_71 : decode cX0_leftBoth 71 = .ok (.aload_n 0, 1) := by decide +kernel
theorem dX0_leftBoth_72 : decode cX0_leftBoth 72 = .ok (.getfield 26, 3) := by decide +kernel
theorem dX0_leftBoth_75 : decode cX0_leftBoth 75 = .ok (.iload_n 1, 1) := by decide +kernel
theorem dX0_leftBoth_76 : decode cX0_leftBoth 76 = .ok (.lshl, 1) := by decide +kernel
theorem dX0_leftBoth_77 : decode cX0_leftBoth 77 = .ok (.ldc2_w 29, 3) := by decide +kernel
theorem dX0_leftBoth_80 : decode cX0_leftBoth 80 = .ok (.land, 1) := by decide +kernel
theorem dX0_leftBoth_81 : decode cX0_leftBoth 81 = .ok (.putfield 26, 3) := by decide +kernel
theorem dX0_leftBoth_84 : decode cX0_leftBoth 84 = .ok (.aload_n 0, 1) := by decide +kernel
theorem dX0_leftBoth_85 : decode cX0_leftBoth 85 = .ok (.aload_n 0, 1) := by decide +kernel
theorem dX0_leftBoth_86 : decode cX0_leftBoth 86 = .ok (.getfield 23, 3) := by decide +kernel
theorem dX0_leftBoth_89 : decode cX0_leftBoth 89 = .ok (.putfield 9, 3) := by decide +kernel
theorem dX0_leftBoth_92 : decode cX0_leftBoth 92 = .ok (.return_, 1) := by decide +kernel
set_option maxRecDepth 100000 in
theorem ggX0_rightBoth_X0_right : GoodIn wsX0_rightBoth wsX0_right := goodIn_r _ [10, 1, 11, 12, 13, 14, 15] rfl (by decide +kernel)
set_option maxRecDepth 100000 in
theorem gX0_rightBoth_X0_right : GoodIn wsX0_rightBoth (wsV RX0 70 RX0 yX0_right wsX0_right) := goodIn_app (goodIn_r _ [6, 7, 8, 9] rfl (by decide +kernel)) ggX0_rightBoth_X0_right
theorem dX0_rightBoth_0 : decode cX0_rightBoth 0 = .ok (.iload_n 1, 1) := by decide +kernel
theorem dX0_rightBoth_1 : decode cX0_rightBoth 1 = .ok (.bipush 35, 2) := by decide +kernel
theorem dX0_rightBoth_3 : decode cX0_rightBoth 3 = .ok (.isub, 1) := by decide +kernel
theorem dX0_rightBoth_4 : decode cX0_rightBoth 4 = .ok (.istore_n 2, 1) := by decide +kernel
theorem dX0_rightBoth_5 : decode cX0_rightBoth 5 = .ok (.iload_n 2, 1) := by decide +kernel
theorem dX0_rightBoth_6 : decode cX0_rightBoth 6 = .ok (.ifCond .ge 13, 3) := by decide +kernel
theorem dX0_rightBoth_9 : decode cX0_rightBoth 9 = .ok (.aload_n 0, 1) := by decide +kernel
theorem dX0_rightBoth_10 : decode cX0_rightBoth 10 = .ok (.getfield 15, 3) := by decide +kernel
theorem dX0_rightBoth_13 : decode cX0_rightBoth 13 = .ok (.iload_n 2, 1) := by decide +kernel
theorem dX0_rightBoth_14 : decode cX0_rightBoth 14 = .ok (.ineg, 1) := by decide +kernel
theorem dX0_rightBoth_15 : decode cX0_rightBoth 15 = .ok (.lshl, 1) := by decide +kernel
theorem dX0_rightBoth_16 : decode cX0_rightBoth 16 = .ok (.goto 9, 3) := by decide +kernel
theorem dX0_rightBoth_19 : decode cX0_rightBoth 19 = .ok (.aload_n 0, 1) := by decide +kernel
theorem dX0_rightBoth_20 : decode cX0_rightBoth 20 = .ok (.getfield 15, 3) := by decide +kernel
theorem dX0_rightBoth_23 : decode cX0_rightBoth 23 = .ok (.iload_n 2, 1) := by decide +kernel
theorem dX0_rightBoth_24 : decode cX0_rightBoth 24 = .ok (.lshr, 1) := by decide +kernel
theorem dX0_rightBoth_25 : decode cX0_rightBoth 25 = .ok (.lstore_n 3, 1) := by decide +kernel
theorem dX0_rightBoth_26 : decode cX0_rightBoth 26 = .ok (.aload_n 0, 1) := by decide +kernel
theorem dX0_rightBoth_27 : decode cX0_rightBoth 27 = .ok (.aload_n 0, 1) := by decide +kernel
theorem dX0_rightBoth_28 : decode cX0_rightBoth 28 = .ok (.getfield 26, 3) := by decide +kernel
theorem dX0_rightBoth_31 : decode cX0_rightBoth 31 = .ok (.iload_n 1, 1) := by decide +kernel
theorem dX0_rightBoth_32 : decode cX0_rightBoth 32 = .ok (.lshr, 1) := by decide +kernel
theorem dX0_rightBoth_33 : decode cX0_rightBoth 33 = .ok (.lload_n 3, 1) := by decide +kernel
theorem dX0_rightBoth_34 : decode cX0_rightBoth 34 = .ok (.lor, 1) := by decide +kernel
theorem dX0_rightBoth_35 : decode cX0_rightBoth 35 = .ok (.ldc2_w 29, 3) := by decide +kernel
theorem dX0_rightBoth_38 : decode cX0_rightBoth 38 = .ok (.land, 1) := by decide +kernel
theorem dX0_rightBoth_39 : decode cX0_rightBoth 39 = .ok (.putfield 26, 3) := by decide +kernel
theorem dX0_rightBoth_42 : decode cX0_rightBoth 42 = .ok (.aload_n 0, 1) := by decide +kernel
theorem dX0_rightBoth_43 : decode cX0_rightBoth 43 = .ok (.iload_n 1, 1) := by decide +kernel
theorem dX0_rightBoth_44 : decode cX0_rightBoth 44 = .ok (.invokevirtual 70, 3) := by decide +kernel
theorem dX0_rightBoth_47 : decode cX0_rightBoth 47 = .ok (.aload_n 0, 1) := by decide +kernel
theorem dX0_rightBoth_48 : decode cX0_rightBoth 48 = .ok (.aload_n 0, 1) := by decide +kernel
theorem dX0_rightBoth_49 : decode cX0_rightBoth 49 = .ok (.getfield 9, 3) := by decide +kernel
theorem dX0_rightBoth_52 : decode cX0_rightBoth 52 = .ok (.putfield 23, 3) := by decide +kernel
theorem dX0_rightBoth_55 : decode cX0_rightBoth 55 = .ok (.return_, 1) := by decide +kernel
theorem dX0_hasOneAhead_0 : decode cX0_hasOneAhead 0 = .ok (.iload_n 2, 1) := by decide +kernel
theorem dX0_hasOneAhead_1 : decode cX0_hasOneAhead 1 = .ok (.ifCond .gt 5, 3) := by decide +kernel
theorem dX0_hasOneAhead_4 : decode cX0_hasOneAhead 4 = .ok (.iconst 0, 1) := by decide +kernel
theorem dX0_hasOneAhead_5 : decode cX0_hasOneAhead 5 = .ok (.ireturn, 1) := by decide +kernel
theorem dX0_hasOneAhead_6 : decode cX0_hasOneAhead 6 = .ok (.iload_n 2, 1) := by decide +kernel
theorem dX0_hasOneAhead_7 : decode cX0_hasOneAhead 7 = .ok (.bipush 35, 2) := by decide +kernel
theorem dX0_hasOneAhead_9 : decode cX0_hasOneAhead 9 = .ok (.if_icmp .ge 10, 3) := by decide +kernel
theorem dX0_hasOneAhead_12 : decode cX0_hasOneAhead 12 = .ok (.bipush 35, 2) := by decide +kernel
theorem dX0_hasOneAhead_14 : decode cX0_hasOneAhead 14 = .ok (.iload_n 2, 1) := by decide +kernel
theorem dX0_hasOneAhead_15 : decode cX0_hasOneAhead 15 = .ok (.isub, 1) := by decide +kernel
theorem dX0_hasOneAhead_16 : decode cX0_hasOneAhead 16 = .ok (.goto 4, 3) := by decide +kernel
theorem dX0_hasOneAhead_19 : decode cX0_hasOneAhead 19 = .ok (.iconst 0, 1) := by decide +kernel
theorem dX0_hasOneAhead_20 : decode cX0_hasOneAhead 20 = .ok (.istore_n 3, 1) := by decide +kernel
theorem dX0_hasOneAhead_21 : decode cX0_hasOneAhead 21 = .ok (.lload_n 0, 1) := by decide +kernel
theorem dX0_hasOneAhead_22 : decode cX0_hasOneAhead 22 = .ok (.ldc2_w 29, 3) := by decide +kernel
theorem dX0_hasOneAhead_25 : decode cX0_hasOneAhead 25 = .ok (.land, 1) := by decide +kernel
theorem dX0_hasOneAhead_26 : decode cX0_hasOneAhead 26 = .ok (.iload_n 3, 1) := by decide +kernel
theorem dX0_hasOneAhead_27 : decode cX0_hasOneAhead 27 = .ok (.lshr, 1) := by decide +kernel
theorem dX0_hasOneAhead_28 : decode cX0_hasOneAhead 28 = .ok (.lconst 0, 1) := by decide +kernel
theorem dX0_hasOneAhead_29 : decode cX0_hasOneAhead 29 = .ok (.lcmp, 1) := by decide +kernel
theorem dX0_hasOneAhead_30 : decode cX0_hasOneAhead 30 = .ok (.ifCond .eq 7, 3) := by decide +kernel
theorem dX0_hasOneAhead_33 : decode cX0_hasOneAhead 33 = .ok (.iconst 1, 1) := by decide +kernel
theorem dX0_hasOneAhead_34 : decode cX0_hasOneAhead 34 = .ok (.goto 4, 3) := by decide +kernel
theorem dX0_hasOneAhead_37 : decode cX0_hasOneAhead 37 = .ok (.iconst 0, 1) := by decide +kernel
theorem dX0_hasOneAhead_38 : decode cX0_hasOneAhead 38 = .ok (.ireturn, 1) := by decide +kernel
theorem dX1_init_0 : decode cX1_init 0 = .ok (.aload_n 0, 1) := by decide +kernel
theorem dX1_init_1 : decode cX1_init 1 = .ok (.invokespecial 3, 3) := by decide +kernel
theorem dX1_init_4 : decode cX1_init 4 = .ok (.aload_n 0, 1) := by decide +kernel
theorem dX1_init_5 : decode cX1_init 5 = .ok (.sipush 256, 3) := by decide +kernel
theorem dX1_init_8 : decode cX1_init 8 = .ok (.newarray .long, 2) := by decide +kernel
theorem dX1_init_10 : decode cX1_init 10 = .ok (.putfield 9, 3) := by decide +kernel
theorem dX1_init_13 : decode cX1_init 13 = .ok (.return_, 1) := by decide +kernel
theorem dX1_wordAt_0 : decode cX1_wordAt 0 = .ok (.iload_n 1, 1) := by decide +kernel
theorem dX1_wordAt_1 : decode cX1_wordAt 1 = .ok (.ifCond .lt 21, 3) := by decide +kernel
theorem dX1_wordAt_4 : decode cX1_wordAt 4 = .ok (.iload_n 1, 1) := by decide +kernel
theorem dX1_wordAt_5 : decode cX1_wordAt 5 = .ok (.aload_n 0, 1) := by decide +kernel
theorem dX1_wordAt_6 : decode cX1_wordAt 6 = .ok (.getfield 9, 3) := by decide +kernel
theorem dX1_wordAt_9 : decode cX1_wordAt 9 = .ok (.arraylength, 1) := by decide +kernel
theorem dX1_wordAt_10 : decode cX1_wordAt 10 = .ok (.if_icmp .ge 12, 3) := by decide +kernel
theorem dX1_wordAt_13 : decode cX1_wordAt 13 = .ok (.aload_n 0, 1) := by decide +kernel
theorem dX1_wordAt_14 : decode cX1_wordAt 14 = .ok (.getfield 9, 3) := by decide +kernel
theorem dX1_wordAt_17 : decode cX1_wordAt 17 = .ok (.iload_n 1, 1) := by decide +kernel
theorem dX1_wordAt_18 : decode cX1_wordAt 18 = .ok (.laload, 1) := by decide +kernel
theorem dX1_wordAt_19 : decode cX1_wordAt 19 = .ok (.goto 4, 3) := by decide +kernel
theorem dX1_wordAt_22 : decode cX1_wordAt 22 = .ok (.lconst 0, 1) := by decide +kernel
theorem dX1_wordAt_23 : decode cX1_wordAt 23 = .ok (.lreturn, 1) := by decide +kernel
set_option maxRecDepth 100000 in
theorem ggX1_readHere_X1_wordAt : GoodIn wsX1_readHere wsX1_wordAt := goodIn_r _ [6, 7, 12, 13] rfl (by decide +kernel)
set_option maxRecDepth 100000 in
theorem gX1_readHere_X1_wordAt : GoodIn wsX1_readHere (wsV RX1 19 RX1 yX1_wordAt wsX1_wordAt) := goodIn_app (goodIn_r _ [2, 3, 4, 5] rfl (by decide +kernel)) ggX1_readHere_X1_wordAt
set_option maxRecDepth 100000 in
theorem ggX1_readHere_X1_moveTo : GoodIn wsX1_readHere wsX1_moveTo := goodIn_r _ [11, 1, 12, 13] rfl (by decide +kernel)
set_option maxRecDepth 100000 in
theorem gX1_readHere_X1_moveTo : GoodIn wsX1_readHere (wsV RX1 23 RX1 yX1_moveTo wsX1_moveTo) := goodIn_app (goodIn_r _ [8, 9, 10, 5] rfl (by decide +kernel)) ggX1_readHere_X1_moveTo
theorem dX1_readHere_0 : decode cX1_readHere 0 = .ok (.aload_n 0, 1) := by decide +kernel
theorem dX1_readHere_1 : decode cX1_readHere 1 = .ok (.aload_n 0, 1) := by decide +kernel
theorem dX1_readHere_2 : decode cX1_readHere 2 = .ok (.getfield 15, 3) := by decide +kernel
theorem dX1_readHere_5 : decode cX1_readHere 5 = .ok (.invokevirtual 19, 3) := by decide +kernel
theorem dX1_readHere_8 : decode cX1_readHere 8 = .ok (.lstore_n 1, 1) := by decide +kernel
theorem dX1_readHere_9 : decode cX1_readHere 9 = .ok (.aload_n 0, 1) := by decide +kernel
theorem dX1_readHere_10 : decode cX1_readHere 10 = .ok (.aload_n 0, 1) := by decide +kernel
theorem dX1_readHere_11 : decode cX1_readHere 11 = .ok (.getfield 15, 3) := by decide +kernel
theorem dX1_readHere_14 : decode cX1_readHere 14 = .ok (.iconst 1, 1) := by decide +kernel
theorem dX1_readHere_15 : decode cX1_readHere 15 = .ok (.iadd, 1) := by decide +kernel
theorem dX1_readHere_16 : decode cX1_readHere 16 = .ok (.invokevirtual 23, 3) := by decide +kernel
theorem dX1_readHere_19 : decode cX1_readHere 19 = .ok (.lload_n 1, 1) := by decide +kernel
theorem dX1_readHere_20 : decode cX1_readHere 20 = .ok (.lreturn, 1) := by decide +kernel
set_option maxRecDepth 100000 in
theorem ggX1_writeHere_X1_moveTo : GoodIn wsX1_writeHere wsX1_moveTo := goodIn_r _ [7, 1, 8, 9] rfl (by decide +kernel)
set_option maxRecDepth 100000 in
theorem gX1_writeHere_X1_moveTo : GoodIn wsX1_writeHere (wsV RX1 23 RX1 yX1_moveTo wsX1_moveTo) := goodIn_app (goodIn_r _ [3, 4, 5, 6] rfl (by decide +kernel)) ggX1_writeHere_X1_moveTo
theorem dX1_writeHere_0 : decode cX1_writeHere 0 = .ok (.aload_n 0, 1) := by decide +kernel
theorem dX1_writeHere_1 : decode cX1_writeHere 1 = .ok (.getfield 15, 3) := by decide +kernel
theorem dX1_writeHere_4 : decode cX1_writeHere 4 = .ok (.ifCond .lt 25, 3) := by decide +kernel
theorem dX1_writeHere_7 : decode cX1_writeHere 7 = .ok (.aload_n 0, 1) := by decide +kernel
theorem dX1_writeHere_8 : decode cX1_writeHere 8 = .ok (.getfield 15, 3) := by decide +kernel
theorem dX1_writeHere_11 : decode cX1_writeHere 11 = .ok (.aload_n 0, 1) := by decide +kernel
theorem dX1_writeHere_12 : decode cX1_writeHere 12 = .ok (.getfield 9, 3) := by decide +kernel
theorem dX1_writeHere_15 : decode cX1_writeHere 15 = .ok (.arraylength, 1) := by decide +kernel
theorem dX1_writeHere_16 : decode cX1_writeHere 16 = .ok (.if_icmp .ge 13, 3) := by decide +kernel
theorem dX1_writeHere_19 : decode cX1_writeHere 19 = .ok (.aload_n 0, 1) := by decide +kernel
theorem dX1_writeHere_20 : decode cX1_writeHere 20 = .ok (.getfield 9, 3) := by decide +kernel
theorem dX1_writeHere_23 : decode cX1_writeHere 23 = .ok (.aload_n 0, 1) := by decide +kernel
theorem dX1_writeHere_24 : decode cX1_writeHere 24 = .ok (.getfield 15, 3) := by decide +kernel
theorem dX1_writeHere_27 : decode cX1_writeHere 27 = .ok (.lload_n 1, 1) := by decide +kernel
theorem dX1_writeHere_28 : decode cX1_writeHere 28 = .ok (.lastore, 1) := by decide +kernel
theorem dX1_writeHere_29 : decode cX1_writeHere 29 = .ok (.aload_n 0, 1) := by decide +kernel
theorem dX1_writeHere_30 : decode cX1_writeHere 30 = .ok (.aload_n 0, 1) := by decide +kernel
theorem dX1_writeHere_31 : decode cX1_writeHere 31 = .ok (.getfield 15, 3) := by decide +kernel
theorem dX1_writeHere_34 : decode cX1_writeHere 34 = .ok (.iconst 1, 1) := by decide +kernel
theorem dX1_writeHere_35 : decode cX1_writeHere 35 = .ok (.iadd, 1) := by decide +kernel
theorem dX1_writeHere_36 : decode cX1_writeHere 36 = .ok (.invokevirtual 23, 3) := by decide +kernel
theorem dX1_writeHere_39 : decode cX1_writeHere 39 = .ok (.return_, 1) := by decide +kernel
theorem dX1_moveTo_0 : decode cX1_moveTo 0 = .ok (.aload_n 0, 1) := by decide +kernel
theorem dX1_moveTo_1 : decode cX1_moveTo 1 = .ok (.iload_n 1, 1) := by decide +kernel
theorem dX1_moveTo_2 : decode cX1_moveTo 2 = .ok (.sipush 255, 3) := by decide +kernel
theorem dX1_moveTo_5 : decode cX1_moveTo 5 = .ok (.iand, 1) := by decide +kernel
theorem dX1_moveTo_6 : decode cX1_moveTo 6 = .ok (.putfield 15, 3) := by decide +kernel
theorem dX1_moveTo_9 : decode cX1_moveTo 9 = .ok (.return_, 1) := by decide +kernel
theorem dX2_init_0 : decode cX2_init 0 = .ok (.aload_n 0, 1) := by decide +kernel
theorem dX2_init_1 : decode cX2_init 1 = .ok (.invokespecial 3, 3) := by decide +kernel
theorem dX2_init_4 : decode cX2_init 4 = .ok (.aload_n 0, 1) := by decide +kernel
theorem dX2_init_5 : decode cX2_init 5 = .ok (.bipush 11, 2) := by decide +kernel
theorem dX2_init_7 : decode cX2_init 7 = .ok (.newarray .byte, 2) := by decide +kernel
theorem dX2_init_9 : decode cX2_init 9 = .ok (.putfield 9, 3) := by decide +kernel
theorem dX2_init_12 : decode cX2_init 12 = .ok (.return_, 1) := by decide +kernel
set_option maxRecDepth 100000 in
theorem ggX2_writeAct_X2_addNumber : GoodIn wsX2_writeAct wsX2_addNumber := goodIn_r _ [6, 7, 8, 9, 5, 10, 1, 11, 12, 13] rfl (by decide +kernel)
set_option maxRecDepth 100000 in
theorem gX2_writeAct_X2_addNumber : GoodIn wsX2_writeAct (wsV RX2 19 RX2 yX2_addNumber wsX2_addNumber) := goodIn_app (goodIn_r _ [2, 3, 4, 5] rfl (by decide +kernel)) ggX2_writeAct_X2_addNumber
set_option maxRecDepth 100000 in
theorem ggX2_writeAct_X2_addByte : GoodIn wsX2_writeAct wsX2_addByte := goodIn_r _ [10, 1, 11, 12, 13] rfl (by decide +kernel)
set_option maxRecDepth 100000 in
theorem gX2_writeAct_X2_addByte : GoodIn wsX2_writeAct (wsV RX2 23 RX2 yX2_addByte wsX2_addByte) := goodIn_app (goodIn_r _ [7, 8, 9, 5] rfl (by decide +kernel)) ggX2_writeAct_X2_addByte
theorem dX2_writeAct_0 : decode cX2_writeAct 0 = .ok (.aload_n 0, 1) := by decide +kernel
theorem dX2_writeAct_1 : decode cX2_writeAct 1 = .ok (.iconst 0, 1) := by decide +kernel
theorem dX2_writeAct_2 : decode cX2_writeAct 2 = .ok (.putfield 15, 3) := by decide +kernel
theorem dX2_writeAct_5 : decode cX2_writeAct 5 = .ok (.aload_n 0, 1) := by decide +kernel
theorem dX2_writeAct_6 : decode cX2_writeAct 6 = .ok (.iload_n 1, 1) := by decide +kernel
theorem dX2_writeAct_7 : decode cX2_writeAct 7 = .ok (.invokevirtual 19, 3) := by decide +kernel
theorem dX2_writeAct_10 : decode cX2_writeAct 10 = .ok (.aload_n 0, 1) := by decide +kernel
theorem dX2_writeAct_11 : decode cX2_writeAct 11 = .ok (.bipush 32, 2) := by decide +kernel
theorem dX2_writeAct_13 : decode cX2_writeAct 13 = .ok (.invokevirtual 23, 3) := by decide +kernel
theorem dX2_writeAct_16 : decode cX2_writeAct 16 = .ok (.aload_n 0, 1) := by decide +kernel
theorem dX2_writeAct_17 : decode cX2_writeAct 17 = .ok (.iload_n 2, 1) := by decide +kernel
theorem dX2_writeAct_18 : decode cX2_writeAct 18 = .ok (.bipush 12, 2) := by decide +kernel
theorem dX2_writeAct_20 : decode cX2_writeAct 20 = .ok (.ishr, 1) := by decide +kernel
theorem dX2_writeAct_21 : decode cX2_writeAct 21 = .ok (.bipush 31, 2) := by decide +kernel
theorem dX2_writeAct_23 : decode cX2_writeAct 23 = .ok (.iand, 1) := by decide +kernel
theorem dX2_writeAct_24 : decode cX2_writeAct 24 = .ok (.invokevirtual 19, 3) := by decide +kernel
theorem dX2_writeAct_27 : decode cX2_writeAct 27 = .ok (.aload_n 0, 1) := by decide +kernel
theorem dX2_writeAct_28 : decode cX2_writeAct 28 = .ok (.iload_n 2, 1) := by decide +kernel
theorem dX2_writeAct_29 : decode cX2_writeAct 29 = .ok (.bipush 17, 2) := by decide +kernel
theorem dX2_writeAct_31 : decode cX2_writeAct 31 = .ok (.ishr, 1) := by decide +kernel
theorem dX2_writeAct_32 : decode cX2_writeAct 32 = .ok (.ifCond .eq 8, 3) := by decide +kernel
theorem dX2_writeAct_35 : decode cX2_writeAct 35 = .ok (.bipush 45, 2) := by decide +kernel
theorem dX2_writeAct_37 : decode cX2_writeAct 37 = .ok (.goto 5, 3) := by decide +kernel
theorem dX2_writeAct_40 : decode cX2_writeAct 40 = .ok (.bipush 43, 2) := by decide +kernel
theorem dX2_writeAct_42 : decode cX2_writeAct 42 = .ok (.invokevirtual 23, 3) := by decide +kernel
theorem dX2_writeAct_45 : decode cX2_writeAct 45 = .ok (.aload_n 0, 1) := by decide +kernel
theorem dX2_writeAct_46 : decode cX2_writeAct 46 = .ok (.iload_n 2, 1) := by decide +kernel
theorem dX2_writeAct_47 : decode cX2_writeAct 47 = .ok (.sipush 4095, 3) := by decide +kernel
theorem dX2_writeAct_50 : decode cX2_writeAct 50 = .ok (.iand, 1) := by decide +kernel
theorem dX2_writeAct_51 : decode cX2_writeAct 51 = .ok (.invokevirtual 19, 3) := by decide +kernel
theorem dX2_writeAct_54 : decode cX2_writeAct 54 = .ok (.return_, 1) := by decide +kernel
theorem dX2_byteAt_0 : decode cX2_byteAt 0 = .ok (.iload_n 1, 1) := by decide +kernel
theorem dX2_byteAt_1 : decode cX2_byteAt 1 = .ok (.ifCond .lt 29, 3) := by decide +kernel
theorem dX2_byteAt_4 : decode cX2_byteAt 4 = .ok (.iload_n 1, 1) := by decide +kernel
theorem dX2_byteAt_5 : decode cX2_byteAt 5 = .ok (.aload_n 0, 1) := by decide +kernel
theorem dX2_byteAt_6 : decode cX2_byteAt 6 = .ok (.getfield 15, 3) := by decide +kernel
theorem dX2_byteAt_9 : decode cX2_byteAt 9 = .ok (.if_icmp .ge 21, 3) := by decide +kernel
theorem dX2_byteAt_12 : decode cX2_byteAt 12 = .ok (.iload_n 1, 1) := by decide +kernel
theorem dX2_byteAt_13 : decode cX2_byteAt 13 = .ok (.aload_n 0, 1) := by decide +kernel
theorem dX2_byteAt_14 : decode cX2_byteAt 14 = .ok (.getfield 9, 3) := by decide +kernel
theorem dX2_byteAt_17 : decode cX2_byteAt 17 = .ok (.arraylength, 1) := by decide +kernel
theorem dX2_byteAt_18 : decode cX2_byteAt 18 = .ok (.if_icmp .ge 12, 3) := by decide +kernel
theorem dX2_byteAt_21 : decode cX2_byteAt 21 = .ok (.aload_n 0, 1) := by decide +kernel
theorem dX2_byteAt_22 : decode cX2_byteAt 22 = .ok (.getfield 9, 3) := by decide +kernel
theorem dX2_byteAt_25 : decode cX2_byteAt 25 = .ok (.iload_n 1, 1) := by decide +kernel
theorem dX2_byteAt_26 : decode cX2_byteAt 26 = .ok (.baload, 1) := by decide +kernel
theorem dX2_byteAt_27 : decode cX2_byteAt 27 = .ok (.goto 5, 3) := by decide +kernel
theorem dX2_byteAt_30 : decode cX2_byteAt 30 = .ok (.bipush (-9), 2) := by decide +kernel
theorem dX2_byteAt_32 : decode cX2_byteAt 32 = .ok (.ireturn, 1) := by decide +kernel
set_option maxRecDepth 100000 in
theorem ggX2_addNumber_X2_addByte : GoodIn wsX2_addNumber wsX2_addByte := goodIn_r _ [5, 6, 7, 8, 9] rfl (by decide +kernel)
set_option maxRecDepth 100000 in
theorem gX2_addNumber_X2_addByte : GoodIn wsX2_addNumber (wsV RX2 23 RX2 yX2_addByte wsX2_addByte) := goodIn_app (goodIn_r _ [1, 2, 3, 4] rfl (by decide +kernel)) ggX2_addNumber_X2_addByte
theorem dX2_addNumber_0 : decode cX2_addNumber 0 = .ok (.sipush 1000, 3) := by decide +kernel
theorem dX2_addNumber_3 : decode cX2_addNumber 3 = .ok (.istore_n 2, 1) := by decide +kernel
theorem dX2_addNumber_4 : decode cX2_addNumber 4 = .ok (.iload_n 2, 1) := by decide +kernel
theorem dX2_addNumber_5 : decode cX2_addNumber 5 = .ok (.ifCond .le 35, 3) := by decide +kernel
theorem dX2_addNumber_8 : decode cX2_addNumber 8 = .ok (.iload_n 1, 1) := by decide +kernel
theorem dX2_addNumber_9 : decode cX2_addNumber 9 = .ok (.iload_n 2, 1) := by decide +kernel
theorem dX2_addNumber_10 : decode cX2_addNumber 10 = .ok (.if_icmp .ge 8, 3) := by decide +kernel
theorem dX2_addNumber_13 : decode cX2_addNumber 13 = .ok (.iload_n 2, 1) := by decide +kernel
theorem dX2_addNumber_14 : decode cX2_addNumber 14 = .ok (.iconst 1, 1) := by decide +kernel
theorem dX2_addNumber_15 : decode cX2_addNumber 15 = .ok (.if_icmp .ne 17, 3) := by decide +kernel
theorem dX2_addNumber_18 : decode cX2_addNumber 18 = .ok (.aload_n 0, 1) := by decide +kernel
theorem dX2_addNumber_19 : decode cX2_addNumber 19 = .ok (.bipush 48, 2) := by decide +kernel
theorem dX2_addNumber_21 : decode cX2_addNumber 21 = .ok (.iload_n 1, 1) := by decide +kernel
theorem dX2_addNumber_22 : decode cX2_addNumber 22 = .ok (.iload_n 2, 1) := by decide +kernel
theorem dX2_addNumber_23 : decode cX2_addNumber 23 = .ok (.idiv, 1) := by decide +kernel
theorem dX2_addNumber_24 : decode cX2_addNumber 24 = .ok (.bipush 10, 2) := by decide +kernel
theorem dX2_addNumber_26 : decode cX2_addNumber 26 = .ok (.irem, 1) := by decide +kernel
theorem dX2_addNumber_27 : decode cX2_addNumber 27 = .ok (.iadd, 1) := by decide +kernel
theorem dX2_addNumber_28 : decode cX2_addNumber 28 = .ok (.i2c, 1) := by decide +kernel
theorem dX2_addNumber_29 : decode cX2_addNumber 29 = .ok (.invokevirtual 23, 3) := by decide +kernel
theorem dX2_addNumber_32 : decode cX2_addNumber 32 = .ok (.iload_n 2, 1) := by decide +kernel
theorem dX2_addNumber_33 : decode cX2_addNumber 33 = .ok (.bipush 10, 2) := by decide +kernel
theorem dX2_addNumber_35 : decode cX2_addNumber 35 = .ok (.idiv, 1) := by decide +kernel
theorem dX2_addNumber_36 : decode cX2_addNumber 36 = .ok (.istore_n 2, 1) := by decide +kernel
theorem dX2_addNumber_37 : decode cX2_addNumber 37 = .ok (.goto (-33), 3) := by decide +kernel
theorem dX2_addNumber_40 : decode cX2_addNumber 40 = .ok (.return_, 1) := by decide +kernel
theorem dX2_addByte_0 : decode cX2_addByte 0 = .ok (.aload_n 0, 1) := by decide +kernel
theorem dX2_addByte_1 : decode cX2_addByte 1 = .ok (.getfield 15, 3) := by decide +kernel
theorem dX2_addByte_4 : decode cX2_addByte 4 = .ok (.ifCond .lt 36, 3) := by decide +kernel
theorem dX2_addByte_7 : decode cX2_addByte 7 = .ok (.aload_n 0, 1) := by decide +kernel
theorem dX2_addByte_8 : decode cX2_addByte 8 = .ok (.getfield 15, 3) := by decide +kernel
theorem dX2_addByte_11 : decode cX2_addByte 11 = .ok (.aload_n 0, 1) := by decide +kernel
theorem dX2_addByte_12 : decode cX2_addByte 12 = .ok (.getfield 9, 3) := by decide +kernel
theorem dX2_addByte_15 : decode cX2_addByte 15 = .ok (.arraylength, 1) := by decide +kernel
theorem dX2_addByte_16 : decode cX2_addByte 16 = .ok (.if_icmp .ge 24, 3) := by decide +kernel
theorem dX2_addByte_19 : decode cX2_addByte 19 = .ok (.aload_n 0, 1) := by decide +kernel
theorem dX2_addByte_20 : decode cX2_addByte 20 = .ok (.getfield 9, 3) := by decide +kernel
theorem dX2_addByte_23 : decode cX2_addByte 23 = .ok (.aload_n 0, 1) := by decide +kernel
theorem dX2_addByte_24 : decode cX2_addByte 24 = .ok (.getfield 15, 3) := by decide +kernel
theorem dX2_addByte_27 : decode cX2_addByte 27 = .ok (.iload_n 1, 1) := by decide +kernel
theorem dX2_addByte_28 : decode cX2_addByte 28 = .ok (.i2b, 1) := by decide +kernel
theorem dX2_addByte_29 : decode cX2_addByte 29 = .ok (.bastore, 1) := by decide +kernel
theorem dX2_addByte_30 : decode cX2_addByte 30 = .ok (.aload_n 0, 1) := by decide +kernel
theorem dX2_addByte_31 : decode cX2_addByte 31 = .ok (.dup, 1) := by decide +kernel
theorem dX2_addByte_32 : decode cX2_addByte 32 = .ok (.getfield 15, 3) := by decide +kernel
theorem dX2_addByte_35 : decode cX2_addByte 35 = .ok (.iconst 1, 1) := by decide +kernel
theorem dX2_addByte_36 : decode cX2_addByte 36 = .ok (.iadd, 1) := by decide +kernel
theorem dX2_addByte_37 : decode cX2_addByte 37 = .ok (.putfield 15, 3) := by decide +kernel
theorem dX2_addByte_40 : decode cX2_addByte 40 = .ok (.return_, 1) := by decide +kernel
theorem dX3_init_0 : decode cX3_init 0 = .ok (.aload_n 0, 1) := by decide +kernel
theorem dX3_init_1 : decode cX3_init 1 = .ok (.invokespecial 3, 3) := by decide +kernel
theorem dX3_init_4 : decode cX3_init 4 = .ok (.aload_n 0, 1) := by decide +kernel
theorem dX3_init_5 : decode cX3_init 5 = .ok (.sipush 512, 3) := by decide +kernel
theorem dX3_init_8 : decode cX3_init 8 = .ok (.newarray .int, 2) := by decide +kernel
theorem dX3_init_10 : decode cX3_init 10 = .ok (.putfield 9, 3) := by decide +kernel
theorem dX3_init_13 : decode cX3_init 13 = .ok (.return_, 1) := by decide +kernel
set_option maxRecDepth 100000 in
theorem ggX3_halfAt_X7_isHalf : GoodIn wsX3_halfAt wsX7_isHalf := goodIn_r _ [4] rfl (by decide +kernel)
theorem gX3_halfAt_X7_isHalf_n15 : GoodIn wsX3_halfAt (wsX7_isHalf) := ggX3_halfAt_X7_isHalf
theorem dX3_halfAt_0 : decode cX3_halfAt 0 = .ok (.iload_n 1, 1) := by decide +kernel
theorem dX3_halfAt_1 : decode cX3_halfAt 1 = .ok (.invokestatic 15, 3) := by decide +kernel
theorem dX3_halfAt_4 : decode cX3_halfAt 4 = .ok (.ifCond .eq 12, 3) := by decide +kernel
theorem dX3_halfAt_7 : decode cX3_halfAt 7 = .ok (.aload_n 0, 1) := by decide +kernel
theorem dX3_halfAt_8 : decode cX3_halfAt 8 = .ok (.getfield 9, 3) := by decide +kernel
theorem dX3_halfAt_11 : decode cX3_halfAt 11 = .ok (.iload_n 1, 1) := by decide +kernel
theorem dX3_halfAt_12 : decode cX3_halfAt 12 = .ok (.iaload, 1) := by decide +kernel
theorem dX3_halfAt_13 : decode cX3_halfAt 13 = .ok (.goto 4, 3) := by decide +kernel
theorem dX3_halfAt_16 : decode cX3_halfAt 16 = .ok (.iconst 0, 1) := by decide +kernel
theorem dX3_halfAt_17 : decode cX3_halfAt 17 = .ok (.ireturn, 1) := by decide +kernel
set_option maxRecDepth 100000 in
theorem ggX3_keepHalf_X7_isHalf : GoodIn wsX3_keepHalf wsX7_isHalf := goodIn_r _ [5] rfl (by decide +kernel)
theorem gX3_keepHalf_X7_isHalf_n15 : GoodIn wsX3_keepHalf (wsX7_isHalf) := ggX3_keepHalf_X7_isHalf
theorem dX3_keepHalf_0 : decode cX3_keepHalf 0 = .ok (.iload_n 1, 1) := by decide +kernel
theorem dX3_keepHalf_1 : decode cX3_keepHalf 1 = .ok (.invokestatic 15, 3) := by decide +kernel
theorem dX3_keepHalf_4 : decode cX3_keepHalf 4 = .ok (.ifCond .eq 13, 3) := by decide +kernel
theorem dX3_keepHalf_7 : decode cX3_keepHalf 7 = .ok (.aload_n 0, 1) := by decide +kernel
theorem dX3_keepHalf_8 : decode cX3_keepHalf 8 = .ok (.getfield 9, 3) := by decide +kernel
theorem dX3_keepHalf_11 : decode cX3_keepHalf 11 = .ok (.iload_n 1, 1) := by decide +kernel
theorem dX3_keepHalf_12 : decode cX3_keepHalf 12 = .ok (.iload_n 2, 1) := by decide +kernel
theorem dX3_keepHalf_13 : decode cX3_keepHalf 13 = .ok (.ldc 19, 2) := by decide +kernel
theorem dX3_keepHalf_15 : decode cX3_keepHalf 15 = .ok (.iand, 1) := by decide +kernel
theorem dX3_keepHalf_16 : decode cX3_keepHalf 16 = .ok (.iastore, 1) := by decide +kernel
theorem dX3_keepHalf_17 : decode cX3_keepHalf 17 = .ok (.return_, 1) := by decide +kernel
set_option maxRecDepth 100000 in
theorem ggX3_wholeAt_X3_halfAt : GoodIn wsX3_wholeAt wsX3_halfAt := goodIn_r _ [5, 6, 7, 8, 9, 10] rfl (by decide +kernel)
set_option maxRecDepth 100000 in
theorem gX3_wholeAt_X3_halfAt : GoodIn wsX3_wholeAt (wsV RX3 20 RX3 yX3_halfAt wsX3_halfAt) := goodIn_app (goodIn_r _ [1, 2, 3, 4] rfl (by decide +kernel)) ggX3_wholeAt_X3_halfAt
theorem dX3_wholeAt_0 : decode cX3_wholeAt 0 = .ok (.aload_n 0, 1) := by decide +kernel
theorem dX3_wholeAt_1 : decode cX3_wholeAt 1 = .ok (.iload_n 1, 1) := by decide +kernel
theorem dX3_wholeAt_2 : decode cX3_wholeAt 2 = .ok (.invokevirtual 20, 3) := by decide +kernel
theorem dX3_wholeAt_5 : decode cX3_wholeAt 5 = .ok (.i2l, 1) := by decide +kernel
theorem dX3_wholeAt_6 : decode cX3_wholeAt 6 = .ok (.bipush 18, 2) := by decide +kernel
theorem dX3_wholeAt_8 : decode cX3_wholeAt 8 = .ok (.lshl, 1) := by decide +kernel
theorem dX3_wholeAt_9 : decode cX3_wholeAt 9 = .ok (.aload_n 0, 1) := by decide +kernel
theorem dX3_wholeAt_10 : decode cX3_wholeAt 10 = .ok (.iload_n 1, 1) := by decide +kernel
theorem dX3_wholeAt_11 : decode cX3_wholeAt 11 = .ok (.iconst 1, 1) := by decide +kernel
theorem dX3_wholeAt_12 : decode cX3_wholeAt 12 = .ok (.iadd, 1) := by decide +kernel
theorem dX3_wholeAt_13 : decode cX3_wholeAt 13 = .ok (.invokevirtual 20, 3) := by decide +kernel
theorem dX3_wholeAt_16 : decode cX3_wholeAt 16 = .ok (.i2l, 1) := by decide +kernel
theorem dX3_wholeAt_17 : decode cX3_wholeAt 17 = .ok (.lor, 1) := by decide +kernel
theorem dX3_wholeAt_18 : decode cX3_wholeAt 18 = .ok (.lreturn, 1) := by decide +kernel
set_option maxRecDepth 100000 in
theorem ggX3_keepWhole_X3_keepHalf : GoodIn wsX3_keepWhole wsX3_keepHalf := goodIn_r _ [6, 7, 8, 9, 10, 11, 12] rfl (by decide +kernel)
set_option maxRecDepth 100000 in
theorem gX3_keepWhole_X3_keepHalf : GoodIn wsX3_keepWhole (wsV RX3 24 RX3 yX3_keepHalf wsX3_keepHalf) := goodIn_app (goodIn_r _ [2, 3, 4, 5] rfl (by decide +kernel)) ggX3_keepWhole_X3_keepHalf
theorem dX3_keepWhole_0 : decode cX3_keepWhole 0 = .ok (.aload_n 0, 1) := by decide +kernel
theorem dX3_keepWhole_1 : decode cX3_keepWhole 1 = .ok (.iload_n 1, 1) := by decide +kernel
theorem dX3_keepWhole_2 : decode cX3_keepWhole 2 = .ok (.lload_n 2, 1) := by decide +kernel
theorem dX3_keepWhole_3 : decode cX3_keepWhole 3 = .ok (.bipush 18, 2) := by decide +kernel
theorem dX3_keepWhole_5 : decode cX3_keepWhole 5 = .ok (.lshr, 1) := by decide +kernel
theorem dX3_keepWhole_6 : decode cX3_keepWhole 6 = .ok (.l2i, 1) := by decide +kernel
theorem dX3_keepWhole_7 : decode cX3_keepWhole 7 = .ok (.invokevirtual 24, 3) := by decide +kernel
theorem dX3_keepWhole_10 : decode cX3_keepWhole 10 = .ok (.aload_n 0, 1) := by decide +kernel
theorem dX3_keepWhole_11 : decode cX3_keepWhole 11 = .ok (.iload_n 1, 1) := by decide +kernel
theorem dX3_keepWhole_12 : decode cX3_keepWhole 12 = .ok (.iconst 1, 1) := by decide +kernel
theorem dX3_keepWhole_13 : decode cX3_keepWhole 13 = .ok (.iadd, 1) := by decide +kernel
theorem dX3_keepWhole_14 : decode cX3_keepWhole 14 = .ok (.lload_n 2, 1) := by decide +kernel
theorem dX3_keepWhole_15 : decode cX3_keepWhole 15 = .ok (.ldc2_w 28, 3) := by decide +kernel
theorem dX3_keepWhole_18 : decode cX3_keepWhole 18 = .ok (.land, 1) := by decide +kernel
theorem dX3_keepWhole_19 : decode cX3_keepWhole 19 = .ok (.l2i, 1) := by decide +kernel
theorem dX3_keepWhole_20 : decode cX3_keepWhole 20 = .ok (.invokevirtual 24, 3) := by decide +kernel
theorem dX3_keepWhole_23 : decode cX3_keepWhole 23 = .ok (.return_, 1) := by decide +kernel
set_option maxRecDepth 100000 in
theorem ggX3_operand_X3_wholeAt : GoodIn wsX3_operand wsX3_wholeAt := goodIn_r _ [5, 6, 7, 8, 4, 9, 10, 11, 12, 13, 14] rfl (by decide +kernel)
set_option maxRecDepth 100000 in
theorem gX3_operand_X3_wholeAt : GoodIn wsX3_operand (wsV RX3 30 RX3 yX3_wholeAt wsX3_wholeAt) := goodIn_app (goodIn_r _ [1, 2, 3, 4] rfl (by decide +kernel)) ggX3_operand_X3_wholeAt
set_option maxRecDepth 100000 in
theorem ggX3_operand_X3_halfAt : GoodIn wsX3_operand wsX3_halfAt := goodIn_r _ [9, 10, 11, 12, 13, 14] rfl (by decide +kernel)
set_option maxRecDepth 100000 in
theorem gX3_operand_X3_halfAt : GoodIn wsX3_operand (wsV RX3 20 RX3 yX3_halfAt wsX3_halfAt) := goodIn_app (goodIn_r _ [6, 7, 8, 4] rfl (by decide +kernel)) ggX3_operand_X3_halfAt
theorem dX3_operand_0 : decode cX3_operand 0 = .ok (.iload_n 1, 1) := by decide +kernel
theorem dX3_operand_1 : decode cX3_operand 1 = .ok (.ifCond .eq 14, 3) := by decide +kernel
theorem dX3_operand_4 : decode cX3_operand 4 = .ok (.aload_n 0, 1) := by decide +kernel
theorem dX3_operand_5 : decode cX3_operand 5 = .ok (.iload_n 2, 1) := by decide +kernel
theorem dX3_operand_6 : decode cX3_operand 6 = .ok (.bipush (-2), 2) := by decide +kernel
theorem dX3_operand_8 : decode cX3_operand 8 = .ok (.iand, 1) := by decide +kernel
theorem dX3_operand_9 : decode cX3_operand 9 = .ok (.invokevirtual 30, 3) := by decide +kernel
theorem dX3_operand_12 : decode cX3_operand 12 = .ok (.goto 12, 3) := by decide +kernel
theorem dX3_operand_15 : decode cX3_operand 15 = .ok (.aload_n 0, 1) := by decide +kernel
theorem dX3_operand_16 : decode cX3_operand 16 = .ok (.iload_n 2, 1) := by decide +kernel
theorem dX3_operand_17 : decode cX3_operand 17 = .ok (.invokevirtual 20, 3) := by decide +kernel
theorem dX3_operand_20 : decode cX3_operand 20 = .ok (.i2l, 1) := by decide +kernel
theorem dX3_operand_21 : decode cX3_operand 21 = .ok (.bipush 18, 2) := by decide +kernel
theorem dX3_operand_23 : decode cX3_operand 23 = .ok (.lshl, 1) := by decide +kernel
theorem dX3_operand_24 : decode cX3_operand 24 = .ok (.lreturn, 1) := by decide +kernel
set_option maxRecDepth 100000 in
theorem ggX3_keepOperand_X3_keepWhole : GoodIn wsX3_keepOperand wsX3_keepWhole := goodIn_r _ [5, 6, 7, 8, 9, 4, 10, 11, 12, 13, 14, 15, 16] rfl (by decide +kernel)
set_option maxRecDepth 100000 in
theorem gX3_keepOperand_X3_keepWhole : GoodIn wsX3_keepOperand (wsV RX3 34 RX3 yX3_keepWhole wsX3_keepWhole) := goodIn_app (goodIn_r _ [1, 2, 3, 4] rfl (by decide +kernel)) ggX3_keepOperand_X3_keepWhole
set_option maxRecDepth 100000 in
theorem ggX3_keepOperand_X3_keepHalf : GoodIn wsX3_keepOperand wsX3_keepHalf := goodIn_r _ [10, 11, 12, 13, 14, 15, 16] rfl (by decide +kernel)
set_option maxRecDepth 100000 in
theorem gX3_keepOperand_X3_keepHalf : GoodIn wsX3_keepOperand (wsV RX3 24 RX3 yX3_keepHalf wsX3_keepHalf) := goodIn_app (goodIn_r _ [7, 8, 9, 4] rfl (by decide +kernel)) ggX3_keepOperand_X3_keepHalf
theorem dX3_keepOperand_0 : decode cX3_keepOperand 0 = .ok (.iload_n 1, 1) := by decide +kernel
theorem dX3_keepOperand_1 : decode cX3_keepOperand 1 = .ok (.ifCond .eq 15, 3) := by decide +kernel
theorem dX3_keepOperand_4 : decode cX3_keepOperand 4 = .ok (.aload_n 0, 1) := by decide +kernel
theorem dX3_keepOperand_5 : decode cX3_keepOperand 5 = .ok (.iload_n 2, 1) := by decide +kernel
theorem dX3_keepOperand_6 : decode cX3_keepOperand 6 = .ok (.bipush (-2), 2) := by decide +kernel
theorem dX3_keepOperand_8 : decode cX3_keepOperand 8 = .ok (.iand, 1) := by decide +kernel
theorem dX3_keepOperand_9 : decode cX3_keepOperand 9 = .ok (.lload_n 3, 1) := by decide +kernel
theorem dX3_keepOperand_10 : decode cX3_keepOperand 10 = .ok (.invokevirtual 34, 3) := by decide +kernel
theorem dX3_keepOperand_13 : decode cX3_keepOperand 13 = .ok (.goto 13, 3) := by decide +kernel
theorem dX3_keepOperand_16 : decode cX3_keepOperand 16 = .ok (.aload_n 0, 1) := by decide +kernel
theorem dX3_keepOperand_17 : decode cX3_keepOperand 17 = .ok (.iload_n 2, 1) := by decide +kernel
theorem dX3_keepOperand_18 : decode cX3_keepOperand 18 = .ok (.lload_n 3, 1) := by decide +kernel
theorem dX3_keepOperand_19 : decode cX3_keepOperand 19 = .ok (.bipush 18, 2) := by decide +kernel
theorem dX3_keepOperand_21 : decode cX3_keepOperand 21 = .ok (.lshr, 1) := by decide +kernel
theorem dX3_keepOperand_22 : decode cX3_keepOperand 22 = .ok (.l2i, 1) := by decide +kernel
theorem dX3_keepOperand_23 : decode cX3_keepOperand 23 = .ok (.invokevirtual 24, 3) := by decide +kernel
theorem dX3_keepOperand_26 : decode cX3_keepOperand 26 = .ok (.return_, 1) := by decide +kernel
theorem dX4_init_0 : decode cX4_init 0 = .ok (.aload_n 0, 1) := by decide +kernel
theorem dX4_init_1 : decode cX4_init 1 = .ok (.invokespecial 3, 3) := by decide +kernel
theorem dX4_init_4 : decode cX4_init 4 = .ok (.aload_n 0, 1) := by decide +kernel
theorem dX4_init_5 : decode cX4_init 5 = .ok (.sipush 300, 3) := by decide +kernel
theorem dX4_init_8 : decode cX4_init 8 = .ok (.newarray .long, 2) := by decide +kernel
theorem dX4_init_10 : decode cX4_init 10 = .ok (.putfield 9, 3) := by decide +kernel
theorem dX4_init_13 : decode cX4_init 13 = .ok (.return_, 1) := by decide +kernel
theorem dX4_itemAt_0 : decode cX4_itemAt 0 = .ok (.iload_n 1, 1) := by decide +kernel
theorem dX4_itemAt_1 : decode cX4_itemAt 1 = .ok (.ifCond .lt 29, 3) := by decide +kernel
theorem dX4_itemAt_4 : decode cX4_itemAt 4 = .ok (.iload_n 1, 1) := by decide +kernel
theorem dX4_itemAt_5 : decode cX4_itemAt 5 = .ok (.aload_n 0, 1) := by decide +kernel
theorem dX4_itemAt_6 : decode cX4_itemAt 6 = .ok (.getfield 15, 3) := by decide +kernel
theorem dX4_itemAt_9 : decode cX4_itemAt 9 = .ok (.if_icmp .ge 21, 3) := by decide +kernel
theorem dX4_itemAt_12 : decode cX4_itemAt 12 = .ok (.iload_n 1, 1) := by decide +kernel
theorem dX4_itemAt_13 : decode cX4_itemAt 13 = .ok (.aload_n 0, 1) := by decide +kernel
theorem dX4_itemAt_14 : decode cX4_itemAt 14 = .ok (.getfield 9, 3) := by decide +kernel
theorem dX4_itemAt_17 : decode cX4_itemAt 17 = .ok (.arraylength, 1) := by decide +kernel
theorem dX4_itemAt_18 : decode cX4_itemAt 18 = .ok (.if_icmp .ge 12, 3) := by decide +kernel
theorem dX4_itemAt_21 : decode cX4_itemAt 21 = .ok (.aload_n 0, 1) := by decide +kernel
theorem dX4_itemAt_22 : decode cX4_itemAt 22 = .ok (.getfield 9, 3) := by decide +kernel
theorem dX4_itemAt_25 : decode cX4_itemAt 25 = .ok (.iload_n 1, 1) := by decide +kernel
theorem dX4_itemAt_26 : decode cX4_itemAt 26 = .ok (.laload, 1) := by decide +kernel
theorem dX4_itemAt_27 : decode cX4_itemAt 27 = .ok (.goto 6, 3) := by decide +kernel
theorem dX4_itemAt_30 : decode cX4_itemAt 30 = .ok (.ldc2_w 19, 3) := by decide +kernel
theorem dX4_itemAt_33 : decode cX4_itemAt 33 = .ok (.lreturn, 1) := by decide +kernel
theorem dX4_addBehindAll_0 : decode cX4_addBehindAll 0 = .ok (.aload_n 0, 1) := by decide +kernel
theorem dX4_addBehindAll_1 : decode cX4_addBehindAll 1 = .ok (.getfield 15, 3) := by decide +kernel
theorem dX4_addBehindAll_4 : decode cX4_addBehindAll 4 = .ok (.ifCond .lt 15, 3) := by decide +kernel
theorem dX4_addBehindAll_7 : decode cX4_addBehindAll 7 = .ok (.aload_n 0, 1) := by decide +kernel
theorem dX4_addBehindAll_8 : decode cX4_addBehindAll 8 = .ok (.getfield 15, 3) := by decide +kernel
theorem dX4_addBehindAll_11 : decode cX4_addBehindAll 11 = .ok (.aload_n 0, 1) := by decide +kernel
theorem dX4_addBehindAll_12 : decode cX4_addBehindAll 12 = .ok (.getfield 9, 3) := by decide +kernel
theorem dX4_addBehindAll_15 : decode cX4_addBehindAll 15 = .ok (.arraylength, 1) := by decide +kernel
theorem dX4_addBehindAll_16 : decode cX4_addBehindAll 16 = .ok (.if_icmp .lt 5, 3) := by decide +kernel
theorem dX4_addBehindAll_19 : decode cX4_addBehindAll 19 = .ok (.iconst 0, 1) := by decide +kernel
theorem dX4_addBehindAll_20 : decode cX4_addBehindAll 20 = .ok (.ireturn, 1) := by decide +kernel
theorem dX4_addBehindAll_21 : decode cX4_addBehindAll 21 = .ok (.aload_n 0, 1) := by decide +kernel
theorem dX4_addBehindAll_22 : decode cX4_addBehindAll 22 = .ok (.getfield 9, 3) := by decide +kernel
theorem dX4_addBehindAll_25 : decode cX4_addBehindAll 25 = .ok (.aload_n 0, 1) := by decide +kernel
theorem dX4_addBehindAll_26 : decode cX4_addBehindAll 26 = .ok (.getfield 15, 3) := by decide +kernel
theorem dX4_addBehindAll_29 : decode cX4_addBehindAll 29 = .ok (.lload_n 1, 1) := by decide +kernel
theorem dX4_addBehindAll_30 : decode cX4_addBehindAll 30 = .ok (.lastore, 1) := by decide +kernel
theorem dX4_addBehindAll_31 : decode cX4_addBehindAll 31 = .ok (.aload_n 0, 1) := by decide +kernel
theorem dX4_addBehindAll_32 : decode cX4_addBehindAll 32 = .ok (.dup, 1) := by decide +kernel
theorem dX4_addBehindAll_33 : decode cX4_addBehindAll 33 = .ok (.getfield 15, 3) := by decide +kernel
theorem dX4_addBehindAll_36 : decode cX4_addBehindAll 36 = .ok (.iconst 1, 1) := by decide +kernel
theorem dX4_addBehindAll_37 : decode cX4_addBehindAll 37 = .ok (.iadd, 1) := by decide +kernel
theorem dX4_addBehindAll_38 : decode cX4_addBehindAll 38 = .ok (.putfield 15, 3) := by decide +kernel
theorem dX4_addBehindAll_41 : decode cX4_addBehindAll 41 = .ok (.iconst 1, 1) := by decide +kernel
theorem dX4_addBehindAll_42 : decode cX4_addBehindAll 42 = .ok (.ireturn, 1) := by decide +kernel
theorem dX4_putHere_0 : decode cX4_putHere 0 = .ok (.aload_n 0, 1) := by decide +kernel
theorem dX4_putHere_1 : decode cX4_putHere 1 = .ok (.getfield 21, 3) := by decide +kernel
theorem dX4_putHere_4 : decode cX4_putHere 4 = .ok (.ifCond .lt 26, 3) := by decide +kernel
theorem dX4_putHere_7 : decode cX4_putHere 7 = .ok (.aload_n 0, 1) := by decide +kernel
theorem dX4_putHere_8 : decode cX4_putHere 8 = .ok (.getfield 21, 3) := by decide +kernel
theorem dX4_putHere_11 : decode cX4_putHere 11 = .ok (.aload_n 0, 1) := by decide +kernel
theorem dX4_putHere_12 : decode cX4_putHere 12 = .ok (.getfield 15, 3) := by decide +kernel
theorem dX4_putHere_15 : decode cX4_putHere 15 = .ok (.if_icmp .gt 15, 3) := by decide +kernel
theorem dX4_putHere_18 : decode cX4_putHere 18 = .ok (.aload_n 0, 1) := by decide +kernel
theorem dX4_putHere_19 : decode cX4_putHere 19 = .ok (.getfield 15, 3) := by decide +kernel
theorem dX4_putHere_22 : decode cX4_putHere 22 = .ok (.aload_n 0, 1) := by decide +kernel
theorem dX4_putHere_23 : decode cX4_putHere 23 = .ok (.getfield 9, 3) := by decide +kernel
theorem dX4_putHere_26 : decode cX4_putHere 26 = .ok (.arraylength, 1) := by decide +kernel
theorem dX4_putHere_27 : decode cX4_putHere 27 = .ok (.if_icmp .lt 5, 3) := by decide +kernel
theorem dX4_putHere_30 : decode cX4_putHere 30 = .ok (.iconst 0, 1) := by decide +kernel
theorem dX4_putHere_31 : decode cX4_putHere 31 = .ok (.ireturn, 1) := by decide +kernel
theorem dX4_putHere_32 : decode cX4_putHere 32 = .ok (.aload_n 0, 1) := by decide +kernel
theorem dX4_putHere_33 : decode cX4_putHere 33 = .ok (.getfield 15, 3) := by decide +kernel
theorem dX4_putHere_36 : decode cX4_putHere 36 = .ok (.istore_n 3, 1) := by decide +kernel
theorem dX4_putHere_37 : decode cX4_putHere 37 = .ok (.iload_n 3, 1) := by decide +kernel
theorem dX4_putHere_38 : decode cX4_putHere 38 = .ok (.aload_n 0, 1) := by decide +kernel
theorem dX4_putHere_39 : decode cX4_putHere 39 = .ok (.getfield 21, 3) := by decide +kernel
theorem dX4_putHere_42 : decode cX4_putHere 42 = .ok (.if_icmp .le 23, 3) := by decide +kernel
theorem dX4_putHere_45 : decode cX4_putHere 45 = .ok (.aload_n 0, 1) := by decide +kernel
theorem dX4_putHere_46 : decode cX4_putHere 46 = .ok (.getfield 9, 3) := by decide +kernel
theorem dX4_putHere_49 : decode cX4_putHere 49 = .ok (.iload_n 3, 1) := by decide +kernel
theorem dX4_putHere_50 : decode cX4_putHere 50 = .ok (.aload_n 0, 1) := by decide +kernel
theorem dX4_putHere_51 : decode cX4_putHere 51 = .ok (.getfield 9, 3) := by decide +kernel
theorem dX4_putHere_54 : decode cX4_putHere 54 = .ok (.iload_n 3, 1) := by decide +kernel
theorem dX4_putHere_55 : decode cX4_putHere 55 = .ok (.iconst 1, 1) := by decide +kernel
theorem dX4_putHere_56 : decode cX4_putHere 56 = .ok (.isub, 1) := by decide +kernel
theorem dX4_putHere_57 : decode cX4_putHere 57 = .ok (.laload, 1) := by decide +kernel
theorem dX4_putHere_58 : decode cX4_putHere 58 = .ok (.lastore, 1) := by decide +kernel
theorem dX4_putHere_59 : decode cX4_putHere 59 = .ok (.iinc 3 (-1), 3) := by decide +kernel
theorem dX4_putHere_62 : decode cX4_putHere 62 = .ok (.goto (-25), 3) := by decide +kernel
theorem dX4_putHere_65 : decode cX4_putHere 65 = .ok (.aload_n 0, 1) := by decide +kernel
theorem dX4_putHere_66 : decode cX4_putHere 66 = .ok (.getfield 9, 3) := by decide +kernel
theorem dX4_putHere_69 : decode cX4_putHere 69 = .ok (.aload_n 0, 1) := by decide +kernel
theorem dX4_putHere_70 : decode cX4_putHere 70 = .ok (.getfield 21, 3) := by decide +kernel
theorem dX4_putHere_73 : decode cX4_putHere 73 = .ok (.lload_n 1, 1) := by decide +kernel
theorem dX4_putHere_74 : decode cX4_putHere 74 = .ok (.lastore, 1) := by decide +kernel
theorem dX4_putHere_75 : decode cX4_putHere 75 = .ok (.aload_n 0, 1) := by decide +kernel
theorem dX4_putHere_76 : decode cX4_putHere 76 = .ok (.dup, 1) := by decide +kernel
theorem dX4_putHere_77 : decode cX4_putHere 77 = .ok (.getfield 15, 3) := by decide +kernel
theorem dX4_putHere_80 : decode cX4_putHere 80 = .ok (.iconst 1, 1) := by decide +kernel
theorem dX4_putHere_81 : decode cX4_putHere 81 = .ok (.iadd, 1) := by decide +kernel
theorem dX4_putHere_82 : decode cX4_putHere 82 = .ok (.putfield 15, 3) := by decide +kernel
theorem dX4_putHere_85 : decode cX4_putHere 85 = .ok (.aload_n 0, 1) := by decide +kernel
theorem dX4_putHere_86 : decode cX4_putHere 86 = .ok (.dup, 1) := by decide +kernel
theorem dX4_putHere_87 : decode cX4_putHere 87 = .ok (.getfield 21, 3) := by decide +kernel
theorem dX4_putHere_90 : decode cX4_putHere 90 = .ok (.iconst 1, 1) := by decide +kernel
theorem dX4_putHere_91 : decode cX4_putHere 91 = .ok (.iadd, 1) := by decide +kernel
theorem dX4_putHere_92 : decode cX4_putHere 92 = .ok (.putfield 21, 3) := by decide +kernel
theorem dX4_putHere_95 : decode cX4_putHere 95 = .ok (.iconst 1, 1) := by decide +kernel
theorem dX4_putHere_96 : decode cX4_putHere 96 = .ok (.ireturn, 1) := by decide +kernel
theorem dX4_cutHere_0 : decode cX4_cutHere 0 = .ok (.aload_n 0, 1) := by decide +kernel
theorem dX4_cutHere_1 : decode cX4_cutHere 1 = .ok (.aload_n 0, 1) := by decide +kernel
theorem dX4_cutHere_2 : decode cX4_cutHere 2 = .ok (.getfield 21, 3) := by decide +kernel
theorem dX4_cutHere_5 : decode cX4_cutHere 5 = .ok (.putfield 15, 3) := by decide +kernel
theorem dX4_cutHere_8 : decode cX4_cutHere 8 = .ok (.return_, 1) := by decide +kernel
theorem dX4_clear_0 : decode cX4_clear 0 = .ok (.aload_n 0, 1) := by decide +kernel
theorem dX4_clear_1 : decode cX4_clear 1 = .ok (.iconst 0, 1) := by decide +kernel
theorem dX4_clear_2 : decode cX4_clear 2 = .ok (.putfield 15, 3) := by decide +kernel
theorem dX4_clear_5 : decode cX4_clear 5 = .ok (.aload_n 0, 1) := by decide +kernel
theorem dX4_clear_6 : decode cX4_clear 6 = .ok (.iconst 0, 1) := by decide +kernel
theorem dX4_clear_7 : decode cX4_clear 7 = .ok (.putfield 21, 3) := by decide +kernel
theorem dX4_clear_10 : decode cX4_clear 10 = .ok (.return_, 1) := by decide +kernel
set_option maxRecDepth 100000 in
theorem ggX4_passForward_X4_itemAt : GoodIn wsX4_passForward wsX4_itemAt := goodIn_r _ [7, 8, 9, 2, 10, 11, 12] rfl (by decide +kernel)
set_option maxRecDepth 100000 in
theorem gX4_passForward_X4_itemAt : GoodIn wsX4_passForward (wsV RX4 24 RX4 yX4_itemAt wsX4_itemAt) := goodIn_app (goodIn_r _ [3, 4, 5, 6] rfl (by decide +kernel)) ggX4_passForward_X4_itemAt
theorem dX4_passForward_0 : decode cX4_passForward 0 = .ok (.aload_n 0, 1) := by decide +kernel
theorem dX4_passForward_1 : decode cX4_passForward 1 = .ok (.aload_n 0, 1) := by decide +kernel
theorem dX4_passForward_2 : decode cX4_passForward 2 = .ok (.getfield 21, 3) := by decide +kernel
theorem dX4_passForward_5 : decode cX4_passForward 5 = .ok (.invokevirtual 24, 3) := by decide +kernel
theorem dX4_passForward_8 : decode cX4_passForward 8 = .ok (.lstore_n 1, 1) := by decide +kernel
theorem dX4_passForward_9 : decode cX4_passForward 9 = .ok (.lload_n 1, 1) := by decide +kernel
theorem dX4_passForward_10 : decode cX4_passForward 10 = .ok (.ldc2_w 19, 3) := by decide +kernel
theorem dX4_passForward_13 : decode cX4_passForward 13 = .ok (.lcmp, 1) := by decide +kernel
theorem dX4_passForward_14 : decode cX4_passForward 14 = .ok (.ifCond .eq 13, 3) := by decide +kernel
theorem dX4_passForward_17 : decode cX4_passForward 17 = .ok (.aload_n 0, 1) := by decide +kernel
theorem dX4_passForward_18 : decode cX4_passForward 18 = .ok (.dup, 1) := by decide +kernel
theorem dX4_passForward_19 : decode cX4_passForward 19 = .ok (.getfield 21, 3) := by decide +kernel
theorem dX4_passForward_22 : decode cX4_passForward 22 = .ok (.iconst 1, 1) := by decide +kernel
theorem dX4_passForward_23 : decode cX4_passForward 23 = .ok (.iadd, 1) := by decide +kernel
theorem dX4_passForward_24 : decode cX4_passForward 24 = .ok (.putfield 21, 3) := by decide +kernel
theorem dX4_passForward_27 : decode cX4_passForward 27 = .ok (.lload_n 1, 1) := by decide +kernel
theorem dX4_passForward_28 : decode cX4_passForward 28 = .ok (.lreturn, 1) := by decide +kernel
set_option maxRecDepth 100000 in
theorem ggX4_passBackward_X4_itemAt : GoodIn wsX4_passBackward wsX4_itemAt := goodIn_r _ [7, 8, 9, 2, 10, 11, 12] rfl (by decide +kernel)
set_option maxRecDepth 100000 in
theorem gX4_passBackward_X4_itemAt : GoodIn wsX4_passBackward (wsV RX4 24 RX4 yX4_itemAt wsX4_itemAt) := goodIn_app (goodIn_r _ [3, 4, 5, 6] rfl (by decide +kernel)) ggX4_passBackward_X4_itemAt
theorem dX4_passBackward_0 : decode cX4_passBackward 0 = .ok (.aload_n 0, 1) := by decide +kernel
theorem dX4_passBackward_1 : decode cX4_passBackward 1 = .ok (.aload_n 0, 1) := by decide +kernel
theorem dX4_passBackward_2 : decode cX4_passBackward 2 = .ok (.getfield 21, 3) := by decide +kernel
theorem dX4_passBackward_5 : decode cX4_passBackward 5 = .ok (.iconst 1, 1) := by decide +kernel
theorem dX4_passBackward_6 : decode cX4_passBackward 6 = .ok (.isub, 1) := by decide +kernel
theorem dX4_passBackward_7 : decode cX4_passBackward 7 = .ok (.invokevirtual 24, 3) := by decide +kernel
theorem dX4_passBackward_10 : decode cX4_passBackward 10 = .ok (.lstore_n 1, 1) := by decide +kernel
theorem dX4_passBackward_11 : decode cX4_passBackward 11 = .ok (.lload_n 1, 1) := by decide +kernel
theorem dX4_passBackward_12 : decode cX4_passBackward 12 = .ok (.ldc2_w 19, 3) := by decide +kernel
theorem dX4_passBackward_15 : decode cX4_passBackward 15 = .ok (.lcmp, 1) := by decide +kernel
theorem dX4_passBackward_16 : decode cX4_passBackward 16 = .ok (.ifCond .eq 13, 3) := by decide +kernel
theorem dX4_passBackward_19 : decode cX4_passBackward 19 = .ok (.aload_n 0, 1) := by decide +kernel
theorem dX4_passBackward_20 : decode cX4_passBackward 20 = .ok (.dup, 1) := by decide +kernel
theorem dX4_passBackward_21 : decode cX4_passBackward 21 = .ok (.getfield 21, 3) := by decide +kernel
theorem dX4_passBackward_24 : decode cX4_passBackward 24 = .ok (.iconst 1, 1) := by decide +kernel
theorem dX4_passBackward_25 : decode cX4_passBackward 25 = .ok (.isub, 1) := by decide +kernel
theorem dX4_passBackward_26 : decode cX4_passBackward 26 = .ok (.putfield 21, 3) := by decide +kernel
theorem dX4_passBackward_29 : decode cX4_passBackward 29 = .ok (.lload_n 1, 1) := by decide +kernel
theorem dX4_passBackward_30 : decode cX4_passBackward 30 = .ok (.lreturn, 1) := by decide +kernel
set_option maxRecDepth 100000 in
theorem ggX4_digestOnto_X4_itemAt : GoodIn wsX4_digestOnto wsX4_itemAt := goodIn_r _ [8, 2, 9, 10, 11, 12, 13] rfl (by decide +kernel)
set_option maxRecDepth 100000 in
theorem gX4_digestOnto_X4_itemAt : GoodIn wsX4_digestOnto (wsV RX4 24 RX4 yX4_itemAt wsX4_itemAt) := goodIn_app (goodIn_r _ [4, 5, 6, 7] rfl (by decide +kernel)) ggX4_digestOnto_X4_itemAt
theorem dX4_digestOnto_0 : decode cX4_digestOnto 0 = .ok (.ldc2_w 28, 3) := by decide +kernel
theorem dX4_digestOnto_3 : decode cX4_digestOnto 3 = .ok (.ldc2_w 28, 3) := by decide +kernel
theorem dX4_digestOnto_6 : decode cX4_digestOnto 6 = .ok (.lload_n 1, 1) := by decide +kernel
theorem dX4_digestOnto_7 : decode cX4_digestOnto 7 = .ok (.lmul, 1) := by decide +kernel
theorem dX4_digestOnto_8 : decode cX4_digestOnto 8 = .ok (.aload_n 0, 1) := by decide +kernel
theorem dX4_digestOnto_9 : decode cX4_digestOnto 9 = .ok (.getfield 15, 3) := by decide +kernel
theorem dX4_digestOnto_12 : decode cX4_digestOnto 12 = .ok (.i2l, 1) := by decide +kernel
theorem dX4_digestOnto_13 : decode cX4_digestOnto 13 = .ok (.ladd, 1) := by decide +kernel
theorem dX4_digestOnto_14 : decode cX4_digestOnto 14 = .ok (.lmul, 1) := by decide +kernel
theorem dX4_digestOnto_15 : decode cX4_digestOnto 15 = .ok (.aload_n 0, 1) := by decide +kernel
theorem dX4_digestOnto_16 : decode cX4_digestOnto 16 = .ok (.getfield 21, 3) := by decide +kernel
theorem dX4_digestOnto_19 : decode cX4_digestOnto 19 = .ok (.i2l, 1) := by decide +kernel
theorem dX4_digestOnto_20 : decode cX4_digestOnto 20 = .ok (.ladd, 1) := by decide +kernel
theorem dX4_digestOnto_21 : decode cX4_digestOnto 21 = .ok (.lstore_n 3, 1) := by decide +kernel
theorem dX4_digestOnto_22 : decode cX4_digestOnto 22 = .ok (.iconst 0, 1) := by decide +kernel
theorem dX4_digestOnto_23 : decode cX4_digestOnto 23 = .ok (.istore 5, 2) := by decide +kernel
theorem dX4_digestOnto_25 : decode cX4_digestOnto 25 = .ok (.iload 5, 2) := by decide +kernel
theorem dX4_digestOnto_27 : decode cX4_digestOnto 27 = .ok (.aload_n 0, 1) := by decide +kernel
theorem dX4_digestOnto_28 : decode cX4_digestOnto 28 = .ok (.getfield 15, 3) := by decide +kernel
theorem dX4_digestOnto_31 : decode cX4_digestOnto 31 = .ok (.if_icmp .ge 22, 3) := by decide +kernel
theorem dX4_digestOnto_34 : decode cX4_digestOnto 34 = .ok (.ldc2_w 28, 3) := by decide +kernel
theorem dX4_digestOnto_37 : decode cX4_digestOnto 37 = .ok (.lload_n 3, 1) := by decide +kernel
theorem dX4_digestOnto_38 : decode cX4_digestOnto 38 = .ok (.lmul, 1) := by decide +kernel
theorem dX4_digestOnto_39 : decode cX4_digestOnto 39 = .ok (.aload_n 0, 1) := by decide +kernel
theorem dX4_digestOnto_40 : decode cX4_digestOnto 40 = .ok (.iload 5, 2) := by decide +kernel
theorem dX4_digestOnto_42 : decode cX4_digestOnto 42 = .ok (.invokevirtual 24, 3) := by decide +kernel
theorem dX4_digestOnto_45 : decode cX4_digestOnto 45 = .ok (.ladd, 1) := by decide +kernel
theorem dX4_digestOnto_46 : decode cX4_digestOnto 46 = .ok (.lstore_n 3, 1) := by decide +kernel
theorem dX4_digestOnto_47 : decode cX4_digestOnto 47 = .ok (.iinc 5 1, 3) := by decide +kernel
theorem dX4_digestOnto_50 : decode cX4_digestOnto 50 = .ok (.goto (-25), 3) := by decide +kernel
theorem dX4_digestOnto_53 : decode cX4_digestOnto 53 = .ok (.lload_n 3, 1) := by decide +kernel
theorem dX4_digestOnto_54 : decode cX4_digestOnto 54 = .ok (.lreturn, 1) := by decide +kernel
