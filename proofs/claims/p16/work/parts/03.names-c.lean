theorem dX5_init_0 : decode cX5_init 0 = .ok (.aload_n 0, 1) := by decide +kernel
theorem dX5_init_1 : decode cX5_init 1 = .ok (.invokespecial 3, 3) := by decide +kernel
theorem dX5_init_4 : decode cX5_init 4 = .ok (.aload_n 0, 1) := by decide +kernel
theorem dX5_init_5 : decode cX5_init 5 = .ok (.sipush 2000, 3) := by decide +kernel
theorem dX5_init_8 : decode cX5_init 8 = .ok (.newarray .byte, 2) := by decide +kernel
theorem dX5_init_10 : decode cX5_init 10 = .ok (.putfield 9, 3) := by decide +kernel
theorem dX5_init_13 : decode cX5_init 13 = .ok (.aload_n 0, 1) := by decide +kernel
theorem dX5_init_14 : decode cX5_init 14 = .ok (.iconst (-1), 1) := by decide +kernel
theorem dX5_init_15 : decode cX5_init 15 = .ok (.putfield 15, 3) := by decide +kernel
theorem dX5_init_18 : decode cX5_init 18 = .ok (.return_, 1) := by decide +kernel
theorem dX5_takeBytes_0 : decode cX5_takeBytes 0 = .ok (.aload_n 0, 1) := by decide +kernel
theorem dX5_takeBytes_1 : decode cX5_takeBytes 1 = .ok (.getfield 19, 3) := by decide +kernel
theorem dX5_takeBytes_4 : decode cX5_takeBytes 4 = .ok (.ifCond .lt 17, 3) := by decide +kernel
theorem dX5_takeBytes_7 : decode cX5_takeBytes 7 = .ok (.aload_n 0, 1) := by decide +kernel
theorem dX5_takeBytes_8 : decode cX5_takeBytes 8 = .ok (.getfield 19, 3) := by decide +kernel
theorem dX5_takeBytes_11 : decode cX5_takeBytes 11 = .ok (.iload_n 3, 1) := by decide +kernel
theorem dX5_takeBytes_12 : decode cX5_takeBytes 12 = .ok (.iadd, 1) := by decide +kernel
theorem dX5_takeBytes_13 : decode cX5_takeBytes 13 = .ok (.aload_n 0, 1) := by decide +kernel
theorem dX5_takeBytes_14 : decode cX5_takeBytes 14 = .ok (.getfield 9, 3) := by decide +kernel
theorem dX5_takeBytes_17 : decode cX5_takeBytes 17 = .ok (.arraylength, 1) := by decide +kernel
theorem dX5_takeBytes_18 : decode cX5_takeBytes 18 = .ok (.if_icmp .le 5, 3) := by decide +kernel
theorem dX5_takeBytes_21 : decode cX5_takeBytes 21 = .ok (.iconst 0, 1) := by decide +kernel
theorem dX5_takeBytes_22 : decode cX5_takeBytes 22 = .ok (.ireturn, 1) := by decide +kernel
theorem dX5_takeBytes_23 : decode cX5_takeBytes 23 = .ok (.iconst 0, 1) := by decide +kernel
theorem dX5_takeBytes_24 : decode cX5_takeBytes 24 = .ok (.istore 4, 2) := by decide +kernel
theorem dX5_takeBytes_26 : decode cX5_takeBytes 26 = .ok (.iload 4, 2) := by decide +kernel
theorem dX5_takeBytes_28 : decode cX5_takeBytes 28 = .ok (.iload_n 3, 1) := by decide +kernel
theorem dX5_takeBytes_29 : decode cX5_takeBytes 29 = .ok (.if_icmp .ge 49, 3) := by decide +kernel
theorem dX5_takeBytes_32 : decode cX5_takeBytes 32 = .ok (.aload_n 0, 1) := by decide +kernel
theorem dX5_takeBytes_33 : decode cX5_takeBytes 33 = .ok (.getfield 19, 3) := by decide +kernel
theorem dX5_takeBytes_36 : decode cX5_takeBytes 36 = .ok (.aload_n 0, 1) := by decide +kernel
theorem dX5_takeBytes_37 : decode cX5_takeBytes 37 = .ok (.getfield 9, 3) := by decide +kernel
theorem dX5_takeBytes_40 : decode cX5_takeBytes 40 = .ok (.arraylength, 1) := by decide +kernel
theorem dX5_takeBytes_41 : decode cX5_takeBytes 41 = .ok (.if_icmp .ge 37, 3) := by decide +kernel
theorem dX5_takeBytes_44 : decode cX5_takeBytes 44 = .ok (.aload_n 0, 1) := by decide +kernel
theorem dX5_takeBytes_45 : decode cX5_takeBytes 45 = .ok (.getfield 9, 3) := by decide +kernel
theorem dX5_takeBytes_48 : decode cX5_takeBytes 48 = .ok (.aload_n 0, 1) := by decide +kernel
theorem dX5_takeBytes_49 : decode cX5_takeBytes 49 = .ok (.getfield 19, 3) := by decide +kernel
theorem dX5_takeBytes_52 : decode cX5_takeBytes 52 = .ok (.lload_n 1, 1) := by decide +kernel
theorem dX5_takeBytes_53 : decode cX5_takeBytes 53 = .ok (.bipush 8, 2) := by decide +kernel
theorem dX5_takeBytes_55 : decode cX5_takeBytes 55 = .ok (.iload 4, 2) := by decide +kernel
theorem dX5_takeBytes_57 : decode cX5_takeBytes 57 = .ok (.imul, 1) := by decide +kernel
theorem dX5_takeBytes_58 : decode cX5_takeBytes 58 = .ok (.lshr, 1) := by decide +kernel
theorem dX5_takeBytes_59 : decode cX5_takeBytes 59 = .ok (.l2i, 1) := by decide +kernel
theorem dX5_takeBytes_60 : decode cX5_takeBytes 60 = .ok (.i2b, 1) := by decide +kernel
theorem dX5_takeBytes_61 : decode cX5_takeBytes 61 = .ok (.bastore, 1) := by decide +kernel
theorem dX5_takeBytes_62 : decode cX5_takeBytes 62 = .ok (.aload_n 0, 1) := by decide +kernel
theorem dX5_takeBytes_63 : decode cX5_takeBytes 63 = .ok (.dup, 1) := by decide +kernel
theorem dX5_takeBytes_64 : decode cX5_takeBytes 64 = .ok (.getfield 19, 3) := by decide +kernel
theorem dX5_takeBytes_67 : decode cX5_takeBytes 67 = .ok (.iconst 1, 1) := by decide +kernel
theorem dX5_takeBytes_68 : decode cX5_takeBytes 68 = .ok (.iadd, 1) := by decide +kernel
theorem dX5_takeBytes_69 : decode cX5_takeBytes 69 = .ok (.putfield 19, 3) := by decide +kernel
theorem dX5_takeBytes_72 : decode cX5_takeBytes 72 = .ok (.iinc 4 1, 3) := by decide +kernel
theorem dX5_takeBytes_75 : decode cX5_takeBytes 75 = .ok (.goto (-49), 3) := by decide +kernel
theorem dX5_takeBytes_78 : decode cX5_takeBytes 78 = .ok (.iconst 1, 1) := by decide +kernel
theorem dX5_takeBytes_79 : decode cX5_takeBytes 79 = .ok (.ireturn, 1) := by decide +kernel
theorem dX5_isFaulty_0 : decode cX5_isFaulty 0 = .ok (.aload_n 0, 1) := by decide +kernel
theorem dX5_isFaulty_1 : decode cX5_isFaulty 1 = .ok (.getfield 15, 3) := by decide +kernel
theorem dX5_isFaulty_4 : decode cX5_isFaulty 4 = .ok (.iconst (-1), 1) := by decide +kernel
theorem dX5_isFaulty_5 : decode cX5_isFaulty 5 = .ok (.if_icmp .eq 7, 3) := by decide +kernel
theorem dX5_isFaulty_8 : decode cX5_isFaulty 8 = .ok (.iconst 1, 1) := by decide +kernel
theorem dX5_isFaulty_9 : decode cX5_isFaulty 9 = .ok (.goto 4, 3) := by decide +kernel
theorem dX5_isFaulty_12 : decode cX5_isFaulty 12 = .ok (.iconst 0, 1) := by decide +kernel
theorem dX5_isFaulty_13 : decode cX5_isFaulty 13 = .ok (.ireturn, 1) := by decide +kernel
set_option maxRecDepth 100000 in
theorem ggX5_readLines_X5_readLine : GoodIn wsX5_readLines wsX5_readLine := goodIn_td 40 (goodIn_r _ [8, 1, 9, 10, 11, 12, 13, 14, 15, 16, 17, 18, 19, 7, 20, 21, 22, 23, 24, 25, 26, 3, 27, 28, 29, 30, 31, 32, 33, 34, 2, 35, 36, 37, 38, 39, 40, 41, 42, 43] rfl (by decide +kernel)) (goodIn_r _ [44, 45, 46, 47, 48, 49, 50, 51, 52, 53, 54, 74, 75, 76, 77, 78, 79, 80] rfl (by decide +kernel))
set_option maxRecDepth 100000 in
theorem gX5_readLines_X5_readLine : GoodIn wsX5_readLines (wsV RX5 25 RX5 yX5_readLine wsX5_readLine) := goodIn_app (goodIn_r _ [4, 5, 6, 7] rfl (by decide +kernel)) ggX5_readLines_X5_readLine
set_option maxRecDepth 100000 in
theorem ggX5_readLines_X5_isFaulty : GoodIn wsX5_readLines wsX5_isFaulty := goodIn_r _ [38, 2, 74, 75, 76, 77, 78, 79, 80] rfl (by decide +kernel)
set_option maxRecDepth 100000 in
theorem gX5_readLines_X5_isFaulty : GoodIn wsX5_readLines (wsV RX5 28 RX5 yX5_isFaulty wsX5_isFaulty) := goodIn_app (goodIn_r _ [35, 36, 37, 7] rfl (by decide +kernel)) ggX5_readLines_X5_isFaulty
set_option maxRecDepth 100000 in
theorem ggX5_readLines_X5_keepLine : GoodIn wsX5_readLines wsX5_keepLine := goodIn_r _ [58, 11, 10, 13, 59, 60, 61, 62, 63, 64, 65, 66, 67, 68, 69, 70, 71, 52, 72, 73, 74, 75, 76, 77, 78, 79, 80, 81] rfl (by decide +kernel)
set_option maxRecDepth 100000 in
theorem gX5_readLines_X5_keepLine : GoodIn wsX5_readLines (wsV RX5 32 RX5 yX5_keepLine wsX5_keepLine) := goodIn_app (goodIn_r _ [55, 56, 57, 7] rfl (by decide +kernel)) ggX5_readLines_X5_keepLine
set_option maxRecDepth 100000 in
theorem ggX5_readLines_X5_faultAt : GoodIn wsX5_readLines wsX5_faultAt := goodIn_r _ [34, 2, 35, 36, 37, 7, 38, 74, 75, 76, 77, 78, 79, 80] rfl (by decide +kernel)
set_option maxRecDepth 100000 in
theorem gX5_readLines_X5_faultAt : GoodIn wsX5_readLines (wsV RX5 36 RX5 yX5_faultAt wsX5_faultAt) := goodIn_app (goodIn_r _ [31, 32, 33, 7] rfl (by decide +kernel)) ggX5_readLines_X5_faultAt
theorem dX5_readLines_0 : decode cX5_readLines 0 = .ok (.aload_n 0, 1) := by decide +kernel
theorem dX5_readLines_1 : decode cX5_readLines 1 = .ok (.iconst 0, 1) := by decide +kernel
theorem dX5_readLines_2 : decode cX5_readLines 2 = .ok (.putfield 22, 3) := by decide +kernel
theorem dX5_readLines_5 : decode cX5_readLines 5 = .ok (.aload_n 0, 1) := by decide +kernel
theorem dX5_readLines_6 : decode cX5_readLines 6 = .ok (.iconst (-1), 1) := by decide +kernel
theorem dX5_readLines_7 : decode cX5_readLines 7 = .ok (.putfield 15, 3) := by decide +kernel
theorem dX5_readLines_10 : decode cX5_readLines 10 = .ok (.iconst 0, 1) := by decide +kernel
theorem dX5_readLines_11 : decode cX5_readLines 11 = .ok (.istore_n 3, 1) := by decide +kernel
theorem dX5_readLines_12 : decode cX5_readLines 12 = .ok (.iload_n 3, 1) := by decide +kernel
theorem dX5_readLines_13 : decode cX5_readLines 13 = .ok (.sipush 200, 3) := by decide +kernel
theorem dX5_readLines_16 : decode cX5_readLines 16 = .ok (.if_icmp .ge 44, 3) := by decide +kernel
theorem dX5_readLines_19 : decode cX5_readLines 19 = .ok (.aload_n 0, 1) := by decide +kernel
theorem dX5_readLines_20 : decode cX5_readLines 20 = .ok (.getfield 22, 3) := by decide +kernel
theorem dX5_readLines_23 : decode cX5_readLines 23 = .ok (.aload_n 0, 1) := by decide +kernel
theorem dX5_readLines_24 : decode cX5_readLines 24 = .ok (.getfield 19, 3) := by decide +kernel
theorem dX5_readLines_27 : decode cX5_readLines 27 = .ok (.if_icmp .lt 5, 3) := by decide +kernel
theorem dX5_readLines_30 : decode cX5_readLines 30 = .ok (.iload_n 3, 1) := by decide +kernel
theorem dX5_readLines_31 : decode cX5_readLines 31 = .ok (.ireturn, 1) := by decide +kernel
theorem dX5_readLines_32 : decode cX5_readLines 32 = .ok (.aload_n 0, 1) := by decide +kernel
theorem dX5_readLines_33 : decode cX5_readLines 33 = .ok (.invokevirtual 25, 3) := by decide +kernel
theorem dX5_readLines_36 : decode cX5_readLines 36 = .ok (.aload_n 0, 1) := by decide +kernel
theorem dX5_readLines_37 : decode cX5_readLines 37 = .ok (.invokevirtual 28, 3) := by decide +kernel
theorem dX5_readLines_40 : decode cX5_readLines 40 = .ok (.ifCond .eq 5, 3) := by decide +kernel
theorem dX5_readLines_43 : decode cX5_readLines 43 = .ok (.iload_n 3, 1) := by decide +kernel
theorem dX5_readLines_44 : decode cX5_readLines 44 = .ok (.ireturn, 1) := by decide +kernel
theorem dX5_readLines_45 : decode cX5_readLines 45 = .ok (.iload_n 2, 1) := by decide +kernel
theorem dX5_readLines_46 : decode cX5_readLines 46 = .ok (.ifCond .eq 8, 3) := by decide +kernel
theorem dX5_readLines_49 : decode cX5_readLines 49 = .ok (.aload_n 0, 1) := by decide +kernel
theorem dX5_readLines_50 : decode cX5_readLines 50 = .ok (.aload_n 1, 1) := by decide +kernel
theorem dX5_readLines_51 : decode cX5_readLines 51 = .ok (.invokevirtual 32, 3) := by decide +kernel
theorem dX5_readLines_54 : decode cX5_readLines 54 = .ok (.iinc 3 1, 3) := by decide +kernel
theorem dX5_readLines_57 : decode cX5_readLines 57 = .ok (.goto (-45), 3) := by decide +kernel
theorem dX5_readLines_60 : decode cX5_readLines 60 = .ok (.aload_n 0, 1) := by decide +kernel
theorem dX5_readLines_61 : decode cX5_readLines 61 = .ok (.getfield 22, 3) := by decide +kernel
theorem dX5_readLines_64 : decode cX5_readLines 64 = .ok (.aload_n 0, 1) := by decide +kernel
theorem dX5_readLines_65 : decode cX5_readLines 65 = .ok (.getfield 19, 3) := by decide +kernel
theorem dX5_readLines_68 : decode cX5_readLines 68 = .ok (.if_icmp .ge 11, 3) := by decide +kernel
theorem dX5_readLines_71 : decode cX5_readLines 71 = .ok (.aload_n 0, 1) := by decide +kernel
theorem dX5_readLines_72 : decode cX5_readLines 72 = .ok (.aload_n 0, 1) := by decide +kernel
theorem dX5_readLines_73 : decode cX5_readLines 73 = .ok (.getfield 22, 3) := by decide +kernel
theorem dX5_readLines_76 : decode cX5_readLines 76 = .ok (.invokevirtual 36, 3) := by decide +kernel
theorem dX5_readLines_79 : decode cX5_readLines 79 = .ok (.sipush 200, 3) := by decide +kernel
theorem dX5_readLines_82 : decode cX5_readLines 82 = .ok (.ireturn, 1) := by decide +kernel
set_option maxRecDepth 100000 in
theorem ggX5_keepLine_X3_keepWhole : GoodIn wsX5_keepLine wsX3_keepWhole := goodIn_r _ [8, 9, 10, 11, 12, 7, 13, 14, 15, 16, 17, 18, 27] rfl (by decide +kernel)
set_option maxRecDepth 100000 in
theorem gX5_keepLine_X3_keepWhole : GoodIn wsX5_keepLine (wsV RX5 51 RX3 yX3_keepWhole wsX3_keepWhole) := goodIn_app (goodIn_r _ [4, 5, 6, 7] rfl (by decide +kernel)) ggX5_keepLine_X3_keepWhole
set_option maxRecDepth 100000 in
theorem ggX5_keepLine_X3_keepHalf : GoodIn wsX5_keepLine wsX3_keepHalf := goodIn_r _ [13, 14, 15, 16, 17, 18, 27] rfl (by decide +kernel)
set_option maxRecDepth 100000 in
theorem gX5_keepLine_X3_keepHalf : GoodIn wsX5_keepLine (wsV RX5 57 RX3 yX3_keepHalf wsX3_keepHalf) := goodIn_app (goodIn_r _ [19, 11, 12, 7] rfl (by decide +kernel)) ggX5_keepLine_X3_keepHalf
theorem dX5_keepLine_0 : decode cX5_keepLine 0 = .ok (.aload_n 0, 1) := by decide +kernel
theorem dX5_keepLine_1 : decode cX5_keepLine 1 = .ok (.getfield 40, 3) := by decide +kernel
theorem dX5_keepLine_4 : decode cX5_keepLine 4 = .ok (.ifCond .eq 18, 3) := by decide +kernel
theorem dX5_keepLine_7 : decode cX5_keepLine 7 = .ok (.aload_n 1, 1) := by decide +kernel
theorem dX5_keepLine_8 : decode cX5_keepLine 8 = .ok (.aload_n 0, 1) := by decide +kernel
theorem dX5_keepLine_9 : decode cX5_keepLine 9 = .ok (.getfield 44, 3) := by decide +kernel
theorem dX5_keepLine_12 : decode cX5_keepLine 12 = .ok (.aload_n 0, 1) := by decide +kernel
theorem dX5_keepLine_13 : decode cX5_keepLine 13 = .ok (.getfield 47, 3) := by decide +kernel
theorem dX5_keepLine_16 : decode cX5_keepLine 16 = .ok (.invokevirtual 51, 3) := by decide +kernel
theorem dX5_keepLine_19 : decode cX5_keepLine 19 = .ok (.goto 16, 3) := by decide +kernel
theorem dX5_keepLine_22 : decode cX5_keepLine 22 = .ok (.aload_n 1, 1) := by decide +kernel
theorem dX5_keepLine_23 : decode cX5_keepLine 23 = .ok (.aload_n 0, 1) := by decide +kernel
theorem dX5_keepLine_24 : decode cX5_keepLine 24 = .ok (.getfield 44, 3) := by decide +kernel
theorem dX5_keepLine_27 : decode cX5_keepLine 27 = .ok (.aload_n 0, 1) := by decide +kernel
theorem dX5_keepLine_28 : decode cX5_keepLine 28 = .ok (.getfield 47, 3) := by decide +kernel
theorem dX5_keepLine_31 : decode cX5_keepLine 31 = .ok (.l2i, 1) := by decide +kernel
theorem dX5_keepLine_32 : decode cX5_keepLine 32 = .ok (.invokevirtual 57, 3) := by decide +kernel
theorem dX5_keepLine_35 : decode cX5_keepLine 35 = .ok (.return_, 1) := by decide +kernel
set_option maxRecDepth 100000 in
theorem ggX5_readLine_X5_readNumber : GoodIn wsX5_readLine wsX5_readNumber := goodIn_r _ [14, 1, 15, 16, 17, 18, 19, 13, 20, 21, 22, 23, 24, 25, 26, 27, 28, 29, 30, 31, 32, 33, 34, 51, 52, 53, 54, 55, 56, 57] rfl (by decide +kernel)
set_option maxRecDepth 100000 in
theorem gX5_readLine_X5_readNumber : GoodIn wsX5_readLine (wsV RX5 63 RX5 yX5_readNumber wsX5_readNumber) := goodIn_app (goodIn_r _ [10, 11, 12, 13] rfl (by decide +kernel)) ggX5_readLine_X5_readNumber
set_option maxRecDepth 100000 in
theorem ggX5_readLine_X5_expect : GoodIn wsX5_readLine wsX5_expect := goodIn_r _ [38, 1, 39, 40, 41, 13, 42, 17, 18, 19, 20, 21, 22, 26, 27, 28, 29, 30, 31, 32, 33, 34, 51, 52, 53, 54, 55, 56, 57] rfl (by decide +kernel)
set_option maxRecDepth 100000 in
theorem gX5_readLine_X5_expect : GoodIn wsX5_readLine (wsV RX5 67 RX5 yX5_expect wsX5_expect) := goodIn_app (goodIn_r _ [35, 36, 37, 13] rfl (by decide +kernel)) ggX5_readLine_X5_expect
set_option maxRecDepth 100000 in
theorem ggX5_readLine_X5_skipIf : GoodIn wsX5_readLine wsX5_skipIf := goodIn_r _ [42, 1, 17, 18, 19, 13, 20, 21, 22, 51, 52, 53, 54, 55, 56, 57] rfl (by decide +kernel)
set_option maxRecDepth 100000 in
theorem gX5_readLine_X5_skipIf : GoodIn wsX5_readLine (wsV RX5 71 RX5 yX5_skipIf wsX5_skipIf) := goodIn_app (goodIn_r _ [39, 40, 41, 13] rfl (by decide +kernel)) ggX5_readLine_X5_skipIf
set_option maxRecDepth 100000 in
theorem ggX5_readLine_X5_faultAt : GoodIn wsX5_readLine wsX5_faultAt := goodIn_r _ [29, 30, 31, 32, 33, 13, 34, 51, 52, 53, 54, 55, 56, 57] rfl (by decide +kernel)
set_option maxRecDepth 100000 in
theorem gX5_readLine_X5_faultAt : GoodIn wsX5_readLine (wsV RX5 36 RX5 yX5_faultAt wsX5_faultAt) := goodIn_app (goodIn_r _ [26, 27, 28, 13] rfl (by decide +kernel)) ggX5_readLine_X5_faultAt
set_option maxRecDepth 100000 in
theorem ggX5_readLine_X5_readSign : GoodIn wsX5_readLine wsX5_readSign := goodIn_r _ [46, 39, 40, 41, 13, 42, 1, 17, 18, 19, 20, 21, 22, 35, 36, 37, 38, 26, 27, 28, 29, 30, 31, 32, 33, 34, 51, 52, 53, 54, 55, 56, 57] rfl (by decide +kernel)
set_option maxRecDepth 100000 in
theorem gX5_readLine_X5_readSign : GoodIn wsX5_readLine (wsV RX5 75 RX5 yX5_readSign wsX5_readSign) := goodIn_app (goodIn_r _ [43, 44, 45, 13] rfl (by decide +kernel)) ggX5_readLine_X5_readSign
set_option maxRecDepth 100000 in
theorem ggX5_readLine_X7_wordOf : GoodIn wsX5_readLine wsX7_wordOf := goodIn_r _ [49, 50] rfl (by decide +kernel)
theorem gX5_readLine_X7_wordOf_n81 : GoodIn wsX5_readLine (wsX7_wordOf) := ggX5_readLine_X7_wordOf
theorem dX5_readLine_0 : decode cX5_readLine 0 = .ok (.aload_n 0, 1) := by decide +kernel
theorem dX5_readLine_1 : decode cX5_readLine 1 = .ok (.getfield 22, 3) := by decide +kernel
theorem dX5_readLine_4 : decode cX5_readLine 4 = .ok (.istore_n 1, 1) := by decide +kernel
theorem dX5_readLine_5 : decode cX5_readLine 5 = .ok (.aload_n 0, 1) := by decide +kernel
theorem dX5_readLine_6 : decode cX5_readLine 6 = .ok (.aload_n 0, 1) := by decide +kernel
theorem dX5_readLine_7 : decode cX5_readLine 7 = .ok (.iconst 4, 1) := by decide +kernel
theorem dX5_readLine_8 : decode cX5_readLine 8 = .ok (.ldc2_w 61, 3) := by decide +kernel
theorem dX5_readLine_11 : decode cX5_readLine 11 = .ok (.invokevirtual 63, 3) := by decide +kernel
theorem dX5_readLine_14 : decode cX5_readLine 14 = .ok (.l2i, 1) := by decide +kernel
theorem dX5_readLine_15 : decode cX5_readLine 15 = .ok (.putfield 44, 3) := by decide +kernel
theorem dX5_readLine_18 : decode cX5_readLine 18 = .ok (.aload_n 0, 1) := by decide +kernel
theorem dX5_readLine_19 : decode cX5_readLine 19 = .ok (.bipush 32, 2) := by decide +kernel
theorem dX5_readLine_21 : decode cX5_readLine 21 = .ok (.invokevirtual 67, 3) := by decide +kernel
theorem dX5_readLine_24 : decode cX5_readLine 24 = .ok (.aload_n 0, 1) := by decide +kernel
theorem dX5_readLine_25 : decode cX5_readLine 25 = .ok (.bipush 61, 2) := by decide +kernel
theorem dX5_readLine_27 : decode cX5_readLine 27 = .ok (.invokevirtual 71, 3) := by decide +kernel
theorem dX5_readLine_30 : decode cX5_readLine 30 = .ok (.istore_n 2, 1) := by decide +kernel
theorem dX5_readLine_31 : decode cX5_readLine 31 = .ok (.aload_n 0, 1) := by decide +kernel
theorem dX5_readLine_32 : decode cX5_readLine 32 = .ok (.iload_n 2, 1) := by decide +kernel
theorem dX5_readLine_33 : decode cX5_readLine 33 = .ok (.ifCond .eq 16, 3) := by decide +kernel
theorem dX5_readLine_36 : decode cX5_readLine 36 = .ok (.aload_n 0, 1) := by decide +kernel
theorem dX5_readLine_37 : decode cX5_readLine 37 = .ok (.bipush 61, 2) := by decide +kernel
theorem dX5_readLine_39 : decode cX5_readLine 39 = .ok (.invokevirtual 71, 3) := by decide +kernel
theorem dX5_readLine_42 : decode cX5_readLine 42 = .ok (.ifCond .eq 7, 3) := by decide +kernel
theorem dX5_readLine_45 : decode cX5_readLine 45 = .ok (.iconst 1, 1) := by decide +kernel
theorem dX5_readLine_46 : decode cX5_readLine 46 = .ok (.goto 4, 3) := by decide +kernel
theorem dX5_readLine_49 : decode cX5_readLine 49 = .ok (.iconst 0, 1) := by decide +kernel
theorem dX5_readLine_50 : decode cX5_readLine 50 = .ok (.putfield 40, 3) := by decide +kernel
theorem dX5_readLine_53 : decode cX5_readLine 53 = .ok (.aload_n 0, 1) := by decide +kernel
theorem dX5_readLine_54 : decode cX5_readLine 54 = .ok (.getfield 40, 3) := by decide +kernel
theorem dX5_readLine_57 : decode cX5_readLine 57 = .ok (.ifCond .eq 17, 3) := by decide +kernel
theorem dX5_readLine_60 : decode cX5_readLine 60 = .ok (.aload_n 0, 1) := by decide +kernel
theorem dX5_readLine_61 : decode cX5_readLine 61 = .ok (.getfield 44, 3) := by decide +kernel
theorem dX5_readLine_64 : decode cX5_readLine 64 = .ok (.iconst 1, 1) := by decide +kernel
theorem dX5_readLine_65 : decode cX5_readLine 65 = .ok (.iand, 1) := by decide +kernel
theorem dX5_readLine_66 : decode cX5_readLine 66 = .ok (.ifCond .eq 8, 3) := by decide +kernel
theorem dX5_readLine_69 : decode cX5_readLine 69 = .ok (.aload_n 0, 1) := by decide +kernel
theorem dX5_readLine_70 : decode cX5_readLine 70 = .ok (.iload_n 1, 1) := by decide +kernel
theorem dX5_readLine_71 : decode cX5_readLine 71 = .ok (.invokevirtual 36, 3) := by decide +kernel
theorem dX5_readLine_74 : decode cX5_readLine 74 = .ok (.aload_n 0, 1) := by decide +kernel
theorem dX5_readLine_75 : decode cX5_readLine 75 = .ok (.getfield 40, 3) := by decide +kernel
theorem dX5_readLine_78 : decode cX5_readLine 78 = .ok (.ifCond .eq 26, 3) := by decide +kernel
theorem dX5_readLine_81 : decode cX5_readLine 81 = .ok (.aload_n 0, 1) := by decide +kernel
theorem dX5_readLine_82 : decode cX5_readLine 82 = .ok (.aload_n 0, 1) := by decide +kernel
theorem dX5_readLine_83 : decode cX5_readLine 83 = .ok (.invokevirtual 75, 3) := by decide +kernel
theorem dX5_readLine_86 : decode cX5_readLine 86 = .ok (.aload_n 0, 1) := by decide +kernel
theorem dX5_readLine_87 : decode cX5_readLine 87 = .ok (.bipush 11, 2) := by decide +kernel
theorem dX5_readLine_89 : decode cX5_readLine 89 = .ok (.ldc2_w 79, 3) := by decide +kernel
theorem dX5_readLine_92 : decode cX5_readLine 92 = .ok (.invokevirtual 63, 3) := by decide +kernel
theorem dX5_readLine_95 : decode cX5_readLine 95 = .ok (.invokestatic 81, 3) := by decide +kernel
theorem dX5_readLine_98 : decode cX5_readLine 98 = .ok (.putfield 47, 3) := by decide +kernel
theorem dX5_readLine_101 : decode cX5_readLine 101 = .ok (.goto 67, 3) := by decide +kernel
theorem dX5_readLine_104 : decode cX5_readLine 104 = .ok (.iload_n 2, 1) := by decide +kernel
theorem dX5_readLine_105 : decode cX5_readLine 105 = .ok (.ifCond .eq 28, 3) := by decide +kernel
theorem dX5_readLine_108 : decode cX5_readLine 108 = .ok (.aload_n 0, 1) := by decide +kernel
theorem dX5_readLine_109 : decode cX5_readLine 109 = .ok (.aload_n 0, 1) := by decide +kernel
theorem dX5_readLine_110 : decode cX5_readLine 110 = .ok (.invokevirtual 75, 3) := by decide +kernel
theorem dX5_readLine_113 : decode cX5_readLine 113 = .ok (.bipush 17, 2) := by decide +kernel
theorem dX5_readLine_115 : decode cX5_readLine 115 = .ok (.ishl, 1) := by decide +kernel
theorem dX5_readLine_116 : decode cX5_readLine 116 = .ok (.i2l, 1) := by decide +kernel
theorem dX5_readLine_117 : decode cX5_readLine 117 = .ok (.aload_n 0, 1) := by decide +kernel
theorem dX5_readLine_118 : decode cX5_readLine 118 = .ok (.bipush 6, 2) := by decide +kernel
theorem dX5_readLine_120 : decode cX5_readLine 120 = .ok (.ldc2_w 84, 3) := by decide +kernel
theorem dX5_readLine_123 : decode cX5_readLine 123 = .ok (.invokevirtual 63, 3) := by decide +kernel
theorem dX5_readLine_126 : decode cX5_readLine 126 = .ok (.lor, 1) := by decide +kernel
theorem dX5_readLine_127 : decode cX5_readLine 127 = .ok (.putfield 47, 3) := by decide +kernel
theorem dX5_readLine_130 : decode cX5_readLine 130 = .ok (.goto 38, 3) := by decide +kernel
theorem dX5_readLine_133 : decode cX5_readLine 133 = .ok (.aload_n 0, 1) := by decide +kernel
theorem dX5_readLine_134 : decode cX5_readLine 134 = .ok (.iconst 2, 1) := by decide +kernel
theorem dX5_readLine_135 : decode cX5_readLine 135 = .ok (.ldc2_w 86, 3) := by decide +kernel
theorem dX5_readLine_138 : decode cX5_readLine 138 = .ok (.invokevirtual 63, 3) := by decide +kernel
theorem dX5_readLine_141 : decode cX5_readLine 141 = .ok (.bipush 12, 2) := by decide +kernel
theorem dX5_readLine_143 : decode cX5_readLine 143 = .ok (.lshl, 1) := by decide +kernel
theorem dX5_readLine_144 : decode cX5_readLine 144 = .ok (.lstore_n 3, 1) := by decide +kernel
theorem dX5_readLine_145 : decode cX5_readLine 145 = .ok (.aload_n 0, 1) := by decide +kernel
theorem dX5_readLine_146 : decode cX5_readLine 146 = .ok (.aload_n 0, 1) := by decide +kernel
theorem dX5_readLine_147 : decode cX5_readLine 147 = .ok (.invokevirtual 75, 3) := by decide +kernel
theorem dX5_readLine_150 : decode cX5_readLine 150 = .ok (.bipush 17, 2) := by decide +kernel
theorem dX5_readLine_152 : decode cX5_readLine 152 = .ok (.ishl, 1) := by decide +kernel
theorem dX5_readLine_153 : decode cX5_readLine 153 = .ok (.i2l, 1) := by decide +kernel
theorem dX5_readLine_154 : decode cX5_readLine 154 = .ok (.lload_n 3, 1) := by decide +kernel
theorem dX5_readLine_155 : decode cX5_readLine 155 = .ok (.lor, 1) := by decide +kernel
theorem dX5_readLine_156 : decode cX5_readLine 156 = .ok (.aload_n 0, 1) := by decide +kernel
theorem dX5_readLine_157 : decode cX5_readLine 157 = .ok (.iconst 4, 1) := by decide +kernel
theorem dX5_readLine_158 : decode cX5_readLine 158 = .ok (.ldc2_w 88, 3) := by decide +kernel
theorem dX5_readLine_161 : decode cX5_readLine 161 = .ok (.invokevirtual 63, 3) := by decide +kernel
theorem dX5_readLine_164 : decode cX5_readLine 164 = .ok (.lor, 1) := by decide +kernel
theorem dX5_readLine_165 : decode cX5_readLine 165 = .ok (.putfield 47, 3) := by decide +kernel
theorem dX5_readLine_168 : decode cX5_readLine 168 = .ok (.aload_n 0, 1) := by decide +kernel
theorem dX5_readLine_169 : decode cX5_readLine 169 = .ok (.bipush 10, 2) := by decide +kernel
theorem dX5_readLine_171 : decode cX5_readLine 171 = .ok (.invokevirtual 67, 3) := by decide +kernel
theorem dX5_readLine_174 : decode cX5_readLine 174 = .ok (.return_, 1) := by decide +kernel
set_option maxRecDepth 100000 in
theorem ggX5_readNumber_X5_byteHere : GoodIn wsX5_readNumber wsX5_byteHere := goodIn_r _ [8, 1, 9, 10, 23, 24, 25, 26, 27, 28, 29] rfl (by decide +kernel)
set_option maxRecDepth 100000 in
theorem gX5_readNumber_X5_byteHere : GoodIn wsX5_readNumber (wsV RX5 90 RX5 yX5_byteHere wsX5_byteHere) := goodIn_app (goodIn_r _ [4, 5, 6, 7] rfl (by decide +kernel)) ggX5_readNumber_X5_byteHere
set_option maxRecDepth 100000 in
theorem ggX5_readNumber_X5_isFigure : GoodIn wsX5_readNumber wsX5_isFigure := goodIn_r _ [13] rfl (by decide +kernel)
set_option maxRecDepth 100000 in
theorem gX5_readNumber_X5_isFigure : GoodIn wsX5_readNumber (va_wsS RX5 93 yX5_isFigure wsX5_isFigure) := goodIn_app (goodIn_r _ [11, 12, 7] rfl (by decide +kernel)) ggX5_readNumber_X5_isFigure
set_option maxRecDepth 100000 in
theorem ggX5_readNumber_X5_faultAt : GoodIn wsX5_readNumber wsX5_faultAt := goodIn_r _ [17, 18, 19, 20, 21, 7, 22, 23, 24, 25, 26, 27, 28, 29] rfl (by decide +kernel)
set_option maxRecDepth 100000 in
theorem gX5_readNumber_X5_faultAt : GoodIn wsX5_readNumber (wsV RX5 36 RX5 yX5_faultAt wsX5_faultAt) := goodIn_app (goodIn_r _ [14, 15, 16, 7] rfl (by decide +kernel)) ggX5_readNumber_X5_faultAt
theorem dX5_readNumber_0 : decode cX5_readNumber 0 = .ok (.aload_n 0, 1) := by decide +kernel
theorem dX5_readNumber_1 : decode cX5_readNumber 1 = .ok (.getfield 22, 3) := by decide +kernel
theorem dX5_readNumber_4 : decode cX5_readNumber 4 = .ok (.istore 4, 2) := by decide +kernel
theorem dX5_readNumber_6 : decode cX5_readNumber 6 = .ok (.lconst 0, 1) := by decide +kernel
theorem dX5_readNumber_7 : decode cX5_readNumber 7 = .ok (.lstore 5, 2) := by decide +kernel
theorem dX5_readNumber_9 : decode cX5_readNumber 9 = .ok (.iconst 0, 1) := by decide +kernel
theorem dX5_readNumber_10 : decode cX5_readNumber 10 = .ok (.istore 7, 2) := by decide +kernel
theorem dX5_readNumber_12 : decode cX5_readNumber 12 = .ok (.iload 7, 2) := by decide +kernel
theorem dX5_readNumber_14 : decode cX5_readNumber 14 = .ok (.iload_n 1, 1) := by decide +kernel
theorem dX5_readNumber_15 : decode cX5_readNumber 15 = .ok (.if_icmp .ge 47, 3) := by decide +kernel
theorem dX5_readNumber_18 : decode cX5_readNumber 18 = .ok (.aload_n 0, 1) := by decide +kernel
theorem dX5_readNumber_19 : decode cX5_readNumber 19 = .ok (.invokevirtual 90, 3) := by decide +kernel
theorem dX5_readNumber_22 : decode cX5_readNumber 22 = .ok (.invokestatic 93, 3) := by decide +kernel
theorem dX5_readNumber_25 : decode cX5_readNumber 25 = .ok (.ifCond .eq 37, 3) := by decide +kernel
theorem dX5_readNumber_28 : decode cX5_readNumber 28 = .ok (.ldc2_w 97, 3) := by decide +kernel
theorem dX5_readNumber_31 : decode cX5_readNumber 31 = .ok (.lload 5, 2) := by decide +kernel
theorem dX5_readNumber_33 : decode cX5_readNumber 33 = .ok (.lmul, 1) := by decide +kernel
theorem dX5_readNumber_34 : decode cX5_readNumber 34 = .ok (.aload_n 0, 1) := by decide +kernel
theorem dX5_readNumber_35 : decode cX5_readNumber 35 = .ok (.invokevirtual 90, 3) := by decide +kernel
theorem dX5_readNumber_38 : decode cX5_readNumber 38 = .ok (.i2l, 1) := by decide +kernel
theorem dX5_readNumber_39 : decode cX5_readNumber 39 = .ok (.ladd, 1) := by decide +kernel
theorem dX5_readNumber_40 : decode cX5_readNumber 40 = .ok (.ldc2_w 99, 3) := by decide +kernel
theorem dX5_readNumber_43 : decode cX5_readNumber 43 = .ok (.lsub, 1) := by decide +kernel
theorem dX5_readNumber_44 : decode cX5_readNumber 44 = .ok (.lstore 5, 2) := by decide +kernel
theorem dX5_readNumber_46 : decode cX5_readNumber 46 = .ok (.aload_n 0, 1) := by decide +kernel
theorem dX5_readNumber_47 : decode cX5_readNumber 47 = .ok (.dup, 1) := by decide +kernel
theorem dX5_readNumber_48 : decode cX5_readNumber 48 = .ok (.getfield 22, 3) := by decide +kernel
theorem dX5_readNumber_51 : decode cX5_readNumber 51 = .ok (.iconst 1, 1) := by decide +kernel
theorem dX5_readNumber_52 : decode cX5_readNumber 52 = .ok (.iadd, 1) := by decide +kernel
theorem dX5_readNumber_53 : decode cX5_readNumber 53 = .ok (.putfield 22, 3) := by decide +kernel
theorem dX5_readNumber_56 : decode cX5_readNumber 56 = .ok (.iinc 7 1, 3) := by decide +kernel
theorem dX5_readNumber_59 : decode cX5_readNumber 59 = .ok (.goto (-47), 3) := by decide +kernel
theorem dX5_readNumber_62 : decode cX5_readNumber 62 = .ok (.aload_n 0, 1) := by decide +kernel
theorem dX5_readNumber_63 : decode cX5_readNumber 63 = .ok (.getfield 22, 3) := by decide +kernel
theorem dX5_readNumber_66 : decode cX5_readNumber 66 = .ok (.iload 4, 2) := by decide +kernel
theorem dX5_readNumber_68 : decode cX5_readNumber 68 = .ok (.if_icmp .eq 10, 3) := by decide +kernel
theorem dX5_readNumber_71 : decode cX5_readNumber 71 = .ok (.lload 5, 2) := by decide +kernel
theorem dX5_readNumber_73 : decode cX5_readNumber 73 = .ok (.lload_n 2, 1) := by decide +kernel
theorem dX5_readNumber_74 : decode cX5_readNumber 74 = .ok (.lcmp, 1) := by decide +kernel
theorem dX5_readNumber_75 : decode cX5_readNumber 75 = .ok (.ifCond .le 9, 3) := by decide +kernel
theorem dX5_readNumber_78 : decode cX5_readNumber 78 = .ok (.aload_n 0, 1) := by decide +kernel
theorem dX5_readNumber_79 : decode cX5_readNumber 79 = .ok (.iload 4, 2) := by decide +kernel
theorem dX5_readNumber_81 : decode cX5_readNumber 81 = .ok (.invokevirtual 36, 3) := by decide +kernel
theorem dX5_readNumber_84 : decode cX5_readNumber 84 = .ok (.lload 5, 2) := by decide +kernel
theorem dX5_readNumber_86 : decode cX5_readNumber 86 = .ok (.lreturn, 1) := by decide +kernel
set_option maxRecDepth 100000 in
theorem ggX5_readSign_X5_skipIf : GoodIn wsX5_readSign wsX5_skipIf := goodIn_r _ [5, 6, 7, 8, 9, 4, 10, 11, 12, 26, 27, 28, 29, 30, 31, 32] rfl (by decide +kernel)
set_option maxRecDepth 100000 in
theorem gX5_readSign_X5_skipIf : GoodIn wsX5_readSign (wsV RX5 71 RX5 yX5_skipIf wsX5_skipIf) := goodIn_app (goodIn_r _ [1, 2, 3, 4] rfl (by decide +kernel)) ggX5_readSign_X5_skipIf
set_option maxRecDepth 100000 in
theorem ggX5_readSign_X5_expect : GoodIn wsX5_readSign wsX5_expect := goodIn_r _ [16, 6, 1, 2, 3, 4, 5, 7, 8, 9, 10, 11, 12, 17, 18, 19, 20, 21, 22, 23, 24, 25, 26, 27, 28, 29, 30, 31, 32] rfl (by decide +kernel)
set_option maxRecDepth 100000 in
theorem gX5_readSign_X5_expect : GoodIn wsX5_readSign (wsV RX5 67 RX5 yX5_expect wsX5_expect) := goodIn_app (goodIn_r _ [13, 14, 15, 4] rfl (by decide +kernel)) ggX5_readSign_X5_expect
theorem dX5_readSign_0 : decode cX5_readSign 0 = .ok (.aload_n 0, 1) := by decide +kernel
theorem dX5_readSign_1 : decode cX5_readSign 1 = .ok (.bipush 45, 2) := by decide +kernel
theorem dX5_readSign_3 : decode cX5_readSign 3 = .ok (.invokevirtual 71, 3) := by decide +kernel
theorem dX5_readSign_6 : decode cX5_readSign 6 = .ok (.istore_n 1, 1) := by decide +kernel
theorem dX5_readSign_7 : decode cX5_readSign 7 = .ok (.iload_n 1, 1) := by decide +kernel
theorem dX5_readSign_8 : decode cX5_readSign 8 = .ok (.ifCond .ne 9, 3) := by decide +kernel
theorem dX5_readSign_11 : decode cX5_readSign 11 = .ok (.aload_n 0, 1) := by decide +kernel
theorem dX5_readSign_12 : decode cX5_readSign 12 = .ok (.bipush 43, 2) := by decide +kernel
theorem dX5_readSign_14 : decode cX5_readSign 14 = .ok (.invokevirtual 67, 3) := by decide +kernel
theorem dX5_readSign_17 : decode cX5_readSign 17 = .ok (.iload_n 1, 1) := by decide +kernel
theorem dX5_readSign_18 : decode cX5_readSign 18 = .ok (.ifCond .eq 7, 3) := by decide +kernel
theorem dX5_readSign_21 : decode cX5_readSign 21 = .ok (.iconst 1, 1) := by decide +kernel
theorem dX5_readSign_22 : decode cX5_readSign 22 = .ok (.goto 4, 3) := by decide +kernel
theorem dX5_readSign_25 : decode cX5_readSign 25 = .ok (.iconst 0, 1) := by decide +kernel
theorem dX5_readSign_26 : decode cX5_readSign 26 = .ok (.ireturn, 1) := by decide +kernel
set_option maxRecDepth 100000 in
theorem ggX5_expect_X5_skipIf : GoodIn wsX5_expect wsX5_skipIf := goodIn_r _ [6, 1, 7, 8, 9, 5, 10, 11, 12, 22, 23, 24, 25, 26, 27, 28] rfl (by decide +kernel)
set_option maxRecDepth 100000 in
theorem gX5_expect_X5_skipIf : GoodIn wsX5_expect (wsV RX5 71 RX5 yX5_skipIf wsX5_skipIf) := goodIn_app (goodIn_r _ [2, 3, 4, 5] rfl (by decide +kernel)) ggX5_expect_X5_skipIf
set_option maxRecDepth 100000 in
theorem ggX5_expect_X5_faultAt : GoodIn wsX5_expect wsX5_faultAt := goodIn_r _ [16, 17, 18, 19, 20, 5, 21, 22, 23, 24, 25, 26, 27, 28] rfl (by decide +kernel)
set_option maxRecDepth 100000 in
theorem gX5_expect_X5_faultAt : GoodIn wsX5_expect (wsV RX5 36 RX5 yX5_faultAt wsX5_faultAt) := goodIn_app (goodIn_r _ [13, 14, 15, 5] rfl (by decide +kernel)) ggX5_expect_X5_faultAt
theorem dX5_expect_0 : decode cX5_expect 0 = .ok (.aload_n 0, 1) := by decide +kernel
theorem dX5_expect_1 : decode cX5_expect 1 = .ok (.iload_n 1, 1) := by decide +kernel
theorem dX5_expect_2 : decode cX5_expect 2 = .ok (.invokevirtual 71, 3) := by decide +kernel
theorem dX5_expect_5 : decode cX5_expect 5 = .ok (.ifCond .ne 11, 3) := by decide +kernel
theorem dX5_expect_8 : decode cX5_expect 8 = .ok (.aload_n 0, 1) := by decide +kernel
theorem dX5_expect_9 : decode cX5_expect 9 = .ok (.aload_n 0, 1) := by decide +kernel
theorem dX5_expect_10 : decode cX5_expect 10 = .ok (.getfield 22, 3) := by decide +kernel
theorem dX5_expect_13 : decode cX5_expect 13 = .ok (.invokevirtual 36, 3) := by decide +kernel
theorem dX5_expect_16 : decode cX5_expect 16 = .ok (.return_, 1) := by decide +kernel
set_option maxRecDepth 100000 in
theorem ggX5_skipIf_X5_byteHere : GoodIn wsX5_skipIf wsX5_byteHere := goodIn_r _ [6, 1, 7, 8, 9, 10, 11, 12, 13, 14, 15] rfl (by decide +kernel)
set_option maxRecDepth 100000 in
theorem gX5_skipIf_X5_byteHere : GoodIn wsX5_skipIf (wsV RX5 90 RX5 yX5_byteHere wsX5_byteHere) := goodIn_app (goodIn_r _ [2, 3, 4, 5] rfl (by decide +kernel)) ggX5_skipIf_X5_byteHere
theorem dX5_skipIf_0 : decode cX5_skipIf 0 = .ok (.aload_n 0, 1) := by decide +kernel
theorem dX5_skipIf_1 : decode cX5_skipIf 1 = .ok (.invokevirtual 90, 3) := by decide +kernel
theorem dX5_skipIf_4 : decode cX5_skipIf 4 = .ok (.iload_n 1, 1) := by decide +kernel
theorem dX5_skipIf_5 : decode cX5_skipIf 5 = .ok (.if_icmp .ne 7, 3) := by decide +kernel
theorem dX5_skipIf_8 : decode cX5_skipIf 8 = .ok (.iconst 1, 1) := by decide +kernel
theorem dX5_skipIf_9 : decode cX5_skipIf 9 = .ok (.goto 4, 3) := by decide +kernel
theorem dX5_skipIf_12 : decode cX5_skipIf 12 = .ok (.iconst 0, 1) := by decide +kernel
theorem dX5_skipIf_13 : decode cX5_skipIf 13 = .ok (.istore_n 2, 1) := by decide +kernel
theorem dX5_skipIf_14 : decode cX5_skipIf 14 = .ok (.iload_n 2, 1) := by decide +kernel
theorem dX5_skipIf_15 : decode cX5_skipIf 15 = .ok (.ifCond .eq 13, 3) := by decide +kernel
theorem dX5_skipIf_18 : decode cX5_skipIf 18 = .ok (.aload_n 0, 1) := by decide +kernel
theorem dX5_skipIf_19 : decode cX5_skipIf 19 = .ok (.dup, 1) := by decide +kernel
theorem dX5_skipIf_20 : decode cX5_skipIf 20 = .ok (.getfield 22, 3) := by decide +kernel
theorem dX5_skipIf_23 : decode cX5_skipIf 23 = .ok (.iconst 1, 1) := by decide +kernel
theorem dX5_skipIf_24 : decode cX5_skipIf 24 = .ok (.iadd, 1) := by decide +kernel
theorem dX5_skipIf_25 : decode cX5_skipIf 25 = .ok (.putfield 22, 3) := by decide +kernel
theorem dX5_skipIf_28 : decode cX5_skipIf 28 = .ok (.iload_n 2, 1) := by decide +kernel
theorem dX5_skipIf_29 : decode cX5_skipIf 29 = .ok (.ireturn, 1) := by decide +kernel
set_option maxRecDepth 100000 in
theorem ggX5_faultAt_X5_isFaulty : GoodIn wsX5_faultAt wsX5_isFaulty := goodIn_r _ [6, 1, 7, 8, 9, 10, 11, 12, 13] rfl (by decide +kernel)
set_option maxRecDepth 100000 in
theorem gX5_faultAt_X5_isFaulty : GoodIn wsX5_faultAt (wsV RX5 28 RX5 yX5_isFaulty wsX5_isFaulty) := goodIn_app (goodIn_r _ [2, 3, 4, 5] rfl (by decide +kernel)) ggX5_faultAt_X5_isFaulty
theorem dX5_faultAt_0 : decode cX5_faultAt 0 = .ok (.aload_n 0, 1) := by decide +kernel
theorem dX5_faultAt_1 : decode cX5_faultAt 1 = .ok (.invokevirtual 28, 3) := by decide +kernel
theorem dX5_faultAt_4 : decode cX5_faultAt 4 = .ok (.ifCond .ne 8, 3) := by decide +kernel
theorem dX5_faultAt_7 : decode cX5_faultAt 7 = .ok (.aload_n 0, 1) := by decide +kernel
theorem dX5_faultAt_8 : decode cX5_faultAt 8 = .ok (.iload_n 1, 1) := by decide +kernel
theorem dX5_faultAt_9 : decode cX5_faultAt 9 = .ok (.putfield 15, 3) := by decide +kernel
theorem dX5_faultAt_12 : decode cX5_faultAt 12 = .ok (.return_, 1) := by decide +kernel
theorem dX5_byteHere_0 : decode cX5_byteHere 0 = .ok (.aload_n 0, 1) := by decide +kernel
theorem dX5_byteHere_1 : decode cX5_byteHere 1 = .ok (.getfield 22, 3) := by decide +kernel
theorem dX5_byteHere_4 : decode cX5_byteHere 4 = .ok (.ifCond .lt 42, 3) := by decide +kernel
theorem dX5_byteHere_7 : decode cX5_byteHere 7 = .ok (.aload_n 0, 1) := by decide +kernel
theorem dX5_byteHere_8 : decode cX5_byteHere 8 = .ok (.getfield 22, 3) := by decide +kernel
theorem dX5_byteHere_11 : decode cX5_byteHere 11 = .ok (.aload_n 0, 1) := by decide +kernel
theorem dX5_byteHere_12 : decode cX5_byteHere 12 = .ok (.getfield 19, 3) := by decide +kernel
theorem dX5_byteHere_15 : decode cX5_byteHere 15 = .ok (.if_icmp .ge 31, 3) := by decide +kernel
theorem dX5_byteHere_18 : decode cX5_byteHere 18 = .ok (.aload_n 0, 1) := by decide +kernel
theorem dX5_byteHere_19 : decode cX5_byteHere 19 = .ok (.getfield 22, 3) := by decide +kernel
theorem dX5_byteHere_22 : decode cX5_byteHere 22 = .ok (.aload_n 0, 1) := by decide +kernel
theorem dX5_byteHere_23 : decode cX5_byteHere 23 = .ok (.getfield 9, 3) := by decide +kernel
theorem dX5_byteHere_26 : decode cX5_byteHere 26 = .ok (.arraylength, 1) := by decide +kernel
theorem dX5_byteHere_27 : decode cX5_byteHere 27 = .ok (.if_icmp .ge 19, 3) := by decide +kernel
theorem dX5_byteHere_30 : decode cX5_byteHere 30 = .ok (.aload_n 0, 1) := by decide +kernel
theorem dX5_byteHere_31 : decode cX5_byteHere 31 = .ok (.getfield 9, 3) := by decide +kernel
theorem dX5_byteHere_34 : decode cX5_byteHere 34 = .ok (.aload_n 0, 1) := by decide +kernel
theorem dX5_byteHere_35 : decode cX5_byteHere 35 = .ok (.getfield 22, 3) := by decide +kernel
theorem dX5_byteHere_38 : decode cX5_byteHere 38 = .ok (.baload, 1) := by decide +kernel
theorem dX5_byteHere_39 : decode cX5_byteHere 39 = .ok (.sipush 255, 3) := by decide +kernel
theorem dX5_byteHere_42 : decode cX5_byteHere 42 = .ok (.iand, 1) := by decide +kernel
theorem dX5_byteHere_43 : decode cX5_byteHere 43 = .ok (.goto 4, 3) := by decide +kernel
theorem dX5_byteHere_46 : decode cX5_byteHere 46 = .ok (.iconst (-1), 1) := by decide +kernel
theorem dX5_byteHere_47 : decode cX5_byteHere 47 = .ok (.ireturn, 1) := by decide +kernel
theorem dX5_isFigure_0 : decode cX5_isFigure 0 = .ok (.iload_n 0, 1) := by decide +kernel
theorem dX5_isFigure_1 : decode cX5_isFigure 1 = .ok (.bipush 48, 2) := by decide +kernel
theorem dX5_isFigure_3 : decode cX5_isFigure 3 = .ok (.if_icmp .lt 13, 3) := by decide +kernel
theorem dX5_isFigure_6 : decode cX5_isFigure 6 = .ok (.iload_n 0, 1) := by decide +kernel
theorem dX5_isFigure_7 : decode cX5_isFigure 7 = .ok (.bipush 57, 2) := by decide +kernel
theorem dX5_isFigure_9 : decode cX5_isFigure 9 = .ok (.if_icmp .gt 7, 3) := by decide +kernel
theorem dX5_isFigure_12 : decode cX5_isFigure 12 = .ok (.iconst 1, 1) := by decide +kernel
theorem dX5_isFigure_13 : decode cX5_isFigure 13 = .ok (.goto 4, 3) := by decide +kernel
theorem dX5_isFigure_16 : decode cX5_isFigure 16 = .ok (.iconst 0, 1) := by decide +kernel
theorem dX5_isFigure_17 : decode cX5_isFigure 17 = .ok (.ireturn, 1) := by decide +kernel
set_option maxRecDepth 100000 in
theorem ggX6_init_X4_init : GoodIn wsX6_init wsX4_init := goodIn_r _ [14, 15, 2, 3, 16, 17, 27, 28, 29] rfl (by decide +kernel)
theorem gX6_init_X4_init : GoodIn wsX6_init (wsX4_init) := ggX6_init_X4_init
set_option maxRecDepth 100000 in
theorem ggX6_init_X1_init : GoodIn wsX6_init wsX1_init := goodIn_r _ [20, 21, 2, 3, 16, 22, 30, 31] rfl (by decide +kernel)
theorem gX6_init_X1_init : GoodIn wsX6_init (wsX1_init) := ggX6_init_X1_init
theorem dX6_init_0 : decode cX6_init 0 = .ok (.aload_n 0, 1) := by decide +kernel
theorem dX6_init_1 : decode cX6_init 1 = .ok (.invokespecial 3, 3) := by decide +kernel
theorem dX6_init_4 : decode cX6_init 4 = .ok (.aload_n 0, 1) := by decide +kernel
theorem dX6_init_5 : decode cX6_init 5 = .ok (.iconst 4, 1) := by decide +kernel
theorem dX6_init_6 : decode cX6_init 6 = .ok (.anewarray 9, 3) := by decide +kernel
theorem dX6_init_9 : decode cX6_init 9 = .ok (.putfield 11, 3) := by decide +kernel
theorem dX6_init_12 : decode cX6_init 12 = .ok (.iconst 0, 1) := by decide +kernel
theorem dX6_init_13 : decode cX6_init 13 = .ok (.istore_n 1, 1) := by decide +kernel
theorem dX6_init_14 : decode cX6_init 14 = .ok (.iload_n 1, 1) := by decide +kernel
theorem dX6_init_15 : decode cX6_init 15 = .ok (.aload_n 0, 1) := by decide +kernel
theorem dX6_init_16 : decode cX6_init 16 = .ok (.getfield 11, 3) := by decide +kernel
theorem dX6_init_19 : decode cX6_init 19 = .ok (.arraylength, 1) := by decide +kernel
theorem dX6_init_20 : decode cX6_init 20 = .ok (.if_icmp .ge 22, 3) := by decide +kernel
theorem dX6_init_23 : decode cX6_init 23 = .ok (.aload_n 0, 1) := by decide +kernel
theorem dX6_init_24 : decode cX6_init 24 = .ok (.getfield 11, 3) := by decide +kernel
theorem dX6_init_27 : decode cX6_init 27 = .ok (.iload_n 1, 1) := by decide +kernel
theorem dX6_init_28 : decode cX6_init 28 = .ok (.new 9, 3) := by decide +kernel
theorem dX6_init_31 : decode cX6_init 31 = .ok (.dup, 1) := by decide +kernel
theorem dX6_init_32 : decode cX6_init 32 = .ok (.invokespecial 17, 3) := by decide +kernel
theorem dX6_init_35 : decode cX6_init 35 = .ok (.aastore, 1) := by decide +kernel
theorem dX6_init_36 : decode cX6_init 36 = .ok (.iinc 1 1, 3) := by decide +kernel
theorem dX6_init_39 : decode cX6_init 39 = .ok (.goto (-25), 3) := by decide +kernel
theorem dX6_init_42 : decode cX6_init 42 = .ok (.aload_n 0, 1) := by decide +kernel
theorem dX6_init_43 : decode cX6_init 43 = .ok (.new 18, 3) := by decide +kernel
theorem dX6_init_46 : decode cX6_init 46 = .ok (.dup, 1) := by decide +kernel
theorem dX6_init_47 : decode cX6_init 47 = .ok (.invokespecial 20, 3) := by decide +kernel
theorem dX6_init_50 : decode cX6_init 50 = .ok (.putfield 21, 3) := by decide +kernel
theorem dX6_init_53 : decode cX6_init 53 = .ok (.return_, 1) := by decide +kernel
theorem dX6_tapeAt_0 : decode cX6_tapeAt 0 = .ok (.iload_n 1, 1) := by decide +kernel
theorem dX6_tapeAt_1 : decode cX6_tapeAt 1 = .ok (.ifCond .lt 21, 3) := by decide +kernel
theorem dX6_tapeAt_4 : decode cX6_tapeAt 4 = .ok (.iload_n 1, 1) := by decide +kernel
theorem dX6_tapeAt_5 : decode cX6_tapeAt 5 = .ok (.aload_n 0, 1) := by decide +kernel
theorem dX6_tapeAt_6 : decode cX6_tapeAt 6 = .ok (.getfield 11, 3) := by decide +kernel
theorem dX6_tapeAt_9 : decode cX6_tapeAt 9 = .ok (.arraylength, 1) := by decide +kernel
theorem dX6_tapeAt_10 : decode cX6_tapeAt 10 = .ok (.if_icmp .ge 12, 3) := by decide +kernel
theorem dX6_tapeAt_13 : decode cX6_tapeAt 13 = .ok (.aload_n 0, 1) := by decide +kernel
theorem dX6_tapeAt_14 : decode cX6_tapeAt 14 = .ok (.getfield 11, 3) := by decide +kernel
theorem dX6_tapeAt_17 : decode cX6_tapeAt 17 = .ok (.iload_n 1, 1) := by decide +kernel
theorem dX6_tapeAt_18 : decode cX6_tapeAt 18 = .ok (.aaload, 1) := by decide +kernel
theorem dX6_tapeAt_19 : decode cX6_tapeAt 19 = .ok (.goto 4, 3) := by decide +kernel
theorem dX6_tapeAt_22 : decode cX6_tapeAt 22 = .ok (.aconst_null, 1) := by decide +kernel
theorem dX6_tapeAt_23 : decode cX6_tapeAt 23 = .ok (.areturn, 1) := by decide +kernel
set_option maxRecDepth 100000 in
theorem ggX6_clearTape_X6_tapeAt : GoodIn wsX6_clearTape wsX6_tapeAt := goodIn_r _ [8, 9, 20, 21, 22, 23] rfl (by decide +kernel)
set_option maxRecDepth 100000 in
theorem gX6_clearTape_X6_tapeAt : GoodIn wsX6_clearTape (wsV RX6 25 RX6 yX6_tapeAt wsX6_tapeAt) := goodIn_app (goodIn_r _ [4, 5, 6, 7] rfl (by decide +kernel)) ggX6_clearTape_X6_tapeAt
set_option maxRecDepth 100000 in
theorem ggX6_clearTape_X4_clear : GoodIn wsX6_clearTape wsX4_clear := goodIn_r _ [14, 15, 16, 17, 18, 19] rfl (by decide +kernel)
set_option maxRecDepth 100000 in
theorem gX6_clearTape_X4_clear : GoodIn wsX6_clearTape (wsV RX6 33 RX4 yX4_clear wsX4_clear) := goodIn_app (goodIn_r _ [10, 11, 12, 13] rfl (by decide +kernel)) ggX6_clearTape_X4_clear
theorem dX6_clearTape_0 : decode cX6_clearTape 0 = .ok (.aload_n 0, 1) := by decide +kernel
theorem dX6_clearTape_1 : decode cX6_clearTape 1 = .ok (.iload_n 1, 1) := by decide +kernel
theorem dX6_clearTape_2 : decode cX6_clearTape 2 = .ok (.invokevirtual 25, 3) := by decide +kernel
theorem dX6_clearTape_5 : decode cX6_clearTape 5 = .ok (.astore_n 2, 1) := by decide +kernel
theorem dX6_clearTape_6 : decode cX6_clearTape 6 = .ok (.aload_n 2, 1) := by decide +kernel
theorem dX6_clearTape_7 : decode cX6_clearTape 7 = .ok (.ifnonnull 5, 3) := by decide +kernel
theorem dX6_clearTape_10 : decode cX6_clearTape 10 = .ok (.iconst (-1), 1) := by decide +kernel
theorem dX6_clearTape_11 : decode cX6_clearTape 11 = .ok (.ireturn, 1) := by decide +kernel
theorem dX6_clearTape_12 : decode cX6_clearTape 12 = .ok (.aload_n 2, 1) := by decide +kernel
theorem dX6_clearTape_13 : decode cX6_clearTape 13 = .ok (.getfield 29, 3) := by decide +kernel
theorem dX6_clearTape_16 : decode cX6_clearTape 16 = .ok (.istore_n 3, 1) := by decide +kernel
theorem dX6_clearTape_17 : decode cX6_clearTape 17 = .ok (.aload_n 2, 1) := by decide +kernel
theorem dX6_clearTape_18 : decode cX6_clearTape 18 = .ok (.invokevirtual 33, 3) := by decide +kernel
theorem dX6_clearTape_21 : decode cX6_clearTape 21 = .ok (.aload_n 0, 1) := by decide +kernel
theorem dX6_clearTape_22 : decode cX6_clearTape 22 = .ok (.getfield 36, 3) := by decide +kernel
theorem dX6_clearTape_25 : decode cX6_clearTape 25 = .ok (.bipush 9, 2) := by decide +kernel
theorem dX6_clearTape_27 : decode cX6_clearTape 27 = .ok (.iload_n 1, 1) := by decide +kernel
theorem dX6_clearTape_28 : decode cX6_clearTape 28 = .ok (.iadd, 1) := by decide +kernel
theorem dX6_clearTape_29 : decode cX6_clearTape 29 = .ok (.if_icmp .ne 8, 3) := by decide +kernel
theorem dX6_clearTape_32 : decode cX6_clearTape 32 = .ok (.aload_n 0, 1) := by decide +kernel
theorem dX6_clearTape_33 : decode cX6_clearTape 33 = .ok (.iconst 0, 1) := by decide +kernel
theorem dX6_clearTape_34 : decode cX6_clearTape 34 = .ok (.putfield 39, 3) := by decide +kernel
theorem dX6_clearTape_37 : decode cX6_clearTape 37 = .ok (.iload_n 3, 1) := by decide +kernel
theorem dX6_clearTape_38 : decode cX6_clearTape 38 = .ok (.ireturn, 1) := by decide +kernel
set_option maxRecDepth 100000 in
theorem ggX6_isWriting_X6_writtenTape : GoodIn wsX6_isWriting wsX6_writtenTape := goodIn_r _ [6, 1, 7, 8, 9, 5, 10, 11, 12, 13, 14, 15] rfl (by decide +kernel)
set_option maxRecDepth 100000 in
theorem gX6_isWriting_X6_writtenTape : GoodIn wsX6_isWriting (wsV RX6 43 RX6 yX6_writtenTape wsX6_writtenTape) := goodIn_app (goodIn_r _ [2, 3, 4, 5] rfl (by decide +kernel)) ggX6_isWriting_X6_writtenTape
theorem dX6_isWriting_0 : decode cX6_isWriting 0 = .ok (.aload_n 0, 1) := by decide +kernel
theorem dX6_isWriting_1 : decode cX6_isWriting 1 = .ok (.getfield 36, 3) := by decide +kernel
theorem dX6_isWriting_4 : decode cX6_isWriting 4 = .ok (.bipush 14, 2) := by decide +kernel
theorem dX6_isWriting_6 : decode cX6_isWriting 6 = .ok (.if_icmp .eq 10, 3) := by decide +kernel
theorem dX6_isWriting_9 : decode cX6_isWriting 9 = .ok (.aload_n 0, 1) := by decide +kernel
theorem dX6_isWriting_10 : decode cX6_isWriting 10 = .ok (.invokevirtual 43, 3) := by decide +kernel
theorem dX6_isWriting_13 : decode cX6_isWriting 13 = .ok (.ifnull 7, 3) := by decide +kernel
theorem dX6_isWriting_16 : decode cX6_isWriting 16 = .ok (.iconst 1, 1) := by decide +kernel
theorem dX6_isWriting_17 : decode cX6_isWriting 17 = .ok (.goto 4, 3) := by decide +kernel
theorem dX6_isWriting_20 : decode cX6_isWriting 20 = .ok (.iconst 0, 1) := by decide +kernel
theorem dX6_isWriting_21 : decode cX6_isWriting 21 = .ok (.ireturn, 1) := by decide +kernel
set_option maxRecDepth 100000 in
theorem ggX6_writtenTape_X6_tapeAt : GoodIn wsX6_writtenTape wsX6_tapeAt := goodIn_r _ [6, 7, 8, 9, 10, 11] rfl (by decide +kernel)
set_option maxRecDepth 100000 in
theorem gX6_writtenTape_X6_tapeAt : GoodIn wsX6_writtenTape (wsV RX6 25 RX6 yX6_tapeAt wsX6_tapeAt) := goodIn_app (goodIn_r _ [2, 3, 4, 5] rfl (by decide +kernel)) ggX6_writtenTape_X6_tapeAt
theorem dX6_writtenTape_0 : decode cX6_writtenTape 0 = .ok (.aload_n 0, 1) := by decide +kernel
theorem dX6_writtenTape_1 : decode cX6_writtenTape 1 = .ok (.getfield 36, 3) := by decide +kernel
theorem dX6_writtenTape_4 : decode cX6_writtenTape 4 = .ok (.bipush 13, 2) := by decide +kernel
theorem dX6_writtenTape_6 : decode cX6_writtenTape 6 = .ok (.if_icmp .ge 17, 3) := by decide +kernel
theorem dX6_writtenTape_9 : decode cX6_writtenTape 9 = .ok (.aload_n 0, 1) := by decide +kernel
theorem dX6_writtenTape_10 : decode cX6_writtenTape 10 = .ok (.aload_n 0, 1) := by decide +kernel
theorem dX6_writtenTape_11 : decode cX6_writtenTape 11 = .ok (.getfield 36, 3) := by decide +kernel
theorem dX6_writtenTape_14 : decode cX6_writtenTape 14 = .ok (.bipush 9, 2) := by decide +kernel
theorem dX6_writtenTape_16 : decode cX6_writtenTape 16 = .ok (.isub, 1) := by decide +kernel
theorem dX6_writtenTape_17 : decode cX6_writtenTape 17 = .ok (.invokevirtual 25, 3) := by decide +kernel
theorem dX6_writtenTape_20 : decode cX6_writtenTape 20 = .ok (.goto 4, 3) := by decide +kernel
theorem dX6_writtenTape_23 : decode cX6_writtenTape 23 = .ok (.aconst_null, 1) := by decide +kernel
theorem dX6_writtenTape_24 : decode cX6_writtenTape 24 = .ok (.areturn, 1) := by decide +kernel
set_option maxRecDepth 100000 in
theorem ggX6_choose_X6_tapeAt : GoodIn wsX6_choose wsX6_tapeAt := goodIn_r _ [6, 7, 36, 37, 38, 39] rfl (by decide +kernel)
set_option maxRecDepth 100000 in
theorem gX6_choose_X6_tapeAt : GoodIn wsX6_choose (wsV RX6 25 RX6 yX6_tapeAt wsX6_tapeAt) := goodIn_app (goodIn_r _ [2, 3, 4, 5] rfl (by decide +kernel)) ggX6_choose_X6_tapeAt
set_option maxRecDepth 100000 in
theorem ggX6_choose_X6_endRecord : GoodIn wsX6_choose wsX6_endRecord := goodIn_r _ [11, 12, 13, 14, 15, 16, 5, 17, 1, 2, 3, 4, 6, 7, 18, 19, 20, 21, 22, 23, 24, 25, 36, 37, 38, 39, 40, 41, 42] rfl (by decide +kernel)
set_option maxRecDepth 100000 in
theorem gX6_choose_X6_endRecord : GoodIn wsX6_choose (wsV RX6 47 RX6 yX6_endRecord wsX6_endRecord) := goodIn_app (goodIn_r _ [8, 9, 10, 5] rfl (by decide +kernel)) ggX6_choose_X6_endRecord
set_option maxRecDepth 100000 in
theorem ggX6_choose_X6_chooseTape : GoodIn wsX6_choose wsX6_chooseTape := goodIn_r _ [29, 1, 30, 31, 32, 33, 34, 21, 35, 23, 24, 18, 19, 20, 22, 25, 36, 37, 38, 39, 40, 41, 42] rfl (by decide +kernel)
set_option maxRecDepth 100000 in
theorem gX6_choose_X6_chooseTape : GoodIn wsX6_choose (wsV RX6 51 RX6 yX6_chooseTape wsX6_chooseTape) := goodIn_app (goodIn_r _ [26, 27, 28, 5] rfl (by decide +kernel)) ggX6_choose_X6_chooseTape
theorem dX6_choose_0 : decode cX6_choose 0 = .ok (.iload_n 2, 1) := by decide +kernel
theorem dX6_choose_1 : decode cX6_choose 1 = .ok (.sipush 128, 3) := by decide +kernel
theorem dX6_choose_4 : decode cX6_choose 4 = .ok (.if_icmp .ne 19, 3) := by decide +kernel
theorem dX6_choose_7 : decode cX6_choose 7 = .ok (.iload_n 1, 1) := by decide +kernel
theorem dX6_choose_8 : decode cX6_choose 8 = .ok (.bipush 24, 2) := by decide +kernel
theorem dX6_choose_10 : decode cX6_choose 10 = .ok (.if_icmp .eq 9, 3) := by decide +kernel
theorem dX6_choose_13 : decode cX6_choose 13 = .ok (.iload_n 1, 1) := by decide +kernel
theorem dX6_choose_14 : decode cX6_choose 14 = .ok (.bipush 26, 2) := by decide +kernel
theorem dX6_choose_16 : decode cX6_choose 16 = .ok (.if_icmp .ne 7, 3) := by decide +kernel
theorem dX6_choose_19 : decode cX6_choose 19 = .ok (.iconst 1, 1) := by decide +kernel
theorem dX6_choose_20 : decode cX6_choose 20 = .ok (.goto 4, 3) := by decide +kernel
theorem dX6_choose_23 : decode cX6_choose 23 = .ok (.iconst 0, 1) := by decide +kernel
theorem dX6_choose_24 : decode cX6_choose 24 = .ok (.istore_n 3, 1) := by decide +kernel
theorem dX6_choose_25 : decode cX6_choose 25 = .ok (.aload_n 0, 1) := by decide +kernel
theorem dX6_choose_26 : decode cX6_choose 26 = .ok (.iload_n 2, 1) := by decide +kernel
theorem dX6_choose_27 : decode cX6_choose 27 = .ok (.sipush 256, 3) := by decide +kernel
theorem dX6_choose_30 : decode cX6_choose 30 = .ok (.isub, 1) := by decide +kernel
theorem dX6_choose_31 : decode cX6_choose 31 = .ok (.invokevirtual 25, 3) := by decide +kernel
theorem dX6_choose_34 : decode cX6_choose 34 = .ok (.astore 4, 2) := by decide +kernel
theorem dX6_choose_36 : decode cX6_choose 36 = .ok (.iload_n 3, 1) := by decide +kernel
theorem dX6_choose_37 : decode cX6_choose 37 = .ok (.ifCond .ne 10, 3) := by decide +kernel
theorem dX6_choose_40 : decode cX6_choose 40 = .ok (.aload 4, 2) := by decide +kernel
theorem dX6_choose_42 : decode cX6_choose 42 = .ok (.ifnonnull 5, 3) := by decide +kernel
theorem dX6_choose_45 : decode cX6_choose 45 = .ok (.iconst 4, 1) := by decide +kernel
theorem dX6_choose_46 : decode cX6_choose 46 = .ok (.ireturn, 1) := by decide +kernel
theorem dX6_choose_47 : decode cX6_choose 47 = .ok (.aload_n 0, 1) := by decide +kernel
theorem dX6_choose_48 : decode cX6_choose 48 = .ok (.invokevirtual 47, 3) := by decide +kernel
theorem dX6_choose_51 : decode cX6_choose 51 = .ok (.ifCond .ne 5, 3) := by decide +kernel
theorem dX6_choose_54 : decode cX6_choose 54 = .ok (.iconst 5, 1) := by decide +kernel
theorem dX6_choose_55 : decode cX6_choose 55 = .ok (.ireturn, 1) := by decide +kernel
theorem dX6_choose_56 : decode cX6_choose 56 = .ok (.aload 4, 2) := by decide +kernel
theorem dX6_choose_58 : decode cX6_choose 58 = .ok (.ifnonnull 22, 3) := by decide +kernel
theorem dX6_choose_61 : decode cX6_choose 61 = .ok (.aload_n 0, 1) := by decide +kernel
theorem dX6_choose_62 : decode cX6_choose 62 = .ok (.iload_n 1, 1) := by decide +kernel
theorem dX6_choose_63 : decode cX6_choose 63 = .ok (.bipush 24, 2) := by decide +kernel
theorem dX6_choose_65 : decode cX6_choose 65 = .ok (.if_icmp .ne 8, 3) := by decide +kernel
theorem dX6_choose_68 : decode cX6_choose 68 = .ok (.bipush 13, 2) := by decide +kernel
theorem dX6_choose_70 : decode cX6_choose 70 = .ok (.goto 5, 3) := by decide +kernel
theorem dX6_choose_73 : decode cX6_choose 73 = .ok (.bipush 14, 2) := by decide +kernel
theorem dX6_choose_75 : decode cX6_choose 75 = .ok (.putfield 36, 3) := by decide +kernel
theorem dX6_choose_78 : decode cX6_choose 78 = .ok (.iconst 0, 1) := by decide +kernel
theorem dX6_choose_79 : decode cX6_choose 79 = .ok (.ireturn, 1) := by decide +kernel
theorem dX6_choose_80 : decode cX6_choose 80 = .ok (.aload_n 0, 1) := by decide +kernel
theorem dX6_choose_81 : decode cX6_choose 81 = .ok (.iload_n 1, 1) := by decide +kernel
theorem dX6_choose_82 : decode cX6_choose 82 = .ok (.aload 4, 2) := by decide +kernel
theorem dX6_choose_84 : decode cX6_choose 84 = .ok (.iload_n 2, 1) := by decide +kernel
theorem dX6_choose_85 : decode cX6_choose 85 = .ok (.sipush 256, 3) := by decide +kernel
theorem dX6_choose_88 : decode cX6_choose 88 = .ok (.isub, 1) := by decide +kernel
theorem dX6_choose_89 : decode cX6_choose 89 = .ok (.invokevirtual 51, 3) := by decide +kernel
theorem dX6_choose_92 : decode cX6_choose 92 = .ok (.ireturn, 1) := by decide +kernel
set_option maxRecDepth 100000 in
theorem ggX6_chooseTape_X4_cutHere : GoodIn wsX6_chooseTape wsX4_cutHere := goodIn_r _ [8, 9, 10, 20, 21, 22] rfl (by decide +kernel)
set_option maxRecDepth 100000 in
theorem gX6_chooseTape_X4_cutHere : GoodIn wsX6_chooseTape (wsV RX6 55 RX4 yX4_cutHere wsX4_cutHere) := goodIn_app (goodIn_r _ [4, 5, 6, 7] rfl (by decide +kernel)) ggX6_chooseTape_X4_cutHere
set_option maxRecDepth 100000 in
theorem ggX6_chooseTape_X4_putHere : GoodIn wsX6_chooseTape wsX4_putHere := goodIn_r _ [14, 9, 10, 15, 20, 21, 22] rfl (by decide +kernel)
set_option maxRecDepth 100000 in
theorem gX6_chooseTape_X4_putHere : GoodIn wsX6_chooseTape (wsV RX6 60 RX4 yX4_putHere wsX4_putHere) := goodIn_app (goodIn_r _ [11, 12, 13, 7] rfl (by decide +kernel)) ggX6_chooseTape_X4_putHere
theorem dX6_chooseTape_0 : decode cX6_chooseTape 0 = .ok (.aload_n 0, 1) := by decide +kernel
theorem dX6_chooseTape_1 : decode cX6_chooseTape 1 = .ok (.iconst 0, 1) := by decide +kernel
theorem dX6_chooseTape_2 : decode cX6_chooseTape 2 = .ok (.putfield 36, 3) := by decide +kernel
theorem dX6_chooseTape_5 : decode cX6_chooseTape 5 = .ok (.iload_n 1, 1) := by decide +kernel
theorem dX6_chooseTape_6 : decode cX6_chooseTape 6 = .ok (.tableswitch 85 24 27 #[30, 40, 50, 65], 30) := by decide +kernel
theorem dX6_chooseTape_36 : decode cX6_chooseTape 36 = .ok (.aload_n 0, 1) := by decide +kernel
theorem dX6_chooseTape_37 : decode cX6_chooseTape 37 = .ok (.iconst 1, 1) := by decide +kernel
theorem dX6_chooseTape_38 : decode cX6_chooseTape 38 = .ok (.iload_n 3, 1) := by decide +kernel
theorem dX6_chooseTape_39 : decode cX6_chooseTape 39 = .ok (.iadd, 1) := by decide +kernel
theorem dX6_chooseTape_40 : decode cX6_chooseTape 40 = .ok (.putfield 36, 3) := by decide +kernel
theorem dX6_chooseTape_43 : decode cX6_chooseTape 43 = .ok (.goto 53, 3) := by decide +kernel
theorem dX6_chooseTape_46 : decode cX6_chooseTape 46 = .ok (.aload_n 0, 1) := by decide +kernel
theorem dX6_chooseTape_47 : decode cX6_chooseTape 47 = .ok (.iconst 5, 1) := by decide +kernel
theorem dX6_chooseTape_48 : decode cX6_chooseTape 48 = .ok (.iload_n 3, 1) := by decide +kernel
theorem dX6_chooseTape_49 : decode cX6_chooseTape 49 = .ok (.iadd, 1) := by decide +kernel
theorem dX6_chooseTape_50 : decode cX6_chooseTape 50 = .ok (.putfield 36, 3) := by decide +kernel
theorem dX6_chooseTape_53 : decode cX6_chooseTape 53 = .ok (.goto 43, 3) := by decide +kernel
theorem dX6_chooseTape_56 : decode cX6_chooseTape 56 = .ok (.aload_n 2, 1) := by decide +kernel
theorem dX6_chooseTape_57 : decode cX6_chooseTape 57 = .ok (.invokevirtual 55, 3) := by decide +kernel
theorem dX6_chooseTape_60 : decode cX6_chooseTape 60 = .ok (.aload_n 0, 1) := by decide +kernel
theorem dX6_chooseTape_61 : decode cX6_chooseTape 61 = .ok (.bipush 9, 2) := by decide +kernel
theorem dX6_chooseTape_63 : decode cX6_chooseTape 63 = .ok (.iload_n 3, 1) := by decide +kernel
theorem dX6_chooseTape_64 : decode cX6_chooseTape 64 = .ok (.iadd, 1) := by decide +kernel
theorem dX6_chooseTape_65 : decode cX6_chooseTape 65 = .ok (.putfield 36, 3) := by decide +kernel
theorem dX6_chooseTape_68 : decode cX6_chooseTape 68 = .ok (.goto 28, 3) := by decide +kernel
theorem dX6_chooseTape_71 : decode cX6_chooseTape 71 = .ok (.aload_n 2, 1) := by decide +kernel
theorem dX6_chooseTape_72 : decode cX6_chooseTape 72 = .ok (.invokevirtual 55, 3) := by decide +kernel
theorem dX6_chooseTape_75 : decode cX6_chooseTape 75 = .ok (.aload_n 2, 1) := by decide +kernel
theorem dX6_chooseTape_76 : decode cX6_chooseTape 76 = .ok (.ldc2_w 58, 3) := by decide +kernel
theorem dX6_chooseTape_79 : decode cX6_chooseTape 79 = .ok (.invokevirtual 60, 3) := by decide +kernel
theorem dX6_chooseTape_82 : decode cX6_chooseTape 82 = .ok (.ifCond .eq 7, 3) := by decide +kernel
theorem dX6_chooseTape_85 : decode cX6_chooseTape 85 = .ok (.iconst 0, 1) := by decide +kernel
theorem dX6_chooseTape_86 : decode cX6_chooseTape 86 = .ok (.goto 4, 3) := by decide +kernel
theorem dX6_chooseTape_89 : decode cX6_chooseTape 89 = .ok (.iconst 5, 1) := by decide +kernel
theorem dX6_chooseTape_90 : decode cX6_chooseTape 90 = .ok (.ireturn, 1) := by decide +kernel
theorem dX6_chooseTape_91 : decode cX6_chooseTape 91 = .ok (.aload_n 2, 1) := by decide +kernel
theorem dX6_chooseTape_92 : decode cX6_chooseTape 92 = .ok (.iconst 0, 1) := by decide +kernel
theorem dX6_chooseTape_93 : decode cX6_chooseTape 93 = .ok (.putfield 64, 3) := by decide +kernel
theorem dX6_chooseTape_96 : decode cX6_chooseTape 96 = .ok (.iconst 0, 1) := by decide +kernel
theorem dX6_chooseTape_97 : decode cX6_chooseTape 97 = .ok (.ireturn, 1) := by decide +kernel
set_option maxRecDepth 100000 in
theorem ggX6_endRecord_X6_writtenTape : GoodIn wsX6_endRecord wsX6_writtenTape := goodIn_r _ [7, 8, 9, 10, 11, 6, 12, 13, 22, 23, 24, 25] rfl (by decide +kernel)
set_option maxRecDepth 100000 in
theorem gX6_endRecord_X6_writtenTape : GoodIn wsX6_endRecord (wsV RX6 43 RX6 yX6_writtenTape wsX6_writtenTape) := goodIn_app (goodIn_r _ [3, 4, 5, 6] rfl (by decide +kernel)) ggX6_endRecord_X6_writtenTape
set_option maxRecDepth 100000 in
theorem ggX6_endRecord_X4_putHere : GoodIn wsX6_endRecord wsX4_putHere := goodIn_r _ [18, 19, 20, 21, 26, 27, 28] rfl (by decide +kernel)
set_option maxRecDepth 100000 in
theorem gX6_endRecord_X4_putHere : GoodIn wsX6_endRecord (wsV RX6 60 RX4 yX4_putHere wsX4_putHere) := goodIn_app (goodIn_r _ [14, 15, 16, 17] rfl (by decide +kernel)) ggX6_endRecord_X4_putHere
theorem dX6_endRecord_0 : decode cX6_endRecord 0 = .ok (.aload_n 0, 1) := by decide +kernel
theorem dX6_endRecord_1 : decode cX6_endRecord 1 = .ok (.invokevirtual 43, 3) := by decide +kernel
theorem dX6_endRecord_4 : decode cX6_endRecord 4 = .ok (.astore_n 1, 1) := by decide +kernel
theorem dX6_endRecord_5 : decode cX6_endRecord 5 = .ok (.aload_n 0, 1) := by decide +kernel
theorem dX6_endRecord_6 : decode cX6_endRecord 6 = .ok (.getfield 39, 3) := by decide +kernel
theorem dX6_endRecord_9 : decode cX6_endRecord 9 = .ok (.istore_n 2, 1) := by decide +kernel
theorem dX6_endRecord_10 : decode cX6_endRecord 10 = .ok (.aload_n 0, 1) := by decide +kernel
theorem dX6_endRecord_11 : decode cX6_endRecord 11 = .ok (.iconst 0, 1) := by decide +kernel
theorem dX6_endRecord_12 : decode cX6_endRecord 12 = .ok (.putfield 39, 3) := by decide +kernel
theorem dX6_endRecord_15 : decode cX6_endRecord 15 = .ok (.aload_n 1, 1) := by decide +kernel
theorem dX6_endRecord_16 : decode cX6_endRecord 16 = .ok (.ifnull 17, 3) := by decide +kernel
theorem dX6_endRecord_19 : decode cX6_endRecord 19 = .ok (.iload_n 2, 1) := by decide +kernel
theorem dX6_endRecord_20 : decode cX6_endRecord 20 = .ok (.ifCond .eq 13, 3) := by decide +kernel
theorem dX6_endRecord_23 : decode cX6_endRecord 23 = .ok (.aload_n 1, 1) := by decide +kernel
theorem dX6_endRecord_24 : decode cX6_endRecord 24 = .ok (.ldc2_w 67, 3) := by decide +kernel
theorem dX6_endRecord_27 : decode cX6_endRecord 27 = .ok (.invokevirtual 60, 3) := by decide +kernel
theorem dX6_endRecord_30 : decode cX6_endRecord 30 = .ok (.ifCond .eq 7, 3) := by decide +kernel
theorem dX6_endRecord_33 : decode cX6_endRecord 33 = .ok (.iconst 1, 1) := by decide +kernel
theorem dX6_endRecord_34 : decode cX6_endRecord 34 = .ok (.goto 4, 3) := by decide +kernel
theorem dX6_endRecord_37 : decode cX6_endRecord 37 = .ok (.iconst 0, 1) := by decide +kernel
theorem dX6_endRecord_38 : decode cX6_endRecord 38 = .ok (.ireturn, 1) := by decide +kernel
set_option maxRecDepth 100000 in
theorem ggX6_endByStop_X6_endRecord : GoodIn wsX6_endByStop wsX6_endRecord := goodIn_r _ [6, 7, 8, 9, 10, 11, 5, 12, 1, 13, 14, 15, 16, 17, 18, 19, 20, 21, 22, 23, 24, 25, 26, 27, 28, 29, 30, 31, 32] rfl (by decide +kernel)
set_option maxRecDepth 100000 in
theorem gX6_endByStop_X6_endRecord : GoodIn wsX6_endByStop (wsV RX6 47 RX6 yX6_endRecord wsX6_endRecord) := goodIn_app (goodIn_r _ [2, 3, 4, 5] rfl (by decide +kernel)) ggX6_endByStop_X6_endRecord
theorem dX6_endByStop_0 : decode cX6_endByStop 0 = .ok (.aload_n 0, 1) := by decide +kernel
theorem dX6_endByStop_1 : decode cX6_endByStop 1 = .ok (.invokevirtual 47, 3) := by decide +kernel
theorem dX6_endByStop_4 : decode cX6_endByStop 4 = .ok (.pop, 1) := by decide +kernel
theorem dX6_endByStop_5 : decode cX6_endByStop 5 = .ok (.aload_n 0, 1) := by decide +kernel
theorem dX6_endByStop_6 : decode cX6_endByStop 6 = .ok (.iconst 0, 1) := by decide +kernel
theorem dX6_endByStop_7 : decode cX6_endByStop 7 = .ok (.putfield 36, 3) := by decide +kernel
theorem dX6_endByStop_10 : decode cX6_endByStop 10 = .ok (.return_, 1) := by decide +kernel
set_option maxRecDepth 100000 in
theorem ggX6_setDrumPlace_X1_moveTo : GoodIn wsX6_setDrumPlace wsX1_moveTo := goodIn_r _ [7, 8, 13, 14] rfl (by decide +kernel)
set_option maxRecDepth 100000 in
theorem gX6_setDrumPlace_X1_moveTo : GoodIn wsX6_setDrumPlace (wsV RX6 69 RX1 yX1_moveTo wsX1_moveTo) := goodIn_app (goodIn_r _ [3, 4, 5, 6] rfl (by decide +kernel)) ggX6_setDrumPlace_X1_moveTo
theorem dX6_setDrumPlace_0 : decode cX6_setDrumPlace 0 = .ok (.aload_n 0, 1) := by decide +kernel
theorem dX6_setDrumPlace_1 : decode cX6_setDrumPlace 1 = .ok (.getfield 36, 3) := by decide +kernel
theorem dX6_setDrumPlace_4 : decode cX6_setDrumPlace 4 = .ok (.bipush 13, 2) := by decide +kernel
theorem dX6_setDrumPlace_6 : decode cX6_setDrumPlace 6 = .ok (.if_icmp .eq 14, 3) := by decide +kernel
theorem dX6_setDrumPlace_9 : decode cX6_setDrumPlace 9 = .ok (.aload_n 0, 1) := by decide +kernel
theorem dX6_setDrumPlace_10 : decode cX6_setDrumPlace 10 = .ok (.getfield 36, 3) := by decide +kernel
theorem dX6_setDrumPlace_13 : decode cX6_setDrumPlace 13 = .ok (.bipush 14, 2) := by decide +kernel
theorem dX6_setDrumPlace_15 : decode cX6_setDrumPlace 15 = .ok (.if_icmp .eq 5, 3) := by decide +kernel
theorem dX6_setDrumPlace_18 : decode cX6_setDrumPlace 18 = .ok (.iconst 0, 1) := by decide +kernel
theorem dX6_setDrumPlace_19 : decode cX6_setDrumPlace 19 = .ok (.ireturn, 1) := by decide +kernel
theorem dX6_setDrumPlace_20 : decode cX6_setDrumPlace 20 = .ok (.aload_n 0, 1) := by decide +kernel
theorem dX6_setDrumPlace_21 : decode cX6_setDrumPlace 21 = .ok (.getfield 21, 3) := by decide +kernel
theorem dX6_setDrumPlace_24 : decode cX6_setDrumPlace 24 = .ok (.iload_n 1, 1) := by decide +kernel
theorem dX6_setDrumPlace_25 : decode cX6_setDrumPlace 25 = .ok (.invokevirtual 69, 3) := by decide +kernel
theorem dX6_setDrumPlace_28 : decode cX6_setDrumPlace 28 = .ok (.iconst 1, 1) := by decide +kernel
theorem dX6_setDrumPlace_29 : decode cX6_setDrumPlace 29 = .ok (.ireturn, 1) := by decide +kernel
set_option maxRecDepth 100000 in
theorem ggX6_writeWord_X6_writtenTape : GoodIn wsX6_writeWord wsX6_writtenTape := goodIn_r _ [7, 8, 9, 10, 11, 6, 12, 13, 33, 34, 35, 36] rfl (by decide +kernel)
set_option maxRecDepth 100000 in
theorem gX6_writeWord_X6_writtenTape : GoodIn wsX6_writeWord (wsV RX6 43 RX6 yX6_writtenTape wsX6_writtenTape) := goodIn_app (goodIn_r _ [3, 4, 5, 6] rfl (by decide +kernel)) ggX6_writeWord_X6_writtenTape
set_option maxRecDepth 100000 in
theorem ggX6_writeWord_X1_writeHere : GoodIn wsX6_writeWord wsX1_writeHere := goodIn_r _ [18, 19, 20, 21, 22, 23, 17, 24, 37, 38] rfl (by decide +kernel)
set_option maxRecDepth 100000 in
theorem gX6_writeWord_X1_writeHere : GoodIn wsX6_writeWord (wsV RX6 73 RX1 yX1_writeHere wsX1_writeHere) := goodIn_app (goodIn_r _ [14, 15, 16, 17] rfl (by decide +kernel)) ggX6_writeWord_X1_writeHere
set_option maxRecDepth 100000 in
theorem ggX6_writeWord_X4_putHere : GoodIn wsX6_writeWord wsX4_putHere := goodIn_r _ [29, 30, 31, 32, 39, 40, 41] rfl (by decide +kernel)
set_option maxRecDepth 100000 in
theorem gX6_writeWord_X4_putHere : GoodIn wsX6_writeWord (wsV RX6 60 RX4 yX4_putHere wsX4_putHere) := goodIn_app (goodIn_r _ [25, 26, 27, 28] rfl (by decide +kernel)) ggX6_writeWord_X4_putHere
theorem dX6_writeWord_0 : decode cX6_writeWord 0 = .ok (.aload_n 0, 1) := by decide +kernel
theorem dX6_writeWord_1 : decode cX6_writeWord 1 = .ok (.invokevirtual 43, 3) := by decide +kernel
theorem dX6_writeWord_4 : decode cX6_writeWord 4 = .ok (.astore_n 3, 1) := by decide +kernel
theorem dX6_writeWord_5 : decode cX6_writeWord 5 = .ok (.aload_n 3, 1) := by decide +kernel
theorem dX6_writeWord_6 : decode cX6_writeWord 6 = .ok (.ifnonnull 13, 3) := by decide +kernel
theorem dX6_writeWord_9 : decode cX6_writeWord 9 = .ok (.aload_n 0, 1) := by decide +kernel
theorem dX6_writeWord_10 : decode cX6_writeWord 10 = .ok (.getfield 21, 3) := by decide +kernel
theorem dX6_writeWord_13 : decode cX6_writeWord 13 = .ok (.lload_n 1, 1) := by decide +kernel
theorem dX6_writeWord_14 : decode cX6_writeWord 14 = .ok (.invokevirtual 73, 3) := by decide +kernel
theorem dX6_writeWord_17 : decode cX6_writeWord 17 = .ok (.iconst 1, 1) := by decide +kernel
theorem dX6_writeWord_18 : decode cX6_writeWord 18 = .ok (.ireturn, 1) := by decide +kernel
theorem dX6_writeWord_19 : decode cX6_writeWord 19 = .ok (.aload_n 3, 1) := by decide +kernel
theorem dX6_writeWord_20 : decode cX6_writeWord 20 = .ok (.lload_n 1, 1) := by decide +kernel
theorem dX6_writeWord_21 : decode cX6_writeWord 21 = .ok (.invokevirtual 60, 3) := by decide +kernel
theorem dX6_writeWord_24 : decode cX6_writeWord 24 = .ok (.istore 4, 2) := by decide +kernel
theorem dX6_writeWord_26 : decode cX6_writeWord 26 = .ok (.aload_n 0, 1) := by decide +kernel
theorem dX6_writeWord_27 : decode cX6_writeWord 27 = .ok (.aload_n 0, 1) := by decide +kernel
theorem dX6_writeWord_28 : decode cX6_writeWord 28 = .ok (.getfield 39, 3) := by decide +kernel
theorem dX6_writeWord_31 : decode cX6_writeWord 31 = .ok (.ifCond .ne 8, 3) := by decide +kernel
theorem dX6_writeWord_34 : decode cX6_writeWord 34 = .ok (.iload 4, 2) := by decide +kernel
theorem dX6_writeWord_36 : decode cX6_writeWord 36 = .ok (.ifCond .eq 7, 3) := by decide +kernel
theorem dX6_writeWord_39 : decode cX6_writeWord 39 = .ok (.iconst 1, 1) := by decide +kernel
theorem dX6_writeWord_40 : decode cX6_writeWord 40 = .ok (.goto 4, 3) := by decide +kernel
theorem dX6_writeWord_43 : decode cX6_writeWord 43 = .ok (.iconst 0, 1) := by decide +kernel
theorem dX6_writeWord_44 : decode cX6_writeWord 44 = .ok (.putfield 39, 3) := by decide +kernel
theorem dX6_writeWord_47 : decode cX6_writeWord 47 = .ok (.iload 4, 2) := by decide +kernel
theorem dX6_writeWord_49 : decode cX6_writeWord 49 = .ok (.ireturn, 1) := by decide +kernel
set_option maxRecDepth 100000 in
theorem ggX6_readItem_X1_readHere : GoodIn wsX6_readItem wsX1_readHere := goodIn_r _ [8, 9, 10, 11, 12, 7, 13, 14, 15, 16, 17, 18, 46, 47] rfl (by decide +kernel)
set_option maxRecDepth 100000 in
theorem gX6_readItem_X1_readHere : GoodIn wsX6_readItem (wsV RX6 77 RX1 yX1_readHere wsX1_readHere) := goodIn_app (goodIn_r _ [4, 5, 6, 7] rfl (by decide +kernel)) ggX6_readItem_X1_readHere
set_option maxRecDepth 100000 in
theorem ggX6_readItem_X6_tapeAt : GoodIn wsX6_readItem wsX6_tapeAt := goodIn_r _ [23, 24, 42, 43, 44, 45] rfl (by decide +kernel)
set_option maxRecDepth 100000 in
theorem gX6_readItem_X6_tapeAt : GoodIn wsX6_readItem (wsV RX6 25 RX6 yX6_tapeAt wsX6_tapeAt) := goodIn_app (goodIn_r _ [19, 20, 21, 22] rfl (by decide +kernel)) ggX6_readItem_X6_tapeAt
set_option maxRecDepth 100000 in
theorem ggX6_readItem_X4_passBackward : GoodIn wsX6_readItem wsX4_passBackward := goodIn_r _ [29, 30, 31, 32, 33, 34, 28, 35, 36, 37, 48, 49, 50] rfl (by decide +kernel)
set_option maxRecDepth 100000 in
theorem gX6_readItem_X4_passBackward : GoodIn wsX6_readItem (wsV RX6 83 RX4 yX4_passBackward wsX4_passBackward) := goodIn_app (goodIn_r _ [25, 26, 27, 28] rfl (by decide +kernel)) ggX6_readItem_X4_passBackward
set_option maxRecDepth 100000 in
theorem ggX6_readItem_X4_passForward : GoodIn wsX6_readItem wsX4_passForward := goodIn_r _ [41, 30, 31, 32, 33, 34, 28, 35, 36, 37, 48, 49, 50] rfl (by decide +kernel)
set_option maxRecDepth 100000 in
theorem gX6_readItem_X4_passForward : GoodIn wsX6_readItem (wsV RX6 86 RX4 yX4_passForward wsX4_passForward) := goodIn_app (goodIn_r _ [38, 39, 40, 28] rfl (by decide +kernel)) ggX6_readItem_X4_passForward
theorem dX6_readItem_0 : decode cX6_readItem 0 = .ok (.aload_n 0, 1) := by decide +kernel
theorem dX6_readItem_1 : decode cX6_readItem 1 = .ok (.getfield 36, 3) := by decide +kernel
theorem dX6_readItem_4 : decode cX6_readItem 4 = .ok (.bipush 13, 2) := by decide +kernel
theorem dX6_readItem_6 : decode cX6_readItem 6 = .ok (.if_icmp .ne 11, 3) := by decide +kernel
theorem dX6_readItem_9 : decode cX6_readItem 9 = .ok (.aload_n 0, 1) := by decide +kernel
theorem dX6_readItem_10 : decode cX6_readItem 10 = .ok (.getfield 21, 3) := by decide +kernel
theorem dX6_readItem_13 : decode cX6_readItem 13 = .ok (.invokevirtual 77, 3) := by decide +kernel
theorem dX6_readItem_16 : decode cX6_readItem 16 = .ok (.lreturn, 1) := by decide +kernel
theorem dX6_readItem_17 : decode cX6_readItem 17 = .ok (.aload_n 0, 1) := by decide +kernel
theorem dX6_readItem_18 : decode cX6_readItem 18 = .ok (.getfield 36, 3) := by decide +kernel
theorem dX6_readItem_21 : decode cX6_readItem 21 = .ok (.iconst 5, 1) := by decide +kernel
theorem dX6_readItem_22 : decode cX6_readItem 22 = .ok (.if_icmp .lt 7, 3) := by decide +kernel
theorem dX6_readItem_25 : decode cX6_readItem 25 = .ok (.iconst 1, 1) := by decide +kernel
theorem dX6_readItem_26 : decode cX6_readItem 26 = .ok (.goto 4, 3) := by decide +kernel
theorem dX6_readItem_29 : decode cX6_readItem 29 = .ok (.iconst 0, 1) := by decide +kernel
theorem dX6_readItem_30 : decode cX6_readItem 30 = .ok (.istore_n 1, 1) := by decide +kernel
theorem dX6_readItem_31 : decode cX6_readItem 31 = .ok (.aload_n 0, 1) := by decide +kernel
theorem dX6_readItem_32 : decode cX6_readItem 32 = .ok (.aload_n 0, 1) := by decide +kernel
theorem dX6_readItem_33 : decode cX6_readItem 33 = .ok (.getfield 36, 3) := by decide +kernel
theorem dX6_readItem_36 : decode cX6_readItem 36 = .ok (.iload_n 1, 1) := by decide +kernel
theorem dX6_readItem_37 : decode cX6_readItem 37 = .ok (.ifCond .eq 7, 3) := by decide +kernel
theorem dX6_readItem_40 : decode cX6_readItem 40 = .ok (.iconst 5, 1) := by decide +kernel
theorem dX6_readItem_41 : decode cX6_readItem 41 = .ok (.goto 4, 3) := by decide +kernel
theorem dX6_readItem_44 : decode cX6_readItem 44 = .ok (.iconst 1, 1) := by decide +kernel
theorem dX6_readItem_45 : decode cX6_readItem 45 = .ok (.isub, 1) := by decide +kernel
theorem dX6_readItem_46 : decode cX6_readItem 46 = .ok (.invokevirtual 25, 3) := by decide +kernel
theorem dX6_readItem_49 : decode cX6_readItem 49 = .ok (.astore_n 2, 1) := by decide +kernel
theorem dX6_readItem_50 : decode cX6_readItem 50 = .ok (.ldc2_w 81, 3) := by decide +kernel
theorem dX6_readItem_53 : decode cX6_readItem 53 = .ok (.lstore_n 3, 1) := by decide +kernel
theorem dX6_readItem_54 : decode cX6_readItem 54 = .ok (.aload_n 2, 1) := by decide +kernel
theorem dX6_readItem_55 : decode cX6_readItem 55 = .ok (.ifnull 19, 3) := by decide +kernel
theorem dX6_readItem_58 : decode cX6_readItem 58 = .ok (.iload_n 1, 1) := by decide +kernel
theorem dX6_readItem_59 : decode cX6_readItem 59 = .ok (.ifCond .eq 10, 3) := by decide +kernel
theorem dX6_readItem_62 : decode cX6_readItem 62 = .ok (.aload_n 2, 1) := by decide +kernel
theorem dX6_readItem_63 : decode cX6_readItem 63 = .ok (.invokevirtual 83, 3) := by decide +kernel
theorem dX6_readItem_66 : decode cX6_readItem 66 = .ok (.goto 7, 3) := by decide +kernel
theorem dX6_readItem_69 : decode cX6_readItem 69 = .ok (.aload_n 2, 1) := by decide +kernel
theorem dX6_readItem_70 : decode cX6_readItem 70 = .ok (.invokevirtual 86, 3) := by decide +kernel
theorem dX6_readItem_73 : decode cX6_readItem 73 = .ok (.lstore_n 3, 1) := by decide +kernel
theorem dX6_readItem_74 : decode cX6_readItem 74 = .ok (.lload_n 3, 1) := by decide +kernel
theorem dX6_readItem_75 : decode cX6_readItem 75 = .ok (.lconst 0, 1) := by decide +kernel
theorem dX6_readItem_76 : decode cX6_readItem 76 = .ok (.lcmp, 1) := by decide +kernel
theorem dX6_readItem_77 : decode cX6_readItem 77 = .ok (.ifCond .ge 8, 3) := by decide +kernel
theorem dX6_readItem_80 : decode cX6_readItem 80 = .ok (.aload_n 0, 1) := by decide +kernel
theorem dX6_readItem_81 : decode cX6_readItem 81 = .ok (.iconst 0, 1) := by decide +kernel
theorem dX6_readItem_82 : decode cX6_readItem 82 = .ok (.putfield 36, 3) := by decide +kernel
theorem dX6_readItem_85 : decode cX6_readItem 85 = .ok (.lload_n 3, 1) := by decide +kernel
theorem dX6_readItem_86 : decode cX6_readItem 86 = .ok (.lreturn, 1) := by decide +kernel
