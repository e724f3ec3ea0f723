theorem dX6_keepLine_25 : decode cX6_keepLine 25 = .ok (.goto 7, 3) := by decide +kernel
theorem dX6_keepLine_28 : decode cX6_keepLine 28 = .ok (.aload_n 0, 1) := by decide +kernel
theorem dX6_keepLine_29 : decode cX6_keepLine 29 = .ok (.getfield 48, 3) := by decide +kernel
theorem dX6_keepLine_32 : decode cX6_keepLine 32 = .ok (.invokevirtual 87, 3) := by decide +kernel
theorem dX6_keepLine_35 : decode cX6_keepLine 35 = .ok (.istore_n 2, 1) := by decide +kernel
theorem dX6_keepLine_36 : decode cX6_keepLine 36 = .ok (.goto 30, 3) := by decide +kernel
theorem dX6_keepLine_39 : decode cX6_keepLine 39 = .ok (.aload_n 0, 1) := by decide +kernel
theorem dX6_keepLine_40 : decode cX6_keepLine 40 = .ok (.getfield 48, 3) := by decide +kernel
theorem dX6_keepLine_43 : decode cX6_keepLine 43 = .ok (.aload_n 0, 1) := by decide +kernel
theorem dX6_keepLine_44 : decode cX6_keepLine 44 = .ok (.getfield 52, 3) := by decide +kernel
theorem dX6_keepLine_47 : decode cX6_keepLine 47 = .ok (.land, 1) := by decide +kernel
theorem dX6_keepLine_48 : decode cX6_keepLine 48 = .ok (.lconst 0, 1) := by decide +kernel
theorem dX6_keepLine_49 : decode cX6_keepLine 49 = .ok (.lcmp, 1) := by decide +kernel
theorem dX6_keepLine_50 : decode cX6_keepLine 50 = .ok (.ifCond .ne 16, 3) := by decide +kernel
theorem dX6_keepLine_53 : decode cX6_keepLine 53 = .ok (.aload_n 1, 1) := by decide +kernel
theorem dX6_keepLine_54 : decode cX6_keepLine 54 = .ok (.aload_n 0, 1) := by decide +kernel
theorem dX6_keepLine_55 : decode cX6_keepLine 55 = .ok (.getfield 48, 3) := by decide +kernel
theorem dX6_keepLine_58 : decode cX6_keepLine 58 = .ok (.aload_n 0, 1) := by decide +kernel
theorem dX6_keepLine_59 : decode cX6_keepLine 59 = .ok (.getfield 52, 3) := by decide +kernel
theorem dX6_keepLine_62 : decode cX6_keepLine 62 = .ok (.invokevirtual 93, 3) := by decide +kernel
theorem dX6_keepLine_65 : decode cX6_keepLine 65 = .ok (.istore_n 2, 1) := by decide +kernel
theorem dX6_keepLine_66 : decode cX6_keepLine 66 = .ok (.iload_n 2, 1) := by decide +kernel
theorem dX6_keepLine_67 : decode cX6_keepLine 67 = .ok (.ifCond .ne 15, 3) := by decide +kernel
theorem dX6_keepLine_70 : decode cX6_keepLine 70 = .ok (.aload_n 0, 1) := by decide +kernel
theorem dX6_keepLine_71 : decode cX6_keepLine 71 = .ok (.iconst 3, 1) := by decide +kernel
theorem dX6_keepLine_72 : decode cX6_keepLine 72 = .ok (.aload_n 0, 1) := by decide +kernel
theorem dX6_keepLine_73 : decode cX6_keepLine 73 = .ok (.getfield 22, 3) := by decide +kernel
theorem dX6_keepLine_76 : decode cX6_keepLine 76 = .ok (.invokevirtual 61, 3) := by decide +kernel
theorem dX6_keepLine_79 : decode cX6_keepLine 79 = .ok (.ifCond .eq 7, 3) := by decide +kernel
theorem dX6_keepLine_82 : decode cX6_keepLine 82 = .ok (.iconst 1, 1) := by decide +kernel
theorem dX6_keepLine_83 : decode cX6_keepLine 83 = .ok (.goto 4, 3) := by decide +kernel
theorem dX6_keepLine_86 : decode cX6_keepLine 86 = .ok (.iconst 0, 1) := by decide +kernel
theorem dX6_keepLine_87 : decode cX6_keepLine 87 = .ok (.ireturn, 1) := by decide +kernel
set_option maxRecDepth 20000 in
theorem ggX6_passZero_X6_byteAt : GoodIn wsX6_passZero wsX6_byteAt := goodIn_r _ [6, 7, 8, 17, 18, 19, 20, 21, 22, 23, 24] (by decide +kernel) (by decide +kernel)
set_option maxRecDepth 20000 in
theorem gX6_passZero_X6_byteAt : GoodIn wsX6_passZero (wsV RX6 40 RX6 yX6_byteAt wsX6_byteAt) := goodIn_app (goodIn_of _ (by decide +kernel)) ggX6_passZero_X6_byteAt
set_option maxRecDepth 20000 in
theorem ggX6_passZero_X6_isBlank : GoodIn wsX6_passZero wsX6_isBlank := goodIn_r _ [11] (by decide +kernel) (by decide +kernel)
set_option maxRecDepth 20000 in
theorem gX6_passZero_X6_isBlank : GoodIn wsX6_passZero (va_wsS RX6 58 yX6_isBlank wsX6_isBlank) := goodIn_app (goodIn_of _ (by decide +kernel)) ggX6_passZero_X6_isBlank
set_option maxRecDepth 20000 in
theorem ggX6_passZero_X6_fail : GoodIn wsX6_passZero wsX6_fail := goodIn_r _ [15, 16, 1, 17, 18, 19, 20, 21, 22, 23, 24] (by decide +kernel) (by decide +kernel)
set_option maxRecDepth 20000 in
theorem gX6_passZero_X6_fail : GoodIn wsX6_passZero (wsV RX6 61 RX6 yX6_fail wsX6_fail) := goodIn_app (goodIn_of _ (by decide +kernel)) ggX6_passZero_X6_fail
theorem dX6_passZero_0 : decode cX6_passZero 0 = .ok (.aload_n 0, 1) := by decide +kernel
theorem dX6_passZero_1 : decode cX6_passZero 1 = .ok (.dup, 1) := by decide +kernel
theorem dX6_passZero_2 : decode cX6_passZero 2 = .ok (.getfield 22, 3) := by decide +kernel
theorem dX6_passZero_5 : decode cX6_passZero 5 = .ok (.iconst 1, 1) := by decide +kernel
theorem dX6_passZero_6 : decode cX6_passZero 6 = .ok (.iadd, 1) := by decide +kernel
theorem dX6_passZero_7 : decode cX6_passZero 7 = .ok (.putfield 22, 3) := by decide +kernel
theorem dX6_passZero_10 : decode cX6_passZero 10 = .ok (.aload_n 0, 1) := by decide +kernel
theorem dX6_passZero_11 : decode cX6_passZero 11 = .ok (.aload_n 0, 1) := by decide +kernel
theorem dX6_passZero_12 : decode cX6_passZero 12 = .ok (.getfield 22, 3) := by decide +kernel
theorem dX6_passZero_15 : decode cX6_passZero 15 = .ok (.invokevirtual 40, 3) := by decide +kernel
theorem dX6_passZero_18 : decode cX6_passZero 18 = .ok (.istore_n 1, 1) := by decide +kernel
theorem dX6_passZero_19 : decode cX6_passZero 19 = .ok (.iload_n 1, 1) := by decide +kernel
theorem dX6_passZero_20 : decode cX6_passZero 20 = .ok (.iconst (-1), 1) := by decide +kernel
theorem dX6_passZero_21 : decode cX6_passZero 21 = .ok (.if_icmp .eq 22, 3) := by decide +kernel
theorem dX6_passZero_24 : decode cX6_passZero 24 = .ok (.iload_n 1, 1) := by decide +kernel
theorem dX6_passZero_25 : decode cX6_passZero 25 = .ok (.invokestatic 58, 3) := by decide +kernel
theorem dX6_passZero_28 : decode cX6_passZero 28 = .ok (.ifCond .ne 15, 3) := by decide +kernel
theorem dX6_passZero_31 : decode cX6_passZero 31 = .ok (.aload_n 0, 1) := by decide +kernel
theorem dX6_passZero_32 : decode cX6_passZero 32 = .ok (.iconst 1, 1) := by decide +kernel
theorem dX6_passZero_33 : decode cX6_passZero 33 = .ok (.aload_n 0, 1) := by decide +kernel
theorem dX6_passZero_34 : decode cX6_passZero 34 = .ok (.getfield 22, 3) := by decide +kernel
theorem dX6_passZero_37 : decode cX6_passZero 37 = .ok (.invokevirtual 61, 3) := by decide +kernel
theorem dX6_passZero_40 : decode cX6_passZero 40 = .ok (.ifCond .eq 7, 3) := by decide +kernel
theorem dX6_passZero_43 : decode cX6_passZero 43 = .ok (.iconst 1, 1) := by decide +kernel
theorem dX6_passZero_44 : decode cX6_passZero 44 = .ok (.goto 4, 3) := by decide +kernel
theorem dX6_passZero_47 : decode cX6_passZero 47 = .ok (.iconst 0, 1) := by decide +kernel
theorem dX6_passZero_48 : decode cX6_passZero 48 = .ok (.ireturn, 1) := by decide +kernel
set_option maxRecDepth 20000 in
theorem ggX6_skipBlanks_X6_byteAt : GoodIn wsX6_skipBlanks wsX6_byteAt := goodIn_r _ [6, 7, 8, 12, 13, 14, 15, 16, 17, 18, 19] (by decide +kernel) (by decide +kernel)
set_option maxRecDepth 20000 in
theorem gX6_skipBlanks_X6_byteAt : GoodIn wsX6_skipBlanks (wsV RX6 40 RX6 yX6_byteAt wsX6_byteAt) := goodIn_app (goodIn_of _ (by decide +kernel)) ggX6_skipBlanks_X6_byteAt
set_option maxRecDepth 20000 in
theorem ggX6_skipBlanks_X6_isBlank : GoodIn wsX6_skipBlanks wsX6_isBlank := goodIn_r _ [11] (by decide +kernel) (by decide +kernel)
set_option maxRecDepth 20000 in
theorem gX6_skipBlanks_X6_isBlank : GoodIn wsX6_skipBlanks (va_wsS RX6 58 yX6_isBlank wsX6_isBlank) := goodIn_app (goodIn_of _ (by decide +kernel)) ggX6_skipBlanks_X6_isBlank
theorem dX6_skipBlanks_0 : decode cX6_skipBlanks 0 = .ok (.iconst 0, 1) := by decide +kernel
theorem dX6_skipBlanks_1 : decode cX6_skipBlanks 1 = .ok (.istore_n 1, 1) := by decide +kernel
theorem dX6_skipBlanks_2 : decode cX6_skipBlanks 2 = .ok (.iload_n 1, 1) := by decide +kernel
theorem dX6_skipBlanks_3 : decode cX6_skipBlanks 3 = .ok (.sipush 500, 3) := by decide +kernel
theorem dX6_skipBlanks_6 : decode cX6_skipBlanks 6 = .ok (.if_icmp .ge 33, 3) := by decide +kernel
theorem dX6_skipBlanks_9 : decode cX6_skipBlanks 9 = .ok (.aload_n 0, 1) := by decide +kernel
theorem dX6_skipBlanks_10 : decode cX6_skipBlanks 10 = .ok (.aload_n 0, 1) := by decide +kernel
theorem dX6_skipBlanks_11 : decode cX6_skipBlanks 11 = .ok (.getfield 22, 3) := by decide +kernel
theorem dX6_skipBlanks_14 : decode cX6_skipBlanks 14 = .ok (.invokevirtual 40, 3) := by decide +kernel
theorem dX6_skipBlanks_17 : decode cX6_skipBlanks 17 = .ok (.invokestatic 58, 3) := by decide +kernel
theorem dX6_skipBlanks_20 : decode cX6_skipBlanks 20 = .ok (.ifCond .eq 19, 3) := by decide +kernel
theorem dX6_skipBlanks_23 : decode cX6_skipBlanks 23 = .ok (.aload_n 0, 1) := by decide +kernel
theorem dX6_skipBlanks_24 : decode cX6_skipBlanks 24 = .ok (.dup, 1) := by decide +kernel
theorem dX6_skipBlanks_25 : decode cX6_skipBlanks 25 = .ok (.getfield 22, 3) := by decide +kernel
theorem dX6_skipBlanks_28 : decode cX6_skipBlanks 28 = .ok (.iconst 1, 1) := by decide +kernel
theorem dX6_skipBlanks_29 : decode cX6_skipBlanks 29 = .ok (.iadd, 1) := by decide +kernel
theorem dX6_skipBlanks_30 : decode cX6_skipBlanks 30 = .ok (.putfield 22, 3) := by decide +kernel
theorem dX6_skipBlanks_33 : decode cX6_skipBlanks 33 = .ok (.iinc 1 1, 3) := by decide +kernel
theorem dX6_skipBlanks_36 : decode cX6_skipBlanks 36 = .ok (.goto (-34), 3) := by decide +kernel
theorem dX6_skipBlanks_39 : decode cX6_skipBlanks 39 = .ok (.return_, 1) := by decide +kernel
theorem dX6_fail_0 : decode cX6_fail 0 = .ok (.aload_n 0, 1) := by decide +kernel
theorem dX6_fail_1 : decode cX6_fail 1 = .ok (.iload_n 1, 1) := by decide +kernel
theorem dX6_fail_2 : decode cX6_fail 2 = .ok (.putfield 19, 3) := by decide +kernel
theorem dX6_fail_5 : decode cX6_fail 5 = .ok (.aload_n 0, 1) := by decide +kernel
theorem dX6_fail_6 : decode cX6_fail 6 = .ok (.iload_n 2, 1) := by decide +kernel
theorem dX6_fail_7 : decode cX6_fail 7 = .ok (.putfield 22, 3) := by decide +kernel
theorem dX6_fail_10 : decode cX6_fail 10 = .ok (.iconst 0, 1) := by decide +kernel
theorem dX6_fail_11 : decode cX6_fail 11 = .ok (.ireturn, 1) := by decide +kernel
theorem dX6_byteAt_0 : decode cX6_byteAt 0 = .ok (.iload_n 1, 1) := by decide +kernel
theorem dX6_byteAt_1 : decode cX6_byteAt 1 = .ok (.ifCond .lt 27, 3) := by decide +kernel
theorem dX6_byteAt_4 : decode cX6_byteAt 4 = .ok (.iload_n 1, 1) := by decide +kernel
theorem dX6_byteAt_5 : decode cX6_byteAt 5 = .ok (.aload_n 0, 1) := by decide +kernel
theorem dX6_byteAt_6 : decode cX6_byteAt 6 = .ok (.getfield 15, 3) := by decide +kernel
theorem dX6_byteAt_9 : decode cX6_byteAt 9 = .ok (.if_icmp .ge 19, 3) := by decide +kernel
theorem dX6_byteAt_12 : decode cX6_byteAt 12 = .ok (.iload_n 1, 1) := by decide +kernel
theorem dX6_byteAt_13 : decode cX6_byteAt 13 = .ok (.sipush 500, 3) := by decide +kernel
theorem dX6_byteAt_16 : decode cX6_byteAt 16 = .ok (.if_icmp .ge 12, 3) := by decide +kernel
theorem dX6_byteAt_19 : decode cX6_byteAt 19 = .ok (.aload_n 0, 1) := by decide +kernel
theorem dX6_byteAt_20 : decode cX6_byteAt 20 = .ok (.getfield 9, 3) := by decide +kernel
theorem dX6_byteAt_23 : decode cX6_byteAt 23 = .ok (.iload_n 1, 1) := by decide +kernel
theorem dX6_byteAt_24 : decode cX6_byteAt 24 = .ok (.iaload, 1) := by decide +kernel
theorem dX6_byteAt_25 : decode cX6_byteAt 25 = .ok (.goto 4, 3) := by decide +kernel
theorem dX6_byteAt_28 : decode cX6_byteAt 28 = .ok (.iconst (-1), 1) := by decide +kernel
theorem dX6_byteAt_29 : decode cX6_byteAt 29 = .ok (.ireturn, 1) := by decide +kernel
theorem dX6_isBlank_0 : decode cX6_isBlank 0 = .ok (.iload_n 0, 1) := by decide +kernel
theorem dX6_isBlank_1 : decode cX6_isBlank 1 = .ok (.bipush 32, 2) := by decide +kernel
theorem dX6_isBlank_3 : decode cX6_isBlank 3 = .ok (.if_icmp .eq 9, 3) := by decide +kernel
theorem dX6_isBlank_6 : decode cX6_isBlank 6 = .ok (.iload_n 0, 1) := by decide +kernel
theorem dX6_isBlank_7 : decode cX6_isBlank 7 = .ok (.bipush 10, 2) := by decide +kernel
theorem dX6_isBlank_9 : decode cX6_isBlank 9 = .ok (.if_icmp .ne 7, 3) := by decide +kernel
theorem dX6_isBlank_12 : decode cX6_isBlank 12 = .ok (.iconst 1, 1) := by decide +kernel
theorem dX6_isBlank_13 : decode cX6_isBlank 13 = .ok (.goto 4, 3) := by decide +kernel
theorem dX6_isBlank_16 : decode cX6_isBlank 16 = .ok (.iconst 0, 1) := by decide +kernel
theorem dX6_isBlank_17 : decode cX6_isBlank 17 = .ok (.ireturn, 1) := by decide +kernel
theorem dX6_isFigure_0 : decode cX6_isFigure 0 = .ok (.iload_n 0, 1) := by decide +kernel
theorem dX6_isFigure_1 : decode cX6_isFigure 1 = .ok (.bipush 48, 2) := by decide +kernel
theorem dX6_isFigure_3 : decode cX6_isFigure 3 = .ok (.if_icmp .lt 13, 3) := by decide +kernel
theorem dX6_isFigure_6 : decode cX6_isFigure 6 = .ok (.iload_n 0, 1) := by decide +kernel
theorem dX6_isFigure_7 : decode cX6_isFigure 7 = .ok (.bipush 57, 2) := by decide +kernel
theorem dX6_isFigure_9 : decode cX6_isFigure 9 = .ok (.if_icmp .gt 7, 3) := by decide +kernel
theorem dX6_isFigure_12 : decode cX6_isFigure 12 = .ok (.iconst 1, 1) := by decide +kernel
theorem dX6_isFigure_13 : decode cX6_isFigure 13 = .ok (.goto 4, 3) := by decide +kernel
theorem dX6_isFigure_16 : decode cX6_isFigure 16 = .ok (.iconst 0, 1) := by decide +kernel
theorem dX6_isFigure_17 : decode cX6_isFigure 17 = .ok (.ireturn, 1) := by decide +kernel
set_option maxRecDepth 20000 in
theorem ggX7_init_X4_init : GoodIn wsX7_init wsX4_init := goodIn_r _ [44, 45, 2, 3, 46, 47, 48, 49, 50, 51, 52, 107, 108, 109, 110, 111, 112, 113, 114] (by decide +kernel) (by decide +kernel)
set_option maxRecDepth 20000 in
theorem gX7_init_X4_init_n28 : GoodIn wsX7_init (wsX4_init) := ggX7_init_X4_init
set_option maxRecDepth 20000 in
theorem ggX7_init_X6_init : GoodIn wsX7_init wsX6_init := goodIn_r _ [54, 55, 2, 3, 50, 56, 115, 116, 117, 118, 119, 120, 121, 122] (by decide +kernel) (by decide +kernel)
set_option maxRecDepth 20000 in
theorem gX7_init_X6_init_n35 : GoodIn wsX7_init (wsX6_init) := ggX7_init_X6_init
set_option maxRecDepth 20000 in
theorem ggX7_init_X2_init : GoodIn wsX7_init wsX2_init := goodIn_r _ [59, 60, 2, 3, 61, 46, 62, 123, 124, 125] (by decide +kernel) (by decide +kernel)
set_option maxRecDepth 20000 in
theorem gX7_init_X2_init : GoodIn wsX7_init (wsX2_init) := ggX7_init_X2_init
set_option maxRecDepth 20000 in
theorem ggX7_init_X0_init : GoodIn wsX7_init wsX0_init := goodIn_r _ [65, 66, 2, 3, 67, 46, 68, 69, 126, 127, 128] (by decide +kernel) (by decide +kernel)
set_option maxRecDepth 20000 in
theorem gX7_init_X0_init : GoodIn wsX7_init (wsX0_init) := ggX7_init_X0_init
set_option maxRecDepth 20000 in
theorem ggX7_init_X1_init : GoodIn wsX7_init wsX1_init := goodIn_r _ [71, 72, 2, 3, 46, 73, 129, 130] (by decide +kernel) (by decide +kernel)
set_option maxRecDepth 20000 in
theorem gX7_init_X1_init_n58 : GoodIn wsX7_init (wsX1_init) := ggX7_init_X1_init
set_option maxRecDepth 20000 in
theorem ggX7_init_X5_init : GoodIn wsX7_init wsX5_init := goodIn_r _ [76, 77, 2, 3, 78, 79, 22, 23, 80, 81, 58, 59, 60, 61, 46, 62, 131, 132, 133, 134, 123, 124, 125] (by decide +kernel) (by decide +kernel)
set_option maxRecDepth 20000 in
theorem gX7_init_X5_init : GoodIn wsX7_init (wsX5_init) := ggX7_init_X5_init
set_option maxRecDepth 20000 in
theorem ggX7_init_X3_init : GoodIn wsX7_init wsX3_init := goodIn_r _ [84, 85, 2, 3, 86, 87, 34, 35, 88, 46, 89, 90, 91, 92, 75, 76, 77, 78, 79, 22, 23, 80, 81, 58, 59, 60, 61, 62, 135, 136, 137, 138, 139, 140, 141, 142, 143, 144, 131, 132, 133, 134, 123, 124, 125] (by decide +kernel) (by decide +kernel)
set_option maxRecDepth 20000 in
theorem gX7_init_X3_init : GoodIn wsX7_init (wsX3_init) := ggX7_init_X3_init
theorem dX7_init_0 : decode cX7_init 0 = .ok (.aload_n 0, 1) := by decide +kernel
theorem dX7_init_1 : decode cX7_init 1 = .ok (.invokespecial 1, 3) := by decide +kernel
theorem dX7_init_4 : decode cX7_init 4 = .ok (.aload_n 0, 1) := by decide +kernel
theorem dX7_init_5 : decode cX7_init 5 = .ok (.iconst 1, 1) := by decide +kernel
theorem dX7_init_6 : decode cX7_init 6 = .ok (.iload_n 1, 1) := by decide +kernel
theorem dX7_init_7 : decode cX7_init 7 = .ok (.bipush 40, 2) := by decide +kernel
theorem dX7_init_9 : decode cX7_init 9 = .ok (.invokestatic 9, 3) := by decide +kernel
theorem dX7_init_12 : decode cX7_init 12 = .ok (.invokestatic 15, 3) := by decide +kernel
theorem dX7_init_15 : decode cX7_init 15 = .ok (.putfield 18, 3) := by decide +kernel
theorem dX7_init_18 : decode cX7_init 18 = .ok (.aload_n 0, 1) := by decide +kernel
theorem dX7_init_19 : decode cX7_init 19 = .ok (.lconst 1, 1) := by decide +kernel
theorem dX7_init_20 : decode cX7_init 20 = .ok (.aload_n 0, 1) := by decide +kernel
theorem dX7_init_21 : decode cX7_init 21 = .ok (.getfield 18, 3) := by decide +kernel
theorem dX7_init_24 : decode cX7_init 24 = .ok (.lshl, 1) := by decide +kernel
theorem dX7_init_25 : decode cX7_init 25 = .ok (.lconst 1, 1) := by decide +kernel
theorem dX7_init_26 : decode cX7_init 26 = .ok (.lsub, 1) := by decide +kernel
theorem dX7_init_27 : decode cX7_init 27 = .ok (.putfield 22, 3) := by decide +kernel
theorem dX7_init_30 : decode cX7_init 30 = .ok (.aload_n 0, 1) := by decide +kernel
theorem dX7_init_31 : decode cX7_init 31 = .ok (.new 26, 3) := by decide +kernel
theorem dX7_init_34 : decode cX7_init 34 = .ok (.dup, 1) := by decide +kernel
theorem dX7_init_35 : decode cX7_init 35 = .ok (.invokespecial 28, 3) := by decide +kernel
theorem dX7_init_38 : decode cX7_init 38 = .ok (.putfield 29, 3) := by decide +kernel
theorem dX7_init_41 : decode cX7_init 41 = .ok (.aload_n 0, 1) := by decide +kernel
theorem dX7_init_42 : decode cX7_init 42 = .ok (.new 33, 3) := by decide +kernel
theorem dX7_init_45 : decode cX7_init 45 = .ok (.dup, 1) := by decide +kernel
theorem dX7_init_46 : decode cX7_init 46 = .ok (.invokespecial 35, 3) := by decide +kernel
theorem dX7_init_49 : decode cX7_init 49 = .ok (.putfield 36, 3) := by decide +kernel
theorem dX7_init_52 : decode cX7_init 52 = .ok (.aload_n 0, 1) := by decide +kernel
theorem dX7_init_53 : decode cX7_init 53 = .ok (.new 40, 3) := by decide +kernel
theorem dX7_init_56 : decode cX7_init 56 = .ok (.dup, 1) := by decide +kernel
theorem dX7_init_57 : decode cX7_init 57 = .ok (.aload_n 0, 1) := by decide +kernel
theorem dX7_init_58 : decode cX7_init 58 = .ok (.getfield 18, 3) := by decide +kernel
theorem dX7_init_61 : decode cX7_init 61 = .ok (.invokespecial 42, 3) := by decide +kernel
theorem dX7_init_64 : decode cX7_init 64 = .ok (.putfield 45, 3) := by decide +kernel
theorem dX7_init_67 : decode cX7_init 67 = .ok (.aload_n 0, 1) := by decide +kernel
theorem dX7_init_68 : decode cX7_init 68 = .ok (.new 49, 3) := by decide +kernel
theorem dX7_init_71 : decode cX7_init 71 = .ok (.dup, 1) := by decide +kernel
theorem dX7_init_72 : decode cX7_init 72 = .ok (.aload_n 0, 1) := by decide +kernel
theorem dX7_init_73 : decode cX7_init 73 = .ok (.getfield 18, 3) := by decide +kernel
theorem dX7_init_76 : decode cX7_init 76 = .ok (.invokespecial 51, 3) := by decide +kernel
theorem dX7_init_79 : decode cX7_init 79 = .ok (.putfield 52, 3) := by decide +kernel
theorem dX7_init_82 : decode cX7_init 82 = .ok (.aload_n 0, 1) := by decide +kernel
theorem dX7_init_83 : decode cX7_init 83 = .ok (.new 56, 3) := by decide +kernel
theorem dX7_init_86 : decode cX7_init 86 = .ok (.dup, 1) := by decide +kernel
theorem dX7_init_87 : decode cX7_init 87 = .ok (.invokespecial 58, 3) := by decide +kernel
theorem dX7_init_90 : decode cX7_init 90 = .ok (.putfield 59, 3) := by decide +kernel
theorem dX7_init_93 : decode cX7_init 93 = .ok (.aload_n 0, 1) := by decide +kernel
theorem dX7_init_94 : decode cX7_init 94 = .ok (.new 63, 3) := by decide +kernel
theorem dX7_init_97 : decode cX7_init 97 = .ok (.dup, 1) := by decide +kernel
theorem dX7_init_98 : decode cX7_init 98 = .ok (.aload_n 0, 1) := by decide +kernel
theorem dX7_init_99 : decode cX7_init 99 = .ok (.getfield 18, 3) := by decide +kernel
theorem dX7_init_102 : decode cX7_init 102 = .ok (.invokespecial 65, 3) := by decide +kernel
theorem dX7_init_105 : decode cX7_init 105 = .ok (.putfield 66, 3) := by decide +kernel
theorem dX7_init_108 : decode cX7_init 108 = .ok (.aload_n 0, 1) := by decide +kernel
theorem dX7_init_109 : decode cX7_init 109 = .ok (.new 70, 3) := by decide +kernel
theorem dX7_init_112 : decode cX7_init 112 = .ok (.dup, 1) := by decide +kernel
theorem dX7_init_113 : decode cX7_init 113 = .ok (.aload_n 0, 1) := by decide +kernel
theorem dX7_init_114 : decode cX7_init 114 = .ok (.getfield 18, 3) := by decide +kernel
theorem dX7_init_117 : decode cX7_init 117 = .ok (.invokespecial 72, 3) := by decide +kernel
theorem dX7_init_120 : decode cX7_init 120 = .ok (.putfield 73, 3) := by decide +kernel
theorem dX7_init_123 : decode cX7_init 123 = .ok (.aload_n 0, 1) := by decide +kernel
theorem dX7_init_124 : decode cX7_init 124 = .ok (.ldc2_w 77, 3) := by decide +kernel
theorem dX7_init_127 : decode cX7_init 127 = .ok (.putfield 79, 3) := by decide +kernel
theorem dX7_init_130 : decode cX7_init 130 = .ok (.return_, 1) := by decide +kernel
set_option maxRecDepth 20000 in
theorem ggX7_equation_X7_areVariables : GoodIn wsX7_equation wsX7_areVariables := goodIn_r _ [12, 13, 14, 28, 29, 30, 31, 32, 33, 34, 35, 36, 37, 38, 39, 40, 41] (by decide +kernel) (by decide +kernel)
set_option maxRecDepth 20000 in
theorem gX7_equation_X7_areVariables : GoodIn wsX7_equation (wsV RX7 82 RX7 yX7_areVariables wsX7_areVariables) := goodIn_app (goodIn_of _ (by decide +kernel)) ggX7_equation_X7_areVariables
set_option maxRecDepth 20000 in
theorem ggX7_equation_X7_forget : GoodIn wsX7_equation wsX7_forget := goodIn_r _ [18, 19, 20, 28, 29, 30, 31, 32, 33, 34, 35, 36, 37, 38, 39, 40, 41] (by decide +kernel) (by decide +kernel)
set_option maxRecDepth 20000 in
theorem gX7_equation_X7_forget : GoodIn wsX7_equation (wsV RX7 101 RX7 yX7_forget wsX7_forget) := goodIn_app (goodIn_of _ (by decide +kernel)) ggX7_equation_X7_forget
set_option maxRecDepth 20000 in
theorem ggX7_equation_X4_addEquation : GoodIn wsX7_equation wsX4_addEquation := goodIn_r _ [25, 26, 27, 42, 43, 44, 45, 46, 47, 48, 49] (by decide +kernel) (by decide +kernel)
set_option maxRecDepth 20000 in
theorem gX7_equation_X4_addEquation : GoodIn wsX7_equation (wsV RX7 106 RX4 yX4_addEquation wsX4_addEquation) := goodIn_app (goodIn_of _ (by decide +kernel)) ggX7_equation_X4_addEquation
theorem dX7_equation_0 : decode cX7_equation 0 = .ok (.aload_n 0, 1) := by decide +kernel
theorem dX7_equation_1 : decode cX7_equation 1 = .ok (.lload_n 1, 1) := by decide +kernel
theorem dX7_equation_2 : decode cX7_equation 2 = .ok (.invokevirtual 82, 3) := by decide +kernel
theorem dX7_equation_5 : decode cX7_equation 5 = .ok (.ifCond .eq 12, 3) := by decide +kernel
theorem dX7_equation_8 : decode cX7_equation 8 = .ok (.iload_n 3, 1) := by decide +kernel
theorem dX7_equation_9 : decode cX7_equation 9 = .ok (.ifCond .lt 8, 3) := by decide +kernel
theorem dX7_equation_12 : decode cX7_equation 12 = .ok (.iload_n 3, 1) := by decide +kernel
theorem dX7_equation_13 : decode cX7_equation 13 = .ok (.iconst 1, 1) := by decide +kernel
theorem dX7_equation_14 : decode cX7_equation 14 = .ok (.if_icmp .le 13, 3) := by decide +kernel
theorem dX7_equation_17 : decode cX7_equation 17 = .ok (.new 86, 3) := by decide +kernel
theorem dX7_equation_20 : decode cX7_equation 20 = .ok (.dup, 1) := by decide +kernel
theorem dX7_equation_21 : decode cX7_equation 21 = .ok (.ldc 88, 2) := by decide +kernel
theorem dX7_equation_23 : decode cX7_equation 23 = .ok (.invokespecial 90, 3) := by decide +kernel
theorem dX7_equation_26 : decode cX7_equation 26 = .ok (.athrow, 1) := by decide +kernel
theorem dX7_equation_27 : decode cX7_equation 27 = .ok (.aload_n 0, 1) := by decide +kernel
theorem dX7_equation_28 : decode cX7_equation 28 = .ok (.getfield 29, 3) := by decide +kernel
theorem dX7_equation_31 : decode cX7_equation 31 = .ok (.getfield 93, 3) := by decide +kernel
theorem dX7_equation_34 : decode cX7_equation 34 = .ok (.bipush 60, 2) := by decide +kernel
theorem dX7_equation_36 : decode cX7_equation 36 = .ok (.if_icmp .lt 13, 3) := by decide +kernel
theorem dX7_equation_39 : decode cX7_equation 39 = .ok (.new 96, 3) := by decide +kernel
theorem dX7_equation_42 : decode cX7_equation 42 = .ok (.dup, 1) := by decide +kernel
theorem dX7_equation_43 : decode cX7_equation 43 = .ok (.ldc 98, 2) := by decide +kernel
theorem dX7_equation_45 : decode cX7_equation 45 = .ok (.invokespecial 100, 3) := by decide +kernel
theorem dX7_equation_48 : decode cX7_equation 48 = .ok (.athrow, 1) := by decide +kernel
theorem dX7_equation_49 : decode cX7_equation 49 = .ok (.aload_n 0, 1) := by decide +kernel
theorem dX7_equation_50 : decode cX7_equation 50 = .ok (.invokevirtual 101, 3) := by decide +kernel
theorem dX7_equation_53 : decode cX7_equation 53 = .ok (.aload_n 0, 1) := by decide +kernel
theorem dX7_equation_54 : decode cX7_equation 54 = .ok (.getfield 29, 3) := by decide +kernel
theorem dX7_equation_57 : decode cX7_equation 57 = .ok (.iload_n 3, 1) := by decide +kernel
theorem dX7_equation_58 : decode cX7_equation 58 = .ok (.iconst 1, 1) := by decide +kernel
theorem dX7_equation_59 : decode cX7_equation 59 = .ok (.if_icmp .ne 11, 3) := by decide +kernel
theorem dX7_equation_62 : decode cX7_equation 62 = .ok (.lload_n 1, 1) := by decide +kernel
theorem dX7_equation_63 : decode cX7_equation 63 = .ok (.ldc2_w 104, 3) := by decide +kernel
theorem dX7_equation_66 : decode cX7_equation 66 = .ok (.lor, 1) := by decide +kernel
theorem dX7_equation_67 : decode cX7_equation 67 = .ok (.goto 4, 3) := by decide +kernel
theorem dX7_equation_70 : decode cX7_equation 70 = .ok (.lload_n 1, 1) := by decide +kernel
theorem dX7_equation_71 : decode cX7_equation 71 = .ok (.invokevirtual 106, 3) := by decide +kernel
theorem dX7_equation_74 : decode cX7_equation 74 = .ok (.pop, 1) := by decide +kernel
theorem dX7_equation_75 : decode cX7_equation 75 = .ok (.aload_n 0, 1) := by decide +kernel
theorem dX7_equation_76 : decode cX7_equation 76 = .ok (.getfield 29, 3) := by decide +kernel
theorem dX7_equation_79 : decode cX7_equation 79 = .ok (.getfield 93, 3) := by decide +kernel
theorem dX7_equation_82 : decode cX7_equation 82 = .ok (.iconst 1, 1) := by decide +kernel
theorem dX7_equation_83 : decode cX7_equation 83 = .ok (.isub, 1) := by decide +kernel
theorem dX7_equation_84 : decode cX7_equation 84 = .ok (.ireturn, 1) := by decide +kernel
set_option maxRecDepth 20000 in
theorem ggX7_clause_X7_areTwoSets : GoodIn wsX7_clause wsX7_areTwoSets := goodIn_r _ [11, 12, 13, 14, 10, 15, 16, 17, 32, 33, 34, 35, 36, 37, 38, 39, 40, 41, 42, 43, 44, 45] (by decide +kernel) (by decide +kernel)
set_option maxRecDepth 20000 in
theorem gX7_clause_X7_areTwoSets : GoodIn wsX7_clause (wsV RX7 109 RX7 yX7_areTwoSets wsX7_areTwoSets) := goodIn_app (goodIn_of _ (by decide +kernel)) ggX7_clause_X7_areTwoSets
set_option maxRecDepth 20000 in
theorem ggX7_clause_X7_forget : GoodIn wsX7_clause wsX7_forget := goodIn_r _ [21, 22, 23, 32, 33, 34, 35, 36, 37, 38, 39, 40, 41, 42, 43, 44, 45] (by decide +kernel) (by decide +kernel)
set_option maxRecDepth 20000 in
theorem gX7_clause_X7_forget : GoodIn wsX7_clause (wsV RX7 101 RX7 yX7_forget wsX7_forget) := goodIn_app (goodIn_of _ (by decide +kernel)) ggX7_clause_X7_forget
set_option maxRecDepth 20000 in
theorem ggX7_clause_X4_addClause : GoodIn wsX7_clause wsX4_addClause := goodIn_r _ [28, 29, 30, 31, 46, 47, 48, 49, 50, 51, 52, 53] (by decide +kernel) (by decide +kernel)
set_option maxRecDepth 20000 in
theorem gX7_clause_X4_addClause : GoodIn wsX7_clause (wsV RX7 120 RX4 yX4_addClause wsX4_addClause) := goodIn_app (goodIn_of _ (by decide +kernel)) ggX7_clause_X4_addClause
theorem dX7_clause_0 : decode cX7_clause 0 = .ok (.aload_n 0, 1) := by decide +kernel
theorem dX7_clause_1 : decode cX7_clause 1 = .ok (.lload_n 1, 1) := by decide +kernel
theorem dX7_clause_2 : decode cX7_clause 2 = .ok (.lload_n 3, 1) := by decide +kernel
theorem dX7_clause_3 : decode cX7_clause 3 = .ok (.invokevirtual 109, 3) := by decide +kernel
theorem dX7_clause_6 : decode cX7_clause 6 = .ok (.ifCond .ne 13, 3) := by decide +kernel
theorem dX7_clause_9 : decode cX7_clause 9 = .ok (.new 86, 3) := by decide +kernel
theorem dX7_clause_12 : decode cX7_clause 12 = .ok (.dup, 1) := by decide +kernel
theorem dX7_clause_13 : decode cX7_clause 13 = .ok (.ldc 113, 2) := by decide +kernel
theorem dX7_clause_15 : decode cX7_clause 15 = .ok (.invokespecial 90, 3) := by decide +kernel
theorem dX7_clause_18 : decode cX7_clause 18 = .ok (.athrow, 1) := by decide +kernel
theorem dX7_clause_19 : decode cX7_clause 19 = .ok (.aload_n 0, 1) := by decide +kernel
theorem dX7_clause_20 : decode cX7_clause 20 = .ok (.getfield 29, 3) := by decide +kernel
theorem dX7_clause_23 : decode cX7_clause 23 = .ok (.getfield 115, 3) := by decide +kernel
theorem dX7_clause_26 : decode cX7_clause 26 = .ok (.bipush 60, 2) := by decide +kernel
theorem dX7_clause_28 : decode cX7_clause 28 = .ok (.if_icmp .lt 13, 3) := by decide +kernel
theorem dX7_clause_31 : decode cX7_clause 31 = .ok (.new 96, 3) := by decide +kernel
theorem dX7_clause_34 : decode cX7_clause 34 = .ok (.dup, 1) := by decide +kernel
theorem dX7_clause_35 : decode cX7_clause 35 = .ok (.ldc 118, 2) := by decide +kernel
theorem dX7_clause_37 : decode cX7_clause 37 = .ok (.invokespecial 100, 3) := by decide +kernel
theorem dX7_clause_40 : decode cX7_clause 40 = .ok (.athrow, 1) := by decide +kernel
theorem dX7_clause_41 : decode cX7_clause 41 = .ok (.aload_n 0, 1) := by decide +kernel
theorem dX7_clause_42 : decode cX7_clause 42 = .ok (.invokevirtual 101, 3) := by decide +kernel
theorem dX7_clause_45 : decode cX7_clause 45 = .ok (.aload_n 0, 1) := by decide +kernel
theorem dX7_clause_46 : decode cX7_clause 46 = .ok (.getfield 29, 3) := by decide +kernel
theorem dX7_clause_49 : decode cX7_clause 49 = .ok (.lload_n 1, 1) := by decide +kernel
theorem dX7_clause_50 : decode cX7_clause 50 = .ok (.lload_n 3, 1) := by decide +kernel
theorem dX7_clause_51 : decode cX7_clause 51 = .ok (.invokevirtual 120, 3) := by decide +kernel
theorem dX7_clause_54 : decode cX7_clause 54 = .ok (.pop, 1) := by decide +kernel
theorem dX7_clause_55 : decode cX7_clause 55 = .ok (.aload_n 0, 1) := by decide +kernel
theorem dX7_clause_56 : decode cX7_clause 56 = .ok (.getfield 29, 3) := by decide +kernel
theorem dX7_clause_59 : decode cX7_clause 59 = .ok (.getfield 115, 3) := by decide +kernel
theorem dX7_clause_62 : decode cX7_clause 62 = .ok (.iconst 1, 1) := by decide +kernel
theorem dX7_clause_63 : decode cX7_clause 63 = .ok (.isub, 1) := by decide +kernel
theorem dX7_clause_64 : decode cX7_clause 64 = .ok (.ireturn, 1) := by decide +kernel
set_option maxRecDepth 20000 in
theorem ggX7_feed_X6_put : GoodIn wsX7_feed wsX6_put := goodIn_r _ [11, 12, 13, 28, 29, 30, 31, 32, 33, 34, 35] (by decide +kernel) (by decide +kernel)
set_option maxRecDepth 20000 in
theorem gX7_feed_X6_put : GoodIn wsX7_feed (wsV RX7 130 RX6 yX6_put wsX6_put) := goodIn_app (goodIn_of _ (by decide +kernel)) ggX7_feed_X6_put
theorem dX7_feed_0 : decode cX7_feed 0 = .ok (.iload_n 3, 1) := by decide +kernel
theorem dX7_feed_1 : decode cX7_feed 1 = .ok (.iconst 1, 1) := by decide +kernel
theorem dX7_feed_2 : decode cX7_feed 2 = .ok (.if_icmp .lt 9, 3) := by decide +kernel
theorem dX7_feed_5 : decode cX7_feed 5 = .ok (.iload_n 3, 1) := by decide +kernel
theorem dX7_feed_6 : decode cX7_feed 6 = .ok (.bipush 8, 2) := by decide +kernel
theorem dX7_feed_8 : decode cX7_feed 8 = .ok (.if_icmp .le 13, 3) := by decide +kernel
theorem dX7_feed_11 : decode cX7_feed 11 = .ok (.new 86, 3) := by decide +kernel
theorem dX7_feed_14 : decode cX7_feed 14 = .ok (.dup, 1) := by decide +kernel
theorem dX7_feed_15 : decode cX7_feed 15 = .ok (.ldc 123, 2) := by decide +kernel
theorem dX7_feed_17 : decode cX7_feed 17 = .ok (.invokespecial 90, 3) := by decide +kernel
theorem dX7_feed_20 : decode cX7_feed 20 = .ok (.athrow, 1) := by decide +kernel
theorem dX7_feed_21 : decode cX7_feed 21 = .ok (.aload_n 0, 1) := by decide +kernel
theorem dX7_feed_22 : decode cX7_feed 22 = .ok (.getfield 36, 3) := by decide +kernel
theorem dX7_feed_25 : decode cX7_feed 25 = .ok (.getfield 125, 3) := by decide +kernel
theorem dX7_feed_28 : decode cX7_feed 28 = .ok (.iload_n 3, 1) := by decide +kernel
theorem dX7_feed_29 : decode cX7_feed 29 = .ok (.iadd, 1) := by decide +kernel
theorem dX7_feed_30 : decode cX7_feed 30 = .ok (.sipush 500, 3) := by decide +kernel
theorem dX7_feed_33 : decode cX7_feed 33 = .ok (.if_icmp .le 13, 3) := by decide +kernel
theorem dX7_feed_36 : decode cX7_feed 36 = .ok (.new 96, 3) := by decide +kernel
theorem dX7_feed_39 : decode cX7_feed 39 = .ok (.dup, 1) := by decide +kernel
theorem dX7_feed_40 : decode cX7_feed 40 = .ok (.ldc 128, 2) := by decide +kernel
theorem dX7_feed_42 : decode cX7_feed 42 = .ok (.invokespecial 100, 3) := by decide +kernel
theorem dX7_feed_45 : decode cX7_feed 45 = .ok (.athrow, 1) := by decide +kernel
theorem dX7_feed_46 : decode cX7_feed 46 = .ok (.iload_n 3, 1) := by decide +kernel
theorem dX7_feed_47 : decode cX7_feed 47 = .ok (.iconst 1, 1) := by decide +kernel
theorem dX7_feed_48 : decode cX7_feed 48 = .ok (.isub, 1) := by decide +kernel
theorem dX7_feed_49 : decode cX7_feed 49 = .ok (.istore 4, 2) := by decide +kernel
theorem dX7_feed_51 : decode cX7_feed 51 = .ok (.iload 4, 2) := by decide +kernel
theorem dX7_feed_53 : decode cX7_feed 53 = .ok (.ifCond .lt 28, 3) := by decide +kernel
theorem dX7_feed_56 : decode cX7_feed 56 = .ok (.aload_n 0, 1) := by decide +kernel
theorem dX7_feed_57 : decode cX7_feed 57 = .ok (.getfield 36, 3) := by decide +kernel
theorem dX7_feed_60 : decode cX7_feed 60 = .ok (.lload_n 1, 1) := by decide +kernel
theorem dX7_feed_61 : decode cX7_feed 61 = .ok (.bipush 8, 2) := by decide +kernel
theorem dX7_feed_63 : decode cX7_feed 63 = .ok (.iload 4, 2) := by decide +kernel
theorem dX7_feed_65 : decode cX7_feed 65 = .ok (.imul, 1) := by decide +kernel
theorem dX7_feed_66 : decode cX7_feed 66 = .ok (.lushr, 1) := by decide +kernel
theorem dX7_feed_67 : decode cX7_feed 67 = .ok (.l2i, 1) := by decide +kernel
theorem dX7_feed_68 : decode cX7_feed 68 = .ok (.sipush 255, 3) := by decide +kernel
theorem dX7_feed_71 : decode cX7_feed 71 = .ok (.iand, 1) := by decide +kernel
theorem dX7_feed_72 : decode cX7_feed 72 = .ok (.invokevirtual 130, 3) := by decide +kernel
theorem dX7_feed_75 : decode cX7_feed 75 = .ok (.iinc 4 (-1), 3) := by decide +kernel
theorem dX7_feed_78 : decode cX7_feed 78 = .ok (.goto (-27), 3) := by decide +kernel
theorem dX7_feed_81 : decode cX7_feed 81 = .ok (.aload_n 0, 1) := by decide +kernel
theorem dX7_feed_82 : decode cX7_feed 82 = .ok (.getfield 36, 3) := by decide +kernel
theorem dX7_feed_85 : decode cX7_feed 85 = .ok (.getfield 125, 3) := by decide +kernel
theorem dX7_feed_88 : decode cX7_feed 88 = .ok (.ireturn, 1) := by decide +kernel
set_option maxRecDepth 20000 in
theorem ggX7_read_X6_readLines : GoodIn wsX7_read wsX6_readLines := goodIn_r _ [13, 14, 15, 16, 17, 18, 19, 12, 20, 21, 22, 23, 24, 25, 26, 27, 28, 29, 30, 31, 32, 33, 34, 35, 36, 37, 38, 39, 40, 41, 42, 43, 44, 45, 46, 47, 48, 49, 50, 51, 52, 53, 54, 55, 56, 57, 58, 59, 60, 61, 62, 63, 64, 65, 66, 67, 68, 69, 70, 71, 72, 73, 74, 75, 76, 77, 78, 79, 80, 81, 82, 116, 117, 118, 119, 120, 121, 122, 123, 108, 109, 110, 111, 112, 113, 114, 115] (by decide +kernel) (by decide +kernel)
set_option maxRecDepth 20000 in
theorem gX7_read_X6_readLines : GoodIn wsX7_read (wsV RX7 133 RX6 yX6_readLines wsX6_readLines) := goodIn_app (goodIn_of _ (by decide +kernel)) ggX7_read_X6_readLines
set_option maxRecDepth 20000 in
theorem ggX7_read_X4_cutTo : GoodIn wsX7_read wsX4_cutTo := goodIn_r _ [86, 70, 76, 108, 109, 110, 111, 112, 113, 114, 115] (by decide +kernel) (by decide +kernel)
set_option maxRecDepth 20000 in
theorem gX7_read_X4_cutTo : GoodIn wsX7_read (wsV RX7 137 RX4 yX4_cutTo wsX4_cutTo) := goodIn_app (goodIn_of _ (by decide +kernel)) ggX7_read_X4_cutTo
set_option maxRecDepth 20000 in
theorem ggX7_read_X7_forget : GoodIn wsX7_read wsX7_forget := goodIn_r _ [91, 92, 93, 94, 95, 96, 97, 98, 99, 100, 101, 102, 103, 104, 105, 106, 107] (by decide +kernel) (by decide +kernel)
set_option maxRecDepth 20000 in
theorem gX7_read_X7_forget : GoodIn wsX7_read (wsV RX7 101 RX7 yX7_forget wsX7_forget) := goodIn_app (goodIn_of _ (by decide +kernel)) ggX7_read_X7_forget
theorem dX7_read_0 : decode cX7_read 0 = .ok (.aload_n 0, 1) := by decide +kernel
theorem dX7_read_1 : decode cX7_read 1 = .ok (.getfield 29, 3) := by decide +kernel
theorem dX7_read_4 : decode cX7_read 4 = .ok (.getfield 93, 3) := by decide +kernel
theorem dX7_read_7 : decode cX7_read 7 = .ok (.istore_n 1, 1) := by decide +kernel
theorem dX7_read_8 : decode cX7_read 8 = .ok (.aload_n 0, 1) := by decide +kernel
theorem dX7_read_9 : decode cX7_read 9 = .ok (.getfield 29, 3) := by decide +kernel
theorem dX7_read_12 : decode cX7_read 12 = .ok (.getfield 115, 3) := by decide +kernel
theorem dX7_read_15 : decode cX7_read 15 = .ok (.istore_n 2, 1) := by decide +kernel
theorem dX7_read_16 : decode cX7_read 16 = .ok (.aload_n 0, 1) := by decide +kernel
theorem dX7_read_17 : decode cX7_read 17 = .ok (.getfield 36, 3) := by decide +kernel
theorem dX7_read_20 : decode cX7_read 20 = .ok (.aload_n 0, 1) := by decide +kernel
theorem dX7_read_21 : decode cX7_read 21 = .ok (.getfield 29, 3) := by decide +kernel
theorem dX7_read_24 : decode cX7_read 24 = .ok (.aload_n 0, 1) := by decide +kernel
theorem dX7_read_25 : decode cX7_read 25 = .ok (.getfield 18, 3) := by decide +kernel
theorem dX7_read_28 : decode cX7_read 28 = .ok (.invokevirtual 133, 3) := by decide +kernel
theorem dX7_read_31 : decode cX7_read 31 = .ok (.istore_n 3, 1) := by decide +kernel
theorem dX7_read_32 : decode cX7_read 32 = .ok (.iload_n 3, 1) := by decide +kernel
theorem dX7_read_33 : decode cX7_read 33 = .ok (.ifCond .ge 12, 3) := by decide +kernel
theorem dX7_read_36 : decode cX7_read 36 = .ok (.aload_n 0, 1) := by decide +kernel
theorem dX7_read_37 : decode cX7_read 37 = .ok (.getfield 29, 3) := by decide +kernel
theorem dX7_read_40 : decode cX7_read 40 = .ok (.iload_n 1, 1) := by decide +kernel
theorem dX7_read_41 : decode cX7_read 41 = .ok (.iload_n 2, 1) := by decide +kernel
theorem dX7_read_42 : decode cX7_read 42 = .ok (.invokevirtual 137, 3) := by decide +kernel
theorem dX7_read_45 : decode cX7_read 45 = .ok (.aload_n 0, 1) := by decide +kernel
theorem dX7_read_46 : decode cX7_read 46 = .ok (.aload_n 0, 1) := by decide +kernel
theorem dX7_read_47 : decode cX7_read 47 = .ok (.getfield 36, 3) := by decide +kernel
theorem dX7_read_50 : decode cX7_read 50 = .ok (.getfield 141, 3) := by decide +kernel
theorem dX7_read_53 : decode cX7_read 53 = .ok (.putfield 144, 3) := by decide +kernel
theorem dX7_read_56 : decode cX7_read 56 = .ok (.aload_n 0, 1) := by decide +kernel
theorem dX7_read_57 : decode cX7_read 57 = .ok (.getfield 36, 3) := by decide +kernel
theorem dX7_read_60 : decode cX7_read 60 = .ok (.iconst 0, 1) := by decide +kernel
theorem dX7_read_61 : decode cX7_read 61 = .ok (.putfield 125, 3) := by decide +kernel
theorem dX7_read_64 : decode cX7_read 64 = .ok (.aload_n 0, 1) := by decide +kernel
theorem dX7_read_65 : decode cX7_read 65 = .ok (.invokevirtual 101, 3) := by decide +kernel
theorem dX7_read_68 : decode cX7_read 68 = .ok (.iload_n 3, 1) := by decide +kernel
theorem dX7_read_69 : decode cX7_read 69 = .ok (.ireturn, 1) := by decide +kernel
theorem dX7_fault_0 : decode cX7_fault 0 = .ok (.aload_n 0, 1) := by decide +kernel
theorem dX7_fault_1 : decode cX7_fault 1 = .ok (.getfield 144, 3) := by decide +kernel
theorem dX7_fault_4 : decode cX7_fault 4 = .ok (.ireturn, 1) := by decide +kernel
set_option maxRecDepth 20000 in
theorem ggX7_push_X4_addLevel : GoodIn wsX7_push wsX4_addLevel := goodIn_r _ [9, 10, 11, 12, 13, 14, 29, 30, 31, 32, 33, 34, 35, 36] (by decide +kernel) (by decide +kernel)
set_option maxRecDepth 20000 in
theorem gX7_push_X4_addLevel : GoodIn wsX7_push (wsV RX7 152 RX4 yX4_addLevel wsX4_addLevel) := goodIn_app (goodIn_of _ (by decide +kernel)) ggX7_push_X4_addLevel
theorem dX7_push_0 : decode cX7_push 0 = .ok (.aload_n 0, 1) := by decide +kernel
theorem dX7_push_1 : decode cX7_push 1 = .ok (.getfield 29, 3) := by decide +kernel
theorem dX7_push_4 : decode cX7_push 4 = .ok (.getfield 147, 3) := by decide +kernel
theorem dX7_push_7 : decode cX7_push 7 = .ok (.bipush 20, 2) := by decide +kernel
theorem dX7_push_9 : decode cX7_push 9 = .ok (.if_icmp .lt 13, 3) := by decide +kernel
theorem dX7_push_12 : decode cX7_push 12 = .ok (.new 96, 3) := by decide +kernel
theorem dX7_push_15 : decode cX7_push 15 = .ok (.dup, 1) := by decide +kernel
theorem dX7_push_16 : decode cX7_push 16 = .ok (.ldc 150, 2) := by decide +kernel
theorem dX7_push_18 : decode cX7_push 18 = .ok (.invokespecial 100, 3) := by decide +kernel
theorem dX7_push_21 : decode cX7_push 21 = .ok (.athrow, 1) := by decide +kernel
theorem dX7_push_22 : decode cX7_push 22 = .ok (.aload_n 0, 1) := by decide +kernel
theorem dX7_push_23 : decode cX7_push 23 = .ok (.getfield 29, 3) := by decide +kernel
theorem dX7_push_26 : decode cX7_push 26 = .ok (.invokevirtual 152, 3) := by decide +kernel
theorem dX7_push_29 : decode cX7_push 29 = .ok (.aload_n 0, 1) := by decide +kernel
theorem dX7_push_30 : decode cX7_push 30 = .ok (.getfield 29, 3) := by decide +kernel
theorem dX7_push_33 : decode cX7_push 33 = .ok (.getfield 147, 3) := by decide +kernel
theorem dX7_push_36 : decode cX7_push 36 = .ok (.ireturn, 1) := by decide +kernel
set_option maxRecDepth 20000 in
theorem ggX7_pop_X4_takeBackTo : GoodIn wsX7_pop wsX4_takeBackTo := goodIn_r _ [11, 12, 13, 14, 15, 16, 17, 10, 18, 19, 20, 42, 43, 44, 45, 46, 47, 48, 49] (by decide +kernel) (by decide +kernel)
set_option maxRecDepth 20000 in
theorem gX7_pop_X4_takeBackTo : GoodIn wsX7_pop (wsV RX7 157 RX4 yX4_takeBackTo wsX4_takeBackTo) := goodIn_app (goodIn_of _ (by decide +kernel)) ggX7_pop_X4_takeBackTo
set_option maxRecDepth 20000 in
theorem ggX7_pop_X7_forget : GoodIn wsX7_pop wsX7_forget := goodIn_r _ [25, 26, 27, 28, 29, 30, 31, 32, 33, 34, 35, 36, 37, 38, 39, 40, 41] (by decide +kernel) (by decide +kernel)
set_option maxRecDepth 20000 in
theorem gX7_pop_X7_forget : GoodIn wsX7_pop (wsV RX7 101 RX7 yX7_forget wsX7_forget) := goodIn_app (goodIn_of _ (by decide +kernel)) ggX7_pop_X7_forget
theorem dX7_pop_0 : decode cX7_pop 0 = .ok (.iload_n 1, 1) := by decide +kernel
theorem dX7_pop_1 : decode cX7_pop 1 = .ok (.ifCond .lt 14, 3) := by decide +kernel
theorem dX7_pop_4 : decode cX7_pop 4 = .ok (.iload_n 1, 1) := by decide +kernel
theorem dX7_pop_5 : decode cX7_pop 5 = .ok (.aload_n 0, 1) := by decide +kernel
theorem dX7_pop_6 : decode cX7_pop 6 = .ok (.getfield 29, 3) := by decide +kernel
theorem dX7_pop_9 : decode cX7_pop 9 = .ok (.getfield 147, 3) := by decide +kernel
theorem dX7_pop_12 : decode cX7_pop 12 = .ok (.if_icmp .le 13, 3) := by decide +kernel
theorem dX7_pop_15 : decode cX7_pop 15 = .ok (.new 86, 3) := by decide +kernel
theorem dX7_pop_18 : decode cX7_pop 18 = .ok (.dup, 1) := by decide +kernel
theorem dX7_pop_19 : decode cX7_pop 19 = .ok (.ldc 155, 2) := by decide +kernel
theorem dX7_pop_21 : decode cX7_pop 21 = .ok (.invokespecial 90, 3) := by decide +kernel
theorem dX7_pop_24 : decode cX7_pop 24 = .ok (.athrow, 1) := by decide +kernel
theorem dX7_pop_25 : decode cX7_pop 25 = .ok (.aload_n 0, 1) := by decide +kernel
theorem dX7_pop_26 : decode cX7_pop 26 = .ok (.getfield 29, 3) := by decide +kernel
theorem dX7_pop_29 : decode cX7_pop 29 = .ok (.aload_n 0, 1) := by decide +kernel
theorem dX7_pop_30 : decode cX7_pop 30 = .ok (.getfield 29, 3) := by decide +kernel
theorem dX7_pop_33 : decode cX7_pop 33 = .ok (.getfield 147, 3) := by decide +kernel
theorem dX7_pop_36 : decode cX7_pop 36 = .ok (.iload_n 1, 1) := by decide +kernel
theorem dX7_pop_37 : decode cX7_pop 37 = .ok (.isub, 1) := by decide +kernel
theorem dX7_pop_38 : decode cX7_pop 38 = .ok (.invokevirtual 157, 3) := by decide +kernel
theorem dX7_pop_41 : decode cX7_pop 41 = .ok (.aload_n 0, 1) := by decide +kernel
theorem dX7_pop_42 : decode cX7_pop 42 = .ok (.invokevirtual 101, 3) := by decide +kernel
theorem dX7_pop_45 : decode cX7_pop 45 = .ok (.aload_n 0, 1) := by decide +kernel
theorem dX7_pop_46 : decode cX7_pop 46 = .ok (.getfield 29, 3) := by decide +kernel
theorem dX7_pop_49 : decode cX7_pop 49 = .ok (.getfield 93, 3) := by decide +kernel
theorem dX7_pop_52 : decode cX7_pop 52 = .ok (.aload_n 0, 1) := by decide +kernel
theorem dX7_pop_53 : decode cX7_pop 53 = .ok (.getfield 29, 3) := by decide +kernel
theorem dX7_pop_56 : decode cX7_pop 56 = .ok (.getfield 115, 3) := by decide +kernel
theorem dX7_pop_59 : decode cX7_pop 59 = .ok (.iadd, 1) := by decide +kernel
theorem dX7_pop_60 : decode cX7_pop 60 = .ok (.ireturn, 1) := by decide +kernel
theorem dX7_told_0 : decode cX7_told 0 = .ok (.iload_n 2, 1) := by decide +kernel
theorem dX7_told_1 : decode cX7_told 1 = .ok (.ifCond .lt 8, 3) := by decide +kernel
theorem dX7_told_4 : decode cX7_told 4 = .ok (.iload_n 2, 1) := by decide +kernel
theorem dX7_told_5 : decode cX7_told 5 = .ok (.iconst 3, 1) := by decide +kernel
theorem dX7_told_6 : decode cX7_told 6 = .ok (.if_icmp .le 13, 3) := by decide +kernel
theorem dX7_told_9 : decode cX7_told 9 = .ok (.new 86, 3) := by decide +kernel
theorem dX7_told_12 : decode cX7_told 12 = .ok (.dup, 1) := by decide +kernel
theorem dX7_told_13 : decode cX7_told 13 = .ok (.ldc 160, 2) := by decide +kernel
theorem dX7_told_15 : decode cX7_told 15 = .ok (.invokespecial 90, 3) := by decide +kernel
theorem dX7_told_18 : decode cX7_told 18 = .ok (.athrow, 1) := by decide +kernel
theorem dX7_told_19 : decode cX7_told 19 = .ok (.iload_n 1, 1) := by decide +kernel
theorem dX7_told_20 : decode cX7_told 20 = .ok (.ifCond .lt 29, 3) := by decide +kernel
theorem dX7_told_23 : decode cX7_told 23 = .ok (.iload_n 1, 1) := by decide +kernel
theorem dX7_told_24 : decode cX7_told 24 = .ok (.iload_n 2, 1) := by decide +kernel
theorem dX7_told_25 : decode cX7_told 25 = .ok (.iconst 2, 1) := by decide +kernel
theorem dX7_told_26 : decode cX7_told 26 = .ok (.if_icmp .ge 13, 3) := by decide +kernel
theorem dX7_told_29 : decode cX7_told 29 = .ok (.aload_n 0, 1) := by decide +kernel
theorem dX7_told_30 : decode cX7_told 30 = .ok (.getfield 29, 3) := by decide +kernel
theorem dX7_told_33 : decode cX7_told 33 = .ok (.getfield 93, 3) := by decide +kernel
theorem dX7_told_36 : decode cX7_told 36 = .ok (.goto 10, 3) := by decide +kernel
theorem dX7_told_39 : decode cX7_told 39 = .ok (.aload_n 0, 1) := by decide +kernel
theorem dX7_told_40 : decode cX7_told 40 = .ok (.getfield 29, 3) := by decide +kernel
theorem dX7_told_43 : decode cX7_told 43 = .ok (.getfield 115, 3) := by decide +kernel
theorem dX7_told_46 : decode cX7_told 46 = .ok (.if_icmp .lt 13, 3) := by decide +kernel
theorem dX7_told_49 : decode cX7_told 49 = .ok (.new 162, 3) := by decide +kernel
theorem dX7_told_52 : decode cX7_told 52 = .ok (.dup, 1) := by decide +kernel
theorem dX7_told_53 : decode cX7_told 53 = .ok (.ldc 164, 2) := by decide +kernel
theorem dX7_told_55 : decode cX7_told 55 = .ok (.invokespecial 166, 3) := by decide +kernel
theorem dX7_told_58 : decode cX7_told 58 = .ok (.athrow, 1) := by decide +kernel
theorem dX7_told_59 : decode cX7_told 59 = .ok (.iload_n 2, 1) := by decide +kernel
theorem dX7_told_60 : decode cX7_told 60 = .ok (.tableswitch 76 0 2 #[28, 42, 66], 28) := by decide +kernel
theorem dX7_told_88 : decode cX7_told 88 = .ok (.aload_n 0, 1) := by decide +kernel
theorem dX7_told_89 : decode cX7_told 89 = .ok (.getfield 29, 3) := by decide +kernel
theorem dX7_told_92 : decode cX7_told 92 = .ok (.getfield 167, 3) := by decide +kernel
theorem dX7_told_95 : decode cX7_told 95 = .ok (.iload_n 1, 1) := by decide +kernel
theorem dX7_told_96 : decode cX7_told 96 = .ok (.laload, 1) := by decide +kernel
theorem dX7_told_97 : decode cX7_told 97 = .ok (.ldc2_w 171, 3) := by decide +kernel
theorem dX7_told_100 : decode cX7_told 100 = .ok (.land, 1) := by decide +kernel
theorem dX7_told_101 : decode cX7_told 101 = .ok (.lreturn, 1) := by decide +kernel
theorem dX7_told_102 : decode cX7_told 102 = .ok (.aload_n 0, 1) := by decide +kernel
theorem dX7_told_103 : decode cX7_told 103 = .ok (.getfield 29, 3) := by decide +kernel
theorem dX7_told_106 : decode cX7_told 106 = .ok (.getfield 167, 3) := by decide +kernel
theorem dX7_told_109 : decode cX7_told 109 = .ok (.iload_n 1, 1) := by decide +kernel
theorem dX7_told_110 : decode cX7_told 110 = .ok (.laload, 1) := by decide +kernel
theorem dX7_told_111 : decode cX7_told 111 = .ok (.ldc2_w 104, 3) := by decide +kernel
theorem dX7_told_114 : decode cX7_told 114 = .ok (.land, 1) := by decide +kernel
theorem dX7_told_115 : decode cX7_told 115 = .ok (.lconst 0, 1) := by decide +kernel
theorem dX7_told_116 : decode cX7_told 116 = .ok (.lcmp, 1) := by decide +kernel
theorem dX7_told_117 : decode cX7_told 117 = .ok (.ifCond .eq 7, 3) := by decide +kernel
theorem dX7_told_120 : decode cX7_told 120 = .ok (.lconst 1, 1) := by decide +kernel
theorem dX7_told_121 : decode cX7_told 121 = .ok (.goto 4, 3) := by decide +kernel
theorem dX7_told_124 : decode cX7_told 124 = .ok (.lconst 0, 1) := by decide +kernel
theorem dX7_told_125 : decode cX7_told 125 = .ok (.lreturn, 1) := by decide +kernel
theorem dX7_told_126 : decode cX7_told 126 = .ok (.aload_n 0, 1) := by decide +kernel
theorem dX7_told_127 : decode cX7_told 127 = .ok (.getfield 29, 3) := by decide +kernel
theorem dX7_told_130 : decode cX7_told 130 = .ok (.getfield 173, 3) := by decide +kernel
theorem dX7_told_133 : decode cX7_told 133 = .ok (.iload_n 1, 1) := by decide +kernel
theorem dX7_told_134 : decode cX7_told 134 = .ok (.laload, 1) := by decide +kernel
theorem dX7_told_135 : decode cX7_told 135 = .ok (.lreturn, 1) := by decide +kernel
theorem dX7_told_136 : decode cX7_told 136 = .ok (.aload_n 0, 1) := by decide +kernel
theorem dX7_told_137 : decode cX7_told 137 = .ok (.getfield 29, 3) := by decide +kernel
theorem dX7_told_140 : decode cX7_told 140 = .ok (.getfield 176, 3) := by decide +kernel
theorem dX7_told_143 : decode cX7_told 143 = .ok (.iload_n 1, 1) := by decide +kernel
theorem dX7_told_144 : decode cX7_told 144 = .ok (.laload, 1) := by decide +kernel
theorem dX7_told_145 : decode cX7_told 145 = .ok (.lreturn, 1) := by decide +kernel
set_option maxRecDepth 20000 in
theorem ggX7_rows_X7_freshenRows : GoodIn wsX7_rows wsX7_freshenRows := goodIn_r _ [7, 8, 1, 9, 10, 11, 12, 13, 14, 15, 16, 17, 18, 19, 20, 21, 22, 23, 24, 25, 26, 27, 28, 29, 30, 31, 32, 33, 34, 35, 36, 37, 38, 39, 44, 45, 46, 47, 48, 49, 50, 51, 52, 53, 54, 55, 56, 57, 58, 59, 60, 61, 62, 63, 64, 65, 66, 67, 68] (by decide +kernel) (by decide +kernel)
set_option maxRecDepth 20000 in
theorem gX7_rows_X7_freshenRows : GoodIn wsX7_rows (wsV RX7 179 RX7 yX7_freshenRows wsX7_freshenRows) := goodIn_app (goodIn_of _ (by decide +kernel)) ggX7_rows_X7_freshenRows
set_option maxRecDepth 20000 in
theorem ggX7_rows_X2_size : GoodIn wsX7_rows wsX2_size := goodIn_r _ [43, 27, 15, 58, 59, 60] (by decide +kernel) (by decide +kernel)
set_option maxRecDepth 20000 in
theorem gX7_rows_X2_size : GoodIn wsX7_rows (wsV RX7 186 RX2 yX2_size wsX2_size) := goodIn_app (goodIn_of _ (by decide +kernel)) ggX7_rows_X2_size
theorem dX7_rows_0 : decode cX7_rows 0 = .ok (.aload_n 0, 1) := by decide +kernel
theorem dX7_rows_1 : decode cX7_rows 1 = .ok (.invokevirtual 179, 3) := by decide +kernel
theorem dX7_rows_4 : decode cX7_rows 4 = .ok (.aload_n 0, 1) := by decide +kernel
theorem dX7_rows_5 : decode cX7_rows 5 = .ok (.getfield 45, 3) := by decide +kernel
theorem dX7_rows_8 : decode cX7_rows 8 = .ok (.getfield 182, 3) := by decide +kernel
theorem dX7_rows_11 : decode cX7_rows 11 = .ok (.ifCond .eq 7, 3) := by decide +kernel
theorem dX7_rows_14 : decode cX7_rows 14 = .ok (.iconst (-1), 1) := by decide +kernel
theorem dX7_rows_15 : decode cX7_rows 15 = .ok (.goto 10, 3) := by decide +kernel
theorem dX7_rows_18 : decode cX7_rows 18 = .ok (.aload_n 0, 1) := by decide +kernel
theorem dX7_rows_19 : decode cX7_rows 19 = .ok (.getfield 45, 3) := by decide +kernel
theorem dX7_rows_22 : decode cX7_rows 22 = .ok (.invokevirtual 186, 3) := by decide +kernel
theorem dX7_rows_25 : decode cX7_rows 25 = .ok (.ireturn, 1) := by decide +kernel
set_option maxRecDepth 20000 in
theorem ggX7_row_X7_freshenRows : GoodIn wsX7_row wsX7_freshenRows := goodIn_r _ [9, 10, 3, 11, 12, 13, 14, 15, 16, 17, 18, 19, 20, 21, 22, 23, 24, 25, 26, 27, 28, 29, 30, 31, 32, 33, 34, 35, 36, 37, 38, 39, 40, 41, 46, 47, 48, 49, 50, 51, 52, 53, 54, 55, 56, 57, 58, 59, 60, 61, 62, 63, 64, 65, 66, 67, 68, 69, 70] (by decide +kernel) (by decide +kernel)
set_option maxRecDepth 20000 in
theorem gX7_row_X7_freshenRows : GoodIn wsX7_row (wsV RX7 179 RX7 yX7_freshenRows wsX7_freshenRows) := goodIn_app (goodIn_of _ (by decide +kernel)) ggX7_row_X7_freshenRows
set_option maxRecDepth 20000 in
theorem ggX7_row_X2_inOrder : GoodIn wsX7_row wsX2_inOrder := goodIn_r _ [45, 29, 17, 60, 61, 62] (by decide +kernel) (by decide +kernel)
set_option maxRecDepth 20000 in
theorem gX7_row_X2_inOrder : GoodIn wsX7_row (wsV RX7 190 RX2 yX2_inOrder wsX2_inOrder) := goodIn_app (goodIn_of _ (by decide +kernel)) ggX7_row_X2_inOrder
theorem dX7_row_0 : decode cX7_row 0 = .ok (.aload_n 0, 1) := by decide +kernel
theorem dX7_row_1 : decode cX7_row 1 = .ok (.invokevirtual 179, 3) := by decide +kernel
theorem dX7_row_4 : decode cX7_row 4 = .ok (.aload_n 0, 1) := by decide +kernel
theorem dX7_row_5 : decode cX7_row 5 = .ok (.getfield 45, 3) := by decide +kernel
theorem dX7_row_8 : decode cX7_row 8 = .ok (.getfield 182, 3) := by decide +kernel
theorem dX7_row_11 : decode cX7_row 11 = .ok (.ifCond .ne 7, 3) := by decide +kernel
theorem dX7_row_14 : decode cX7_row 14 = .ok (.iload_n 1, 1) := by decide +kernel
theorem dX7_row_15 : decode cX7_row 15 = .ok (.ifCond .ge 7, 3) := by decide +kernel
theorem dX7_row_18 : decode cX7_row 18 = .ok (.lconst 0, 1) := by decide +kernel
theorem dX7_row_19 : decode cX7_row 19 = .ok (.goto 11, 3) := by decide +kernel
theorem dX7_row_22 : decode cX7_row 22 = .ok (.aload_n 0, 1) := by decide +kernel
theorem dX7_row_23 : decode cX7_row 23 = .ok (.getfield 45, 3) := by decide +kernel
theorem dX7_row_26 : decode cX7_row 26 = .ok (.iload_n 1, 1) := by decide +kernel
theorem dX7_row_27 : decode cX7_row 27 = .ok (.invokevirtual 190, 3) := by decide +kernel
theorem dX7_row_30 : decode cX7_row 30 = .ok (.lstore_n 2, 1) := by decide +kernel
theorem dX7_row_31 : decode cX7_row 31 = .ok (.lload_n 2, 1) := by decide +kernel
theorem dX7_row_32 : decode cX7_row 32 = .ok (.lconst 0, 1) := by decide +kernel
theorem dX7_row_33 : decode cX7_row 33 = .ok (.lcmp, 1) := by decide +kernel
theorem dX7_row_34 : decode cX7_row 34 = .ok (.ifCond .ne 13, 3) := by decide +kernel
theorem dX7_row_37 : decode cX7_row 37 = .ok (.new 162, 3) := by decide +kernel
theorem dX7_row_40 : decode cX7_row 40 = .ok (.dup, 1) := by decide +kernel
theorem dX7_row_41 : decode cX7_row 41 = .ok (.ldc 194, 2) := by decide +kernel
theorem dX7_row_43 : decode cX7_row 43 = .ok (.invokespecial 166, 3) := by decide +kernel
theorem dX7_row_46 : decode cX7_row 46 = .ok (.athrow, 1) := by decide +kernel
theorem dX7_row_47 : decode cX7_row 47 = .ok (.lload_n 2, 1) := by decide +kernel
theorem dX7_row_48 : decode cX7_row 48 = .ok (.lreturn, 1) := by decide +kernel
set_option maxRecDepth 20000 in
theorem ggX7_blame_X7_freshenRows : GoodIn wsX7_blame wsX7_freshenRows := goodIn_r _ [9, 10, 1, 4, 11, 12, 13, 14, 15, 16, 17, 18, 19, 20, 21, 22, 23, 24, 25, 26, 27, 28, 29, 30, 31, 32, 33, 34, 35, 36, 37, 38, 39, 40, 56, 57, 58, 59, 60, 61, 62, 63, 64, 65, 66, 67, 68, 69, 70, 71, 72, 73, 74, 75, 76, 77, 78, 79, 80] (by decide +kernel) (by decide +kernel)
set_option maxRecDepth 20000 in
theorem gX7_blame_X7_freshenRows : GoodIn wsX7_blame (wsV RX7 179 RX7 yX7_freshenRows wsX7_freshenRows) := goodIn_app (goodIn_of _ (by decide +kernel)) ggX7_blame_X7_freshenRows
set_option maxRecDepth 20000 in
theorem ggX7_blame_X0_leastSum : GoodIn wsX7_blame wsX0_leastSum := goodIn_r _ [45, 46, 47, 48, 49, 50, 21, 22, 23, 51, 52, 53, 44, 54, 55, 81, 82, 83, 73, 74, 75, 76, 77, 78, 79, 80] (by decide +kernel) (by decide +kernel)
set_option maxRecDepth 20000 in
theorem gX7_blame_X0_leastSum : GoodIn wsX7_blame (wsV RX7 196 RX0 yX0_leastSum wsX0_leastSum) := goodIn_app (goodIn_of _ (by decide +kernel)) ggX7_blame_X0_leastSum
theorem dX7_blame_0 : decode cX7_blame 0 = .ok (.aload_n 0, 1) := by decide +kernel
theorem dX7_blame_1 : decode cX7_blame 1 = .ok (.invokevirtual 179, 3) := by decide +kernel
theorem dX7_blame_4 : decode cX7_blame 4 = .ok (.aload_n 0, 1) := by decide +kernel
theorem dX7_blame_5 : decode cX7_blame 5 = .ok (.getfield 45, 3) := by decide +kernel
theorem dX7_blame_8 : decode cX7_blame 8 = .ok (.getfield 182, 3) := by decide +kernel
theorem dX7_blame_11 : decode cX7_blame 11 = .ok (.ifCond .eq 17, 3) := by decide +kernel
theorem dX7_blame_14 : decode cX7_blame 14 = .ok (.aload_n 0, 1) := by decide +kernel
theorem dX7_blame_15 : decode cX7_blame 15 = .ok (.getfield 52, 3) := by decide +kernel
theorem dX7_blame_18 : decode cX7_blame 18 = .ok (.aload_n 0, 1) := by decide +kernel
theorem dX7_blame_19 : decode cX7_blame 19 = .ok (.getfield 29, 3) := by decide +kernel
theorem dX7_blame_22 : decode cX7_blame 22 = .ok (.invokevirtual 196, 3) := by decide +kernel
theorem dX7_blame_25 : decode cX7_blame 25 = .ok (.goto 4, 3) := by decide +kernel
theorem dX7_blame_28 : decode cX7_blame 28 = .ok (.lconst 0, 1) := by decide +kernel
theorem dX7_blame_29 : decode cX7_blame 29 = .ok (.lreturn, 1) := by decide +kernel
set_option maxRecDepth 20000 in
theorem ggX7_solutions_X7_freshenRows : GoodIn wsX7_solutions wsX7_freshenRows := goodIn_r _ [8, 9, 1, 10, 11, 12, 13, 14, 15, 16, 17, 18, 19, 20, 21, 22, 23, 24, 25, 26, 27, 28, 29, 30, 31, 32, 33, 34, 35, 36, 37, 38, 39, 40, 45, 46, 47, 48, 49, 50, 51, 52, 53, 54, 55, 56, 57, 58, 59, 60, 61, 62, 63, 64, 65, 66, 67, 68, 69] (by decide +kernel) (by decide +kernel)
set_option maxRecDepth 20000 in
theorem gX7_solutions_X7_freshenRows : GoodIn wsX7_solutions (wsV RX7 179 RX7 yX7_freshenRows wsX7_freshenRows) := goodIn_app (goodIn_of _ (by decide +kernel)) ggX7_solutions_X7_freshenRows
set_option maxRecDepth 20000 in
theorem ggX7_solutions_X2_size : GoodIn wsX7_solutions wsX2_size := goodIn_r _ [44, 28, 16, 59, 60, 61] (by decide +kernel) (by decide +kernel)
set_option maxRecDepth 20000 in
theorem gX7_solutions_X2_size : GoodIn wsX7_solutions (wsV RX7 186 RX2 yX2_size wsX2_size) := goodIn_app (goodIn_of _ (by decide +kernel)) ggX7_solutions_X2_size
theorem dX7_solutions_0 : decode cX7_solutions 0 = .ok (.aload_n 0, 1) := by decide +kernel
theorem dX7_solutions_1 : decode cX7_solutions 1 = .ok (.invokevirtual 179, 3) := by decide +kernel
theorem dX7_solutions_4 : decode cX7_solutions 4 = .ok (.aload_n 0, 1) := by decide +kernel
theorem dX7_solutions_5 : decode cX7_solutions 5 = .ok (.getfield 45, 3) := by decide +kernel
theorem dX7_solutions_8 : decode cX7_solutions 8 = .ok (.getfield 182, 3) := by decide +kernel
theorem dX7_solutions_11 : decode cX7_solutions 11 = .ok (.ifCond .eq 7, 3) := by decide +kernel
theorem dX7_solutions_14 : decode cX7_solutions 14 = .ok (.lconst 0, 1) := by decide +kernel
theorem dX7_solutions_15 : decode cX7_solutions 15 = .ok (.goto 17, 3) := by decide +kernel
theorem dX7_solutions_18 : decode cX7_solutions 18 = .ok (.lconst 1, 1) := by decide +kernel
theorem dX7_solutions_19 : decode cX7_solutions 19 = .ok (.aload_n 0, 1) := by decide +kernel
theorem dX7_solutions_20 : decode cX7_solutions 20 = .ok (.getfield 18, 3) := by decide +kernel
theorem dX7_solutions_23 : decode cX7_solutions 23 = .ok (.aload_n 0, 1) := by decide +kernel
theorem dX7_solutions_24 : decode cX7_solutions 24 = .ok (.getfield 45, 3) := by decide +kernel
theorem dX7_solutions_27 : decode cX7_solutions 27 = .ok (.invokevirtual 186, 3) := by decide +kernel
theorem dX7_solutions_30 : decode cX7_solutions 30 = .ok (.isub, 1) := by decide +kernel
theorem dX7_solutions_31 : decode cX7_solutions 31 = .ok (.lshl, 1) := by decide +kernel
theorem dX7_solutions_32 : decode cX7_solutions 32 = .ok (.lreturn, 1) := by decide +kernel
set_option maxRecDepth 20000 in
theorem ggX7_solution_X7_solutions : GoodIn wsX7_solution wsX7_solutions := goodIn_r _ [9, 3, 10, 4, 11, 12, 13, 8, 14, 15, 16, 17, 18, 19, 20, 21, 22, 23, 24, 25, 26, 27, 28, 29, 30, 31, 32, 33, 34, 35, 36, 37, 38, 39, 40, 41, 42, 43, 44, 45, 46, 47, 48, 49, 50, 91, 92, 93, 94, 95, 96, 97, 98, 99, 100, 101, 102, 103, 104, 105, 106, 107, 108, 109, 110, 111, 112, 113, 114, 115] (by decide +kernel) (by decide +kernel)
set_option maxRecDepth 20000 in
theorem gX7_solution_X7_solutions : GoodIn wsX7_solution (wsV RX7 200 RX7 yX7_solutions wsX7_solutions) := goodIn_app (goodIn_of _ (by decide +kernel)) ggX7_solution_X7_solutions
set_option maxRecDepth 20000 in
theorem ggX7_solution_X5_begin : GoodIn wsX7_solution wsX5_begin := goodIn_r _ [55, 56, 57, 58, 59, 60, 61, 20, 62, 22, 34, 63, 64, 65, 66, 67, 68, 69, 70, 23, 116, 117, 118, 119, 105, 106, 107] (by decide +kernel) (by decide +kernel)
set_option maxRecDepth 20000 in
theorem gX7_solution_X5_begin : GoodIn wsX7_solution (wsV RX7 204 RX5 yX5_begin wsX5_begin) := goodIn_app (goodIn_of _ (by decide +kernel)) ggX7_solution_X5_begin
set_option maxRecDepth 20000 in
theorem ggX7_solution_X2_size : GoodIn wsX7_solution wsX2_size := goodIn_r _ [50, 34, 22, 105, 106, 107] (by decide +kernel) (by decide +kernel)
set_option maxRecDepth 20000 in
theorem gX7_solution_X2_size : GoodIn wsX7_solution (wsV RX7 186 RX2 yX2_size wsX2_size) := goodIn_app (goodIn_of _ (by decide +kernel)) ggX7_solution_X2_size
set_option maxRecDepth 20000 in
theorem ggX7_solution_X5_takeByNumber : GoodIn wsX7_solution wsX5_takeByNumber := goodIn_r _ [74, 75, 56, 76, 58, 77, 78, 79, 54, 80, 81, 82, 83, 84, 85, 57, 86, 87, 88, 20, 89, 34, 90, 22, 35, 36, 37, 38, 39, 23, 40, 41, 42, 43, 44, 45, 46, 116, 117, 118, 119, 105, 106, 107] (by decide +kernel) (by decide +kernel)
set_option maxRecDepth 20000 in
theorem gX7_solution_X5_takeByNumber : GoodIn wsX7_solution (wsV RX7 208 RX5 yX5_takeByNumber wsX5_takeByNumber) := goodIn_app (goodIn_of _ (by decide +kernel)) ggX7_solution_X5_takeByNumber
theorem dX7_solution_0 : decode cX7_solution 0 = .ok (.lload_n 1, 1) := by decide +kernel
theorem dX7_solution_1 : decode cX7_solution 1 = .ok (.lconst 0, 1) := by decide +kernel
theorem dX7_solution_2 : decode cX7_solution 2 = .ok (.lcmp, 1) := by decide +kernel
theorem dX7_solution_3 : decode cX7_solution 3 = .ok (.ifCond .lt 12, 3) := by decide +kernel
theorem dX7_solution_6 : decode cX7_solution 6 = .ok (.lload_n 1, 1) := by decide +kernel
theorem dX7_solution_7 : decode cX7_solution 7 = .ok (.aload_n 0, 1) := by decide +kernel
theorem dX7_solution_8 : decode cX7_solution 8 = .ok (.invokevirtual 200, 3) := by decide +kernel
theorem dX7_solution_11 : decode cX7_solution 11 = .ok (.lcmp, 1) := by decide +kernel
theorem dX7_solution_12 : decode cX7_solution 12 = .ok (.ifCond .lt 7, 3) := by decide +kernel
theorem dX7_solution_15 : decode cX7_solution 15 = .ok (.ldc2_w 77, 3) := by decide +kernel
theorem dX7_solution_18 : decode cX7_solution 18 = .ok (.lreturn, 1) := by decide +kernel
theorem dX7_solution_19 : decode cX7_solution 19 = .ok (.aload_n 0, 1) := by decide +kernel
theorem dX7_solution_20 : decode cX7_solution 20 = .ok (.getfield 66, 3) := by decide +kernel
theorem dX7_solution_23 : decode cX7_solution 23 = .ok (.aload_n 0, 1) := by decide +kernel
theorem dX7_solution_24 : decode cX7_solution 24 = .ok (.getfield 45, 3) := by decide +kernel
theorem dX7_solution_27 : decode cX7_solution 27 = .ok (.invokevirtual 204, 3) := by decide +kernel
theorem dX7_solution_30 : decode cX7_solution 30 = .ok (.aload_n 0, 1) := by decide +kernel
theorem dX7_solution_31 : decode cX7_solution 31 = .ok (.getfield 66, 3) := by decide +kernel
theorem dX7_solution_34 : decode cX7_solution 34 = .ok (.lload_n 1, 1) := by decide +kernel
theorem dX7_solution_35 : decode cX7_solution 35 = .ok (.aload_n 0, 1) := by decide +kernel
theorem dX7_solution_36 : decode cX7_solution 36 = .ok (.getfield 18, 3) := by decide +kernel
theorem dX7_solution_39 : decode cX7_solution 39 = .ok (.aload_n 0, 1) := by decide +kernel
theorem dX7_solution_40 : decode cX7_solution 40 = .ok (.getfield 45, 3) := by decide +kernel
theorem dX7_solution_43 : decode cX7_solution 43 = .ok (.invokevirtual 186, 3) := by decide +kernel
theorem dX7_solution_46 : decode cX7_solution 46 = .ok (.isub, 1) := by decide +kernel
theorem dX7_solution_47 : decode cX7_solution 47 = .ok (.invokevirtual 208, 3) := by decide +kernel
theorem dX7_solution_50 : decode cX7_solution 50 = .ok (.lreturn, 1) := by decide +kernel
set_option maxRecDepth 20000 in
theorem ggX7_sum_X7_areVariables : GoodIn wsX7_sum wsX7_areVariables := goodIn_r _ [10, 11, 12, 50, 51, 52, 53, 54, 55, 56, 57, 58, 59, 60, 61, 62, 63] (by decide +kernel) (by decide +kernel)
set_option maxRecDepth 20000 in
theorem gX7_sum_X7_areVariables : GoodIn wsX7_sum (wsV RX7 82 RX7 yX7_areVariables wsX7_areVariables) := goodIn_app (goodIn_of _ (by decide +kernel)) ggX7_sum_X7_areVariables
set_option maxRecDepth 20000 in
theorem ggX7_sum_X7_freshenRows : GoodIn wsX7_sum wsX7_freshenRows := goodIn_r _ [16, 17, 3, 18, 19, 20, 21, 22, 23, 24, 25, 26, 27, 28, 29, 30, 31, 32, 33, 34, 35, 36, 37, 38, 39, 40, 41, 42, 43, 44, 45, 46, 47, 48, 50, 51, 52, 53, 54, 55, 56, 57, 58, 59, 60, 61, 62, 63, 64, 65, 66, 67, 68, 69, 70, 71, 72, 73, 74] (by decide +kernel) (by decide +kernel)
set_option maxRecDepth 20000 in
theorem gX7_sum_X7_freshenRows : GoodIn wsX7_sum (wsV RX7 179 RX7 yX7_freshenRows wsX7_freshenRows) := goodIn_app (goodIn_of _ (by decide +kernel)) ggX7_sum_X7_freshenRows
set_option maxRecDepth 20000 in
theorem ggX7_sum_X2_reduced : GoodIn wsX7_sum wsX2_reduced := goodIn_r _ [35, 36, 24, 64, 65, 66] (by decide +kernel) (by decide +kernel)
set_option maxRecDepth 20000 in
theorem gX7_sum_X2_reduced : GoodIn wsX7_sum (wsV RX7 214 RX2 yX2_reduced wsX2_reduced) := goodIn_app (goodIn_of _ (by decide +kernel)) ggX7_sum_X2_reduced
theorem dX7_sum_0 : decode cX7_sum 0 = .ok (.aload_n 0, 1) := by decide +kernel
theorem dX7_sum_1 : decode cX7_sum 1 = .ok (.lload_n 1, 1) := by decide +kernel
theorem dX7_sum_2 : decode cX7_sum 2 = .ok (.invokevirtual 82, 3) := by decide +kernel
theorem dX7_sum_5 : decode cX7_sum 5 = .ok (.ifCond .ne 13, 3) := by decide +kernel
theorem dX7_sum_8 : decode cX7_sum 8 = .ok (.new 86, 3) := by decide +kernel
theorem dX7_sum_11 : decode cX7_sum 11 = .ok (.dup, 1) := by decide +kernel
theorem dX7_sum_12 : decode cX7_sum 12 = .ok (.ldc 212, 2) := by decide +kernel
theorem dX7_sum_14 : decode cX7_sum 14 = .ok (.invokespecial 90, 3) := by decide +kernel
theorem dX7_sum_17 : decode cX7_sum 17 = .ok (.athrow, 1) := by decide +kernel
theorem dX7_sum_18 : decode cX7_sum 18 = .ok (.aload_n 0, 1) := by decide +kernel
theorem dX7_sum_19 : decode cX7_sum 19 = .ok (.invokevirtual 179, 3) := by decide +kernel
theorem dX7_sum_22 : decode cX7_sum 22 = .ok (.aload_n 0, 1) := by decide +kernel
theorem dX7_sum_23 : decode cX7_sum 23 = .ok (.getfield 45, 3) := by decide +kernel
theorem dX7_sum_26 : decode cX7_sum 26 = .ok (.getfield 182, 3) := by decide +kernel
theorem dX7_sum_29 : decode cX7_sum 29 = .ok (.ifCond .eq 6, 3) := by decide +kernel
theorem dX7_sum_32 : decode cX7_sum 32 = .ok (.bipush (-2), 2) := by decide +kernel
theorem dX7_sum_34 : decode cX7_sum 34 = .ok (.ireturn, 1) := by decide +kernel
theorem dX7_sum_35 : decode cX7_sum 35 = .ok (.aload_n 0, 1) := by decide +kernel
theorem dX7_sum_36 : decode cX7_sum 36 = .ok (.getfield 45, 3) := by decide +kernel
theorem dX7_sum_39 : decode cX7_sum 39 = .ok (.lload_n 1, 1) := by decide +kernel
theorem dX7_sum_40 : decode cX7_sum 40 = .ok (.invokevirtual 214, 3) := by decide +kernel
theorem dX7_sum_43 : decode cX7_sum 43 = .ok (.lstore_n 3, 1) := by decide +kernel
theorem dX7_sum_44 : decode cX7_sum 44 = .ok (.lload_n 3, 1) := by decide +kernel
theorem dX7_sum_45 : decode cX7_sum 45 = .ok (.ldc2_w 171, 3) := by decide +kernel
theorem dX7_sum_48 : decode cX7_sum 48 = .ok (.land, 1) := by decide +kernel
theorem dX7_sum_49 : decode cX7_sum 49 = .ok (.lconst 0, 1) := by decide +kernel
theorem dX7_sum_50 : decode cX7_sum 50 = .ok (.lcmp, 1) := by decide +kernel
theorem dX7_sum_51 : decode cX7_sum 51 = .ok (.ifCond .eq 5, 3) := by decide +kernel
theorem dX7_sum_54 : decode cX7_sum 54 = .ok (.iconst (-1), 1) := by decide +kernel
theorem dX7_sum_55 : decode cX7_sum 55 = .ok (.ireturn, 1) := by decide +kernel
theorem dX7_sum_56 : decode cX7_sum 56 = .ok (.lload_n 3, 1) := by decide +kernel
theorem dX7_sum_57 : decode cX7_sum 57 = .ok (.lconst 0, 1) := by decide +kernel
theorem dX7_sum_58 : decode cX7_sum 58 = .ok (.lcmp, 1) := by decide +kernel
theorem dX7_sum_59 : decode cX7_sum 59 = .ok (.ifCond .eq 7, 3) := by decide +kernel
theorem dX7_sum_62 : decode cX7_sum 62 = .ok (.iconst 1, 1) := by decide +kernel
theorem dX7_sum_63 : decode cX7_sum 63 = .ok (.goto 4, 3) := by decide +kernel
theorem dX7_sum_66 : decode cX7_sum 66 = .ok (.iconst 0, 1) := by decide +kernel
theorem dX7_sum_67 : decode cX7_sum 67 = .ok (.ireturn, 1) := by decide +kernel
set_option maxRecDepth 20000 in
theorem ggX7_follow_X7_areTwoSets : GoodIn wsX7_follow wsX7_areTwoSets := goodIn_r _ [13, 14, 15, 16, 12, 17, 18, 6, 114, 115, 116, 117, 118, 119, 120, 121, 122, 123, 124, 125, 126, 127] (by decide +kernel) (by decide +kernel)
set_option maxRecDepth 20000 in
theorem gX7_follow_X7_areTwoSets : GoodIn wsX7_follow (wsV RX7 109 RX7 yX7_areTwoSets wsX7_areTwoSets) := goodIn_app (goodIn_of _ (by decide +kernel)) ggX7_follow_X7_areTwoSets
set_option maxRecDepth 20000 in
theorem ggX7_follow_X7_freshenRows : GoodIn wsX7_follow wsX7_freshenRows := goodIn_r _ [22, 23, 4, 5, 24, 25, 26, 27, 28, 29, 30, 31, 32, 33, 34, 35, 36, 37, 38, 39, 40, 41, 42, 43, 44, 45, 46, 47, 48, 49, 50, 51, 52, 53, 114, 115, 116, 117, 118, 119, 120, 121, 122, 123, 124, 125, 126, 127, 132, 133, 134, 135, 136, 137, 138, 139, 140, 141, 142] (by decide +kernel) (by decide +kernel)
set_option maxRecDepth 20000 in
theorem gX7_follow_X7_freshenRows : GoodIn wsX7_follow (wsV RX7 179 RX7 yX7_freshenRows wsX7_freshenRows) := goodIn_app (goodIn_of _ (by decide +kernel)) ggX7_follow_X7_freshenRows
set_option maxRecDepth 20000 in
theorem ggX7_follow_X5_begin : GoodIn wsX7_follow wsX5_begin := goodIn_r _ [58, 59, 60, 61, 62, 63, 64, 27, 65, 29, 41, 66, 67, 68, 69, 70, 71, 72, 73, 30, 128, 129, 130, 131, 132, 133, 134] (by decide +kernel) (by decide +kernel)
set_option maxRecDepth 20000 in
theorem gX7_follow_X5_begin : GoodIn wsX7_follow (wsV RX7 204 RX5 yX5_begin wsX5_begin) := goodIn_app (goodIn_of _ (by decide +kernel)) ggX7_follow_X5_begin
set_option maxRecDepth 20000 in
theorem ggX7_follow_X5_takeAll : GoodIn wsX7_follow wsX5_takeAll := goodIn_r _ [77, 78, 79, 80, 81, 57, 82, 60, 61, 59, 83, 84, 85, 27, 86, 41, 87, 29, 42, 43, 44, 45, 46, 30, 47, 48, 49, 50, 51, 52, 53, 128, 129, 130, 131, 132, 133, 134] (by decide +kernel) (by decide +kernel)
set_option maxRecDepth 20000 in
theorem gX7_follow_X5_takeAll : GoodIn wsX7_follow (wsV RX7 220 RX5 yX5_takeAll wsX5_takeAll) := goodIn_app (goodIn_of _ (by decide +kernel)) ggX7_follow_X5_takeAll
set_option maxRecDepth 20000 in
theorem ggX7_follow_X5_spread : GoodIn wsX7_follow wsX5_spread := goodIn_r _ [91, 59, 92, 60, 93, 94, 95, 57, 96, 78, 97, 98, 99, 100, 101, 102, 79, 80, 81, 82, 61, 83, 84, 85, 27, 86, 41, 87, 29, 42, 43, 44, 45, 46, 30, 47, 48, 49, 50, 51, 52, 53, 103, 104, 105, 106, 107, 108, 109, 110, 111, 12, 112, 113, 128, 129, 130, 131, 132, 133, 134, 135, 136, 137, 138, 139, 140, 141, 142] (by decide +kernel) (by decide +kernel)
set_option maxRecDepth 20000 in
theorem gX7_follow_X5_spread : GoodIn wsX7_follow (wsV RX7 224 RX5 yX5_spread wsX5_spread) := goodIn_app (goodIn_of _ (by decide +kernel)) ggX7_follow_X5_spread
theorem dX7_follow_0 : decode cX7_follow 0 = .ok (.aload_n 0, 1) := by decide +kernel
theorem dX7_follow_1 : decode cX7_follow 1 = .ok (.lload_n 1, 1) := by decide +kernel
theorem dX7_follow_2 : decode cX7_follow 2 = .ok (.lload_n 3, 1) := by decide +kernel
theorem dX7_follow_3 : decode cX7_follow 3 = .ok (.invokevirtual 109, 3) := by decide +kernel
theorem dX7_follow_6 : decode cX7_follow 6 = .ok (.ifCond .ne 13, 3) := by decide +kernel
theorem dX7_follow_9 : decode cX7_follow 9 = .ok (.new 86, 3) := by decide +kernel
theorem dX7_follow_12 : decode cX7_follow 12 = .ok (.dup, 1) := by decide +kernel
theorem dX7_follow_13 : decode cX7_follow 13 = .ok (.ldc 218, 2) := by decide +kernel
theorem dX7_follow_15 : decode cX7_follow 15 = .ok (.invokespecial 90, 3) := by decide +kernel
theorem dX7_follow_18 : decode cX7_follow 18 = .ok (.athrow, 1) := by decide +kernel
theorem dX7_follow_19 : decode cX7_follow 19 = .ok (.aload_n 0, 1) := by decide +kernel
theorem dX7_follow_20 : decode cX7_follow 20 = .ok (.invokevirtual 179, 3) := by decide +kernel
theorem dX7_follow_23 : decode cX7_follow 23 = .ok (.aload_n 0, 1) := by decide +kernel
theorem dX7_follow_24 : decode cX7_follow 24 = .ok (.getfield 66, 3) := by decide +kernel
theorem dX7_follow_27 : decode cX7_follow 27 = .ok (.aload_n 0, 1) := by decide +kernel
theorem dX7_follow_28 : decode cX7_follow 28 = .ok (.getfield 45, 3) := by decide +kernel
theorem dX7_follow_31 : decode cX7_follow 31 = .ok (.invokevirtual 204, 3) := by decide +kernel
theorem dX7_follow_34 : decode cX7_follow 34 = .ok (.aload_n 0, 1) := by decide +kernel
theorem dX7_follow_35 : decode cX7_follow 35 = .ok (.getfield 66, 3) := by decide +kernel
theorem dX7_follow_38 : decode cX7_follow 38 = .ok (.lload_n 1, 1) := by decide +kernel
theorem dX7_follow_39 : decode cX7_follow 39 = .ok (.lload_n 3, 1) := by decide +kernel
theorem dX7_follow_40 : decode cX7_follow 40 = .ok (.invokevirtual 220, 3) := by decide +kernel
theorem dX7_follow_43 : decode cX7_follow 43 = .ok (.aload_n 0, 1) := by decide +kernel
theorem dX7_follow_44 : decode cX7_follow 44 = .ok (.getfield 66, 3) := by decide +kernel
theorem dX7_follow_47 : decode cX7_follow 47 = .ok (.aload_n 0, 1) := by decide +kernel
theorem dX7_follow_48 : decode cX7_follow 48 = .ok (.getfield 29, 3) := by decide +kernel
theorem dX7_follow_51 : decode cX7_follow 51 = .ok (.invokevirtual 224, 3) := by decide +kernel
theorem dX7_follow_54 : decode cX7_follow 54 = .ok (.ifCond .ne 7, 3) := by decide +kernel
theorem dX7_follow_57 : decode cX7_follow 57 = .ok (.ldc2_w 77, 3) := by decide +kernel
theorem dX7_follow_60 : decode cX7_follow 60 = .ok (.lreturn, 1) := by decide +kernel
theorem dX7_follow_61 : decode cX7_follow 61 = .ok (.iload 5, 2) := by decide +kernel
theorem dX7_follow_63 : decode cX7_follow 63 = .ok (.ifCond .eq 13, 3) := by decide +kernel
theorem dX7_follow_66 : decode cX7_follow 66 = .ok (.aload_n 0, 1) := by decide +kernel
theorem dX7_follow_67 : decode cX7_follow 67 = .ok (.getfield 66, 3) := by decide +kernel
theorem dX7_follow_70 : decode cX7_follow 70 = .ok (.getfield 228, 3) := by decide +kernel
theorem dX7_follow_73 : decode cX7_follow 73 = .ok (.goto 22, 3) := by decide +kernel
theorem dX7_follow_76 : decode cX7_follow 76 = .ok (.aload_n 0, 1) := by decide +kernel
theorem dX7_follow_77 : decode cX7_follow 77 = .ok (.getfield 66, 3) := by decide +kernel
theorem dX7_follow_80 : decode cX7_follow 80 = .ok (.getfield 231, 3) := by decide +kernel
theorem dX7_follow_83 : decode cX7_follow 83 = .ok (.aload_n 0, 1) := by decide +kernel
theorem dX7_follow_84 : decode cX7_follow 84 = .ok (.getfield 66, 3) := by decide +kernel
theorem dX7_follow_87 : decode cX7_follow 87 = .ok (.getfield 228, 3) := by decide +kernel
theorem dX7_follow_90 : decode cX7_follow 90 = .ok (.ldc2_w 77, 3) := by decide +kernel
theorem dX7_follow_93 : decode cX7_follow 93 = .ok (.lxor, 1) := by decide +kernel
theorem dX7_follow_94 : decode cX7_follow 94 = .ok (.land, 1) := by decide +kernel
theorem dX7_follow_95 : decode cX7_follow 95 = .ok (.lreturn, 1) := by decide +kernel
set_option maxRecDepth 20000 in
theorem ggX7_solve_X7_areNodes : GoodIn wsX7_solve wsX7_areNodes := goodIn_r _ [17] (by decide +kernel) (by decide +kernel)
set_option maxRecDepth 20000 in
theorem gX7_solve_X7_areNodes : GoodIn wsX7_solve (wsV RX7 234 RX7 yX7_areNodes wsX7_areNodes) := goodIn_app (goodIn_of _ (by decide +kernel)) ggX7_solve_X7_areNodes
set_option maxRecDepth 20000 in
theorem ggX7_solve_X7_freshenRows : GoodIn wsX7_solve wsX7_freshenRows := goodIn_r _ [21, 22, 4, 5, 23, 24, 25, 26, 27, 28, 29, 30, 31, 32, 33, 34, 35, 36, 37, 38, 39, 40, 41, 42, 43, 44, 45, 46, 47, 48, 49, 50, 51, 52, 151, 152, 153, 154, 155, 156, 157, 158, 159, 160, 161, 162, 163, 164, 175, 176, 177, 178, 179, 180, 181, 182, 183, 184, 185] (by decide +kernel) (by decide +kernel)
set_option maxRecDepth 20000 in
theorem gX7_solve_X7_freshenRows : GoodIn wsX7_solve (wsV RX7 179 RX7 yX7_freshenRows wsX7_freshenRows) := goodIn_app (goodIn_of _ (by decide +kernel)) ggX7_solve_X7_freshenRows
set_option maxRecDepth 20000 in
theorem ggX7_solve_X3_begin : GoodIn wsX7_solve wsX3_begin := goodIn_r _ [57, 58, 59, 60, 61, 62, 63, 64, 65, 66, 67, 68, 69, 70, 71, 72, 73, 26, 74, 28, 40, 75, 76, 77, 78, 79, 80, 81, 82, 29, 165, 166, 167, 168, 169, 170, 171, 172, 173, 174, 186, 187, 188, 189, 175, 176, 177] (by decide +kernel) (by decide +kernel)
set_option maxRecDepth 20000 in
theorem gX7_solve_X3_begin : GoodIn wsX7_solve (wsV RX7 240 RX3 yX3_begin wsX3_begin) := goodIn_app (goodIn_of _ (by decide +kernel)) ggX7_solve_X3_begin
set_option maxRecDepth 20000 in
theorem ggX7_solve_X3_run : GoodIn wsX7_solve wsX3_run := goodIn_r _ [86, 60, 58, 61, 87, 88, 62, 89, 90, 91, 66, 92, 68, 93, 69, 94, 95, 96, 97, 98, 99, 100, 101, 102, 103, 104, 105, 106, 107, 108, 70, 109, 110, 111, 26, 112, 40, 113, 28, 41, 42, 43, 44, 45, 29, 46, 47, 48, 49, 50, 51, 52, 114, 115, 116, 117, 118, 119, 120, 121, 122, 16, 123, 124, 125, 126, 127, 128, 129, 130, 131, 132, 133, 134, 135, 56, 136, 59, 137, 138, 139, 140, 80, 81, 82, 141, 142, 143, 144, 145, 146, 147, 148, 149, 150, 165, 166, 167, 168, 169, 170, 171, 172, 173, 174, 186, 187, 188, 189, 175, 176, 177, 178, 179, 180, 181, 182, 183, 184, 185] (by decide +kernel) (by decide +kernel)
set_option maxRecDepth 20000 in
theorem gX7_solve_X3_run : GoodIn wsX7_solve (wsV RX7 241 RX3 yX3_run wsX3_run) := goodIn_app (goodIn_of _ (by decide +kernel)) ggX7_solve_X3_run
theorem dX7_solve_0 : decode cX7_solve 0 = .ok (.aload_n 0, 1) := by decide +kernel
theorem dX7_solve_1 : decode cX7_solve 1 = .ok (.iload_n 1, 1) := by decide +kernel
theorem dX7_solve_2 : decode cX7_solve 2 = .ok (.invokevirtual 234, 3) := by decide +kernel
theorem dX7_solve_5 : decode cX7_solve 5 = .ok (.ifCond .ne 13, 3) := by decide +kernel
theorem dX7_solve_8 : decode cX7_solve 8 = .ok (.new 86, 3) := by decide +kernel
theorem dX7_solve_11 : decode cX7_solve 11 = .ok (.dup, 1) := by decide +kernel
theorem dX7_solve_12 : decode cX7_solve 12 = .ok (.ldc 238, 2) := by decide +kernel
theorem dX7_solve_14 : decode cX7_solve 14 = .ok (.invokespecial 90, 3) := by decide +kernel
theorem dX7_solve_17 : decode cX7_solve 17 = .ok (.athrow, 1) := by decide +kernel
theorem dX7_solve_18 : decode cX7_solve 18 = .ok (.aload_n 0, 1) := by decide +kernel
theorem dX7_solve_19 : decode cX7_solve 19 = .ok (.invokevirtual 179, 3) := by decide +kernel
theorem dX7_solve_22 : decode cX7_solve 22 = .ok (.aload_n 0, 1) := by decide +kernel
theorem dX7_solve_23 : decode cX7_solve 23 = .ok (.getfield 73, 3) := by decide +kernel
theorem dX7_solve_26 : decode cX7_solve 26 = .ok (.aload_n 0, 1) := by decide +kernel
theorem dX7_solve_27 : decode cX7_solve 27 = .ok (.getfield 45, 3) := by decide +kernel
theorem dX7_solve_30 : decode cX7_solve 30 = .ok (.invokevirtual 240, 3) := by decide +kernel
theorem dX7_solve_33 : decode cX7_solve 33 = .ok (.aload_n 0, 1) := by decide +kernel
theorem dX7_solve_34 : decode cX7_solve 34 = .ok (.getfield 73, 3) := by decide +kernel
theorem dX7_solve_37 : decode cX7_solve 37 = .ok (.aload_n 0, 1) := by decide +kernel
theorem dX7_solve_38 : decode cX7_solve 38 = .ok (.getfield 29, 3) := by decide +kernel
theorem dX7_solve_41 : decode cX7_solve 41 = .ok (.iload_n 1, 1) := by decide +kernel
theorem dX7_solve_42 : decode cX7_solve 42 = .ok (.iconst 1, 1) := by decide +kernel
theorem dX7_solve_43 : decode cX7_solve 43 = .ok (.invokevirtual 241, 3) := by decide +kernel
theorem dX7_solve_46 : decode cX7_solve 46 = .ok (.aload_n 0, 1) := by decide +kernel
theorem dX7_solve_47 : decode cX7_solve 47 = .ok (.aload_n 0, 1) := by decide +kernel
theorem dX7_solve_48 : decode cX7_solve 48 = .ok (.getfield 73, 3) := by decide +kernel
theorem dX7_solve_51 : decode cX7_solve 51 = .ok (.getfield 245, 3) := by decide +kernel
theorem dX7_solve_54 : decode cX7_solve 54 = .ok (.putfield 248, 3) := by decide +kernel
theorem dX7_solve_57 : decode cX7_solve 57 = .ok (.aload_n 0, 1) := by decide +kernel
theorem dX7_solve_58 : decode cX7_solve 58 = .ok (.aload_n 0, 1) := by decide +kernel
theorem dX7_solve_59 : decode cX7_solve 59 = .ok (.getfield 73, 3) := by decide +kernel
theorem dX7_solve_62 : decode cX7_solve 62 = .ok (.getfield 251, 3) := by decide +kernel
theorem dX7_solve_65 : decode cX7_solve 65 = .ok (.ifCond .le 13, 3) := by decide +kernel
theorem dX7_solve_68 : decode cX7_solve 68 = .ok (.aload_n 0, 1) := by decide +kernel
theorem dX7_solve_69 : decode cX7_solve 69 = .ok (.getfield 73, 3) := by decide +kernel
theorem dX7_solve_72 : decode cX7_solve 72 = .ok (.getfield 254, 3) := by decide +kernel
theorem dX7_solve_75 : decode cX7_solve 75 = .ok (.goto 6, 3) := by decide +kernel
theorem dX7_solve_78 : decode cX7_solve 78 = .ok (.ldc2_w 77, 3) := by decide +kernel
theorem dX7_solve_81 : decode cX7_solve 81 = .ok (.putfield 79, 3) := by decide +kernel
theorem dX7_solve_84 : decode cX7_solve 84 = .ok (.aload_n 0, 1) := by decide +kernel
theorem dX7_solve_85 : decode cX7_solve 85 = .ok (.getfield 73, 3) := by decide +kernel
theorem dX7_solve_88 : decode cX7_solve 88 = .ok (.getfield 257, 3) := by decide +kernel
theorem dX7_solve_91 : decode cX7_solve 91 = .ok (.ifCond .eq 6, 3) := by decide +kernel
theorem dX7_solve_94 : decode cX7_solve 94 = .ok (.bipush (-2), 2) := by decide +kernel
theorem dX7_solve_96 : decode cX7_solve 96 = .ok (.ireturn, 1) := by decide +kernel
theorem dX7_solve_97 : decode cX7_solve 97 = .ok (.aload_n 0, 1) := by decide +kernel
theorem dX7_solve_98 : decode cX7_solve 98 = .ok (.getfield 73, 3) := by decide +kernel
theorem dX7_solve_101 : decode cX7_solve 101 = .ok (.getfield 251, 3) := by decide +kernel
theorem dX7_solve_104 : decode cX7_solve 104 = .ok (.ireturn, 1) := by decide +kernel
theorem dX7_model_0 : decode cX7_model 0 = .ok (.aload_n 0, 1) := by decide +kernel
theorem dX7_model_1 : decode cX7_model 1 = .ok (.getfield 79, 3) := by decide +kernel
theorem dX7_model_4 : decode cX7_model 4 = .ok (.lreturn, 1) := by decide +kernel
set_option maxRecDepth 20000 in
theorem ggX7_models_X7_areNodes : GoodIn wsX7_models wsX7_areNodes := goodIn_r _ [15] (by decide +kernel) (by decide +kernel)
set_option maxRecDepth 20000 in
theorem gX7_models_X7_areNodes : GoodIn wsX7_models (wsV RX7 234 RX7 yX7_areNodes wsX7_areNodes) := goodIn_app (goodIn_of _ (by decide +kernel)) ggX7_models_X7_areNodes
set_option maxRecDepth 20000 in
theorem ggX7_models_X7_freshenRows : GoodIn wsX7_models wsX7_freshenRows := goodIn_r _ [19, 20, 4, 5, 21, 22, 23, 24, 25, 26, 27, 28, 29, 30, 31, 32, 33, 34, 35, 36, 37, 38, 39, 40, 41, 42, 43, 44, 45, 46, 47, 48, 49, 50, 149, 150, 151, 152, 153, 154, 155, 156, 157, 158, 159, 160, 161, 162, 173, 174, 175, 176, 177, 178, 179, 180, 181, 182, 183] (by decide +kernel) (by decide +kernel)
set_option maxRecDepth 20000 in
theorem gX7_models_X7_freshenRows : GoodIn wsX7_models (wsV RX7 179 RX7 yX7_freshenRows wsX7_freshenRows) := goodIn_app (goodIn_of _ (by decide +kernel)) ggX7_models_X7_freshenRows
set_option maxRecDepth 20000 in
theorem ggX7_models_X3_begin : GoodIn wsX7_models wsX3_begin := goodIn_r _ [55, 56, 57, 58, 59, 60, 61, 62, 63, 64, 65, 66, 67, 68, 69, 70, 71, 24, 72, 26, 38, 73, 74, 75, 76, 77, 78, 79, 80, 27, 163, 164, 165, 166, 167, 168, 169, 170, 171, 172, 184, 185, 186, 187, 173, 174, 175] (by decide +kernel) (by decide +kernel)
set_option maxRecDepth 20000 in
theorem gX7_models_X3_begin : GoodIn wsX7_models (wsV RX7 240 RX3 yX3_begin wsX3_begin) := goodIn_app (goodIn_of _ (by decide +kernel)) ggX7_models_X3_begin
set_option maxRecDepth 20000 in
theorem ggX7_models_X3_run : GoodIn wsX7_models wsX3_run := goodIn_r _ [84, 58, 56, 59, 85, 86, 60, 87, 88, 89, 64, 90, 66, 91, 67, 92, 93, 94, 95, 96, 97, 98, 99, 100, 101, 102, 103, 104, 105, 106, 68, 107, 108, 109, 24, 110, 38, 111, 26, 39, 40, 41, 42, 43, 27, 44, 45, 46, 47, 48, 49, 50, 112, 113, 114, 115, 116, 117, 118, 119, 120, 14, 121, 122, 123, 124, 125, 126, 127, 128, 129, 130, 131, 132, 133, 54, 134, 57, 135, 136, 137, 138, 78, 79, 80, 139, 140, 141, 142, 143, 144, 145, 146, 147, 148, 163, 164, 165, 166, 167, 168, 169, 170, 171, 172, 184, 185, 186, 187, 173, 174, 175, 176, 177, 178, 179, 180, 181, 182, 183] (by decide +kernel) (by decide +kernel)
