theorem dX8_feed_42 : decode cX8_feed 42 = .ok (.ifCond .lt 40, 3) := by decide +kernel
theorem dX8_feed_45 : decode cX8_feed 45 = .ok (.aload_n 0, 1) := by decide +kernel
theorem dX8_feed_46 : decode cX8_feed 46 = .ok (.getfield 29, 3) := by decide +kernel
theorem dX8_feed_49 : decode cX8_feed 49 = .ok (.aload_n 0, 1) := by decide +kernel
theorem dX8_feed_50 : decode cX8_feed 50 = .ok (.getfield 115, 3) := by decide +kernel
theorem dX8_feed_53 : decode cX8_feed 53 = .ok (.lload_n 1, 1) := by decide +kernel
theorem dX8_feed_54 : decode cX8_feed 54 = .ok (.bipush 8, 2) := by decide +kernel
theorem dX8_feed_56 : decode cX8_feed 56 = .ok (.iload 4, 2) := by decide +kernel
theorem dX8_feed_58 : decode cX8_feed 58 = .ok (.imul, 1) := by decide +kernel
theorem dX8_feed_59 : decode cX8_feed 59 = .ok (.lshr, 1) := by decide +kernel
theorem dX8_feed_60 : decode cX8_feed 60 = .ok (.ldc2_w 118, 3) := by decide +kernel
theorem dX8_feed_63 : decode cX8_feed 63 = .ok (.land, 1) := by decide +kernel
theorem dX8_feed_64 : decode cX8_feed 64 = .ok (.l2i, 1) := by decide +kernel
theorem dX8_feed_65 : decode cX8_feed 65 = .ok (.iastore, 1) := by decide +kernel
theorem dX8_feed_66 : decode cX8_feed 66 = .ok (.aload_n 0, 1) := by decide +kernel
theorem dX8_feed_67 : decode cX8_feed 67 = .ok (.dup, 1) := by decide +kernel
theorem dX8_feed_68 : decode cX8_feed 68 = .ok (.getfield 115, 3) := by decide +kernel
theorem dX8_feed_71 : decode cX8_feed 71 = .ok (.iconst 1, 1) := by decide +kernel
theorem dX8_feed_72 : decode cX8_feed 72 = .ok (.iadd, 1) := by decide +kernel
theorem dX8_feed_73 : decode cX8_feed 73 = .ok (.putfield 115, 3) := by decide +kernel
theorem dX8_feed_76 : decode cX8_feed 76 = .ok (.iinc 4 (-1), 3) := by decide +kernel
theorem dX8_feed_79 : decode cX8_feed 79 = .ok (.goto (-39), 3) := by decide +kernel
theorem dX8_feed_82 : decode cX8_feed 82 = .ok (.aload_n 0, 1) := by decide +kernel
theorem dX8_feed_83 : decode cX8_feed 83 = .ok (.getfield 115, 3) := by decide +kernel
theorem dX8_feed_86 : decode cX8_feed 86 = .ok (.ireturn, 1) := by decide +kernel
theorem dX8_fail_0 : decode cX8_fail 0 = .ok (.aload_n 0, 1) := by decide +kernel
theorem dX8_fail_1 : decode cX8_fail 1 = .ok (.getfield 120, 3) := by decide +kernel
theorem dX8_fail_4 : decode cX8_fail 4 = .ok (.ifCond .ne 13, 3) := by decide +kernel
theorem dX8_fail_7 : decode cX8_fail 7 = .ok (.aload_n 0, 1) := by decide +kernel
theorem dX8_fail_8 : decode cX8_fail 8 = .ok (.iload_n 1, 1) := by decide +kernel
theorem dX8_fail_9 : decode cX8_fail 9 = .ok (.putfield 120, 3) := by decide +kernel
theorem dX8_fail_12 : decode cX8_fail 12 = .ok (.aload_n 0, 1) := by decide +kernel
theorem dX8_fail_13 : decode cX8_fail 13 = .ok (.iload_n 2, 1) := by decide +kernel
theorem dX8_fail_14 : decode cX8_fail 14 = .ok (.putfield 123, 3) := by decide +kernel
theorem dX8_fail_17 : decode cX8_fail 17 = .ok (.return_, 1) := by decide +kernel
theorem dX8_isBlank_0 : decode cX8_isBlank 0 = .ok (.iload_n 0, 1) := by decide +kernel
theorem dX8_isBlank_1 : decode cX8_isBlank 1 = .ok (.bipush 32, 2) := by decide +kernel
theorem dX8_isBlank_3 : decode cX8_isBlank 3 = .ok (.if_icmp .eq 9, 3) := by decide +kernel
theorem dX8_isBlank_6 : decode cX8_isBlank 6 = .ok (.iload_n 0, 1) := by decide +kernel
theorem dX8_isBlank_7 : decode cX8_isBlank 7 = .ok (.bipush 10, 2) := by decide +kernel
theorem dX8_isBlank_9 : decode cX8_isBlank 9 = .ok (.if_icmp .ne 7, 3) := by decide +kernel
theorem dX8_isBlank_12 : decode cX8_isBlank 12 = .ok (.iconst 1, 1) := by decide +kernel
theorem dX8_isBlank_13 : decode cX8_isBlank 13 = .ok (.goto 4, 3) := by decide +kernel
theorem dX8_isBlank_16 : decode cX8_isBlank 16 = .ok (.iconst 0, 1) := by decide +kernel
theorem dX8_isBlank_17 : decode cX8_isBlank 17 = .ok (.ireturn, 1) := by decide +kernel
theorem dX8_here_0 : decode cX8_here 0 = .ok (.aload_n 0, 1) := by decide +kernel
theorem dX8_here_1 : decode cX8_here 1 = .ok (.getfield 126, 3) := by decide +kernel
theorem dX8_here_4 : decode cX8_here 4 = .ok (.aload_n 0, 1) := by decide +kernel
theorem dX8_here_5 : decode cX8_here 5 = .ok (.getfield 115, 3) := by decide +kernel
theorem dX8_here_8 : decode cX8_here 8 = .ok (.if_icmp .ge 15, 3) := by decide +kernel
theorem dX8_here_11 : decode cX8_here 11 = .ok (.aload_n 0, 1) := by decide +kernel
theorem dX8_here_12 : decode cX8_here 12 = .ok (.getfield 29, 3) := by decide +kernel
theorem dX8_here_15 : decode cX8_here 15 = .ok (.aload_n 0, 1) := by decide +kernel
theorem dX8_here_16 : decode cX8_here 16 = .ok (.getfield 126, 3) := by decide +kernel
theorem dX8_here_19 : decode cX8_here 19 = .ok (.iaload, 1) := by decide +kernel
theorem dX8_here_20 : decode cX8_here 20 = .ok (.goto 4, 3) := by decide +kernel
theorem dX8_here_23 : decode cX8_here 23 = .ok (.iconst (-1), 1) := by decide +kernel
theorem dX8_here_24 : decode cX8_here 24 = .ok (.ireturn, 1) := by decide +kernel
set_option maxRecDepth 20000 in
theorem ggX8_skip_X8_here : GoodIn wsX8_skip wsX8_here := goodIn_r _ [6, 1, 7, 8, 12, 13, 14, 15, 16, 17, 18, 19, 20, 21, 22, 23, 24, 25, 26, 27, 28, 29, 30, 31, 32, 33, 34, 35, 36, 37, 38, 39, 40, 41, 42, 43, 44, 45, 46, 47, 48, 49, 50, 51, 52, 53, 54] (by decide +kernel) (by decide +kernel)
set_option maxRecDepth 20000 in
theorem gX8_skip_X8_here : GoodIn wsX8_skip (wsV RX8 129 RX8 yX8_here wsX8_here) := goodIn_app (goodIn_of _ (by decide +kernel)) ggX8_skip_X8_here
set_option maxRecDepth 20000 in
theorem ggX8_skip_X8_isBlank : GoodIn wsX8_skip wsX8_isBlank := goodIn_r _ [11] (by decide +kernel) (by decide +kernel)
set_option maxRecDepth 20000 in
theorem gX8_skip_X8_isBlank : GoodIn wsX8_skip (va_wsS RX8 133 yX8_isBlank wsX8_isBlank) := goodIn_app (goodIn_of _ (by decide +kernel)) ggX8_skip_X8_isBlank
theorem dX8_skip_0 : decode cX8_skip 0 = .ok (.aload_n 0, 1) := by decide +kernel
theorem dX8_skip_1 : decode cX8_skip 1 = .ok (.invokevirtual 129, 3) := by decide +kernel
theorem dX8_skip_4 : decode cX8_skip 4 = .ok (.invokestatic 133, 3) := by decide +kernel
theorem dX8_skip_7 : decode cX8_skip 7 = .ok (.ifCond .eq 16, 3) := by decide +kernel
theorem dX8_skip_10 : decode cX8_skip 10 = .ok (.aload_n 0, 1) := by decide +kernel
theorem dX8_skip_11 : decode cX8_skip 11 = .ok (.dup, 1) := by decide +kernel
theorem dX8_skip_12 : decode cX8_skip 12 = .ok (.getfield 126, 3) := by decide +kernel
theorem dX8_skip_15 : decode cX8_skip 15 = .ok (.iconst 1, 1) := by decide +kernel
theorem dX8_skip_16 : decode cX8_skip 16 = .ok (.iadd, 1) := by decide +kernel
theorem dX8_skip_17 : decode cX8_skip 17 = .ok (.putfield 126, 3) := by decide +kernel
theorem dX8_skip_20 : decode cX8_skip 20 = .ok (.goto (-20), 3) := by decide +kernel
theorem dX8_skip_23 : decode cX8_skip 23 = .ok (.return_, 1) := by decide +kernel
theorem dX8_isFigure_0 : decode cX8_isFigure 0 = .ok (.iload_n 0, 1) := by decide +kernel
theorem dX8_isFigure_1 : decode cX8_isFigure 1 = .ok (.bipush 48, 2) := by decide +kernel
theorem dX8_isFigure_3 : decode cX8_isFigure 3 = .ok (.if_icmp .lt 13, 3) := by decide +kernel
theorem dX8_isFigure_6 : decode cX8_isFigure 6 = .ok (.iload_n 0, 1) := by decide +kernel
theorem dX8_isFigure_7 : decode cX8_isFigure 7 = .ok (.bipush 57, 2) := by decide +kernel
theorem dX8_isFigure_9 : decode cX8_isFigure 9 = .ok (.if_icmp .gt 7, 3) := by decide +kernel
theorem dX8_isFigure_12 : decode cX8_isFigure 12 = .ok (.iconst 1, 1) := by decide +kernel
theorem dX8_isFigure_13 : decode cX8_isFigure 13 = .ok (.goto 4, 3) := by decide +kernel
theorem dX8_isFigure_16 : decode cX8_isFigure 16 = .ok (.iconst 0, 1) := by decide +kernel
theorem dX8_isFigure_17 : decode cX8_isFigure 17 = .ok (.ireturn, 1) := by decide +kernel
set_option maxRecDepth 20000 in
theorem ggX8_parted_X8_here : GoodIn wsX8_parted wsX8_here := goodIn_r _ [6, 1, 7, 8, 18, 19, 20, 21, 22, 23, 24, 25, 26, 27, 28, 29, 30, 31, 32, 33, 34, 35, 36, 37, 38, 39, 40, 41, 42, 43, 44, 45, 46, 47, 48, 49, 50, 51, 52, 53, 54, 55, 56, 57, 58, 59, 60] (by decide +kernel) (by decide +kernel)
set_option maxRecDepth 20000 in
theorem gX8_parted_X8_here : GoodIn wsX8_parted (wsV RX8 129 RX8 yX8_here wsX8_here) := goodIn_app (goodIn_of _ (by decide +kernel)) ggX8_parted_X8_here
set_option maxRecDepth 20000 in
theorem ggX8_parted_X8_isBlank : GoodIn wsX8_parted wsX8_isBlank := goodIn_r _ [11] (by decide +kernel) (by decide +kernel)
set_option maxRecDepth 20000 in
theorem gX8_parted_X8_isBlank : GoodIn wsX8_parted (va_wsS RX8 133 yX8_isBlank wsX8_isBlank) := goodIn_app (goodIn_of _ (by decide +kernel)) ggX8_parted_X8_isBlank
set_option maxRecDepth 20000 in
theorem ggX8_parted_X8_fail : GoodIn wsX8_parted wsX8_fail := goodIn_r _ [15, 16, 17, 18, 19, 20, 21, 22, 23, 24, 25, 26, 27, 28, 29, 30, 31, 32, 33, 34, 35, 36, 37, 38, 39, 40, 41, 42, 43, 44, 45, 46, 47, 48, 49, 50, 51, 52, 53, 54, 55, 56, 57, 58, 59, 60] (by decide +kernel) (by decide +kernel)
set_option maxRecDepth 20000 in
theorem gX8_parted_X8_fail : GoodIn wsX8_parted (wsV RX8 137 RX8 yX8_fail wsX8_fail) := goodIn_app (goodIn_of _ (by decide +kernel)) ggX8_parted_X8_fail
theorem dX8_parted_0 : decode cX8_parted 0 = .ok (.aload_n 0, 1) := by decide +kernel
theorem dX8_parted_1 : decode cX8_parted 1 = .ok (.invokevirtual 129, 3) := by decide +kernel
theorem dX8_parted_4 : decode cX8_parted 4 = .ok (.iconst (-1), 1) := by decide +kernel
theorem dX8_parted_5 : decode cX8_parted 5 = .ok (.if_icmp .eq 22, 3) := by decide +kernel
theorem dX8_parted_8 : decode cX8_parted 8 = .ok (.aload_n 0, 1) := by decide +kernel
theorem dX8_parted_9 : decode cX8_parted 9 = .ok (.invokevirtual 129, 3) := by decide +kernel
theorem dX8_parted_12 : decode cX8_parted 12 = .ok (.invokestatic 133, 3) := by decide +kernel
theorem dX8_parted_15 : decode cX8_parted 15 = .ok (.ifCond .ne 12, 3) := by decide +kernel
theorem dX8_parted_18 : decode cX8_parted 18 = .ok (.aload_n 0, 1) := by decide +kernel
theorem dX8_parted_19 : decode cX8_parted 19 = .ok (.iconst 1, 1) := by decide +kernel
theorem dX8_parted_20 : decode cX8_parted 20 = .ok (.aload_n 0, 1) := by decide +kernel
theorem dX8_parted_21 : decode cX8_parted 21 = .ok (.getfield 126, 3) := by decide +kernel
theorem dX8_parted_24 : decode cX8_parted 24 = .ok (.invokevirtual 137, 3) := by decide +kernel
theorem dX8_parted_27 : decode cX8_parted 27 = .ok (.return_, 1) := by decide +kernel
set_option maxRecDepth 20000 in
theorem ggX8_readNumber_X8_here : GoodIn wsX8_readNumber wsX8_here := goodIn_r _ [7, 1, 8, 9, 26, 27, 28, 29, 30, 31, 32, 33, 34, 35, 36, 37, 38, 39, 40, 41, 42, 43, 44, 45, 46, 47, 48, 49, 50, 51, 52, 53, 54, 55, 56, 57, 58, 59, 60, 61, 62, 63, 64, 65, 66, 67, 68] (by decide +kernel) (by decide +kernel)
set_option maxRecDepth 20000 in
theorem gX8_readNumber_X8_here : GoodIn wsX8_readNumber (wsV RX8 129 RX8 yX8_here wsX8_here) := goodIn_app (goodIn_of _ (by decide +kernel)) ggX8_readNumber_X8_here
set_option maxRecDepth 20000 in
theorem ggX8_readNumber_X8_isFigure : GoodIn wsX8_readNumber wsX8_isFigure := goodIn_r _ [12] (by decide +kernel) (by decide +kernel)
set_option maxRecDepth 20000 in
theorem gX8_readNumber_X8_isFigure : GoodIn wsX8_readNumber (va_wsS RX8 141 yX8_isFigure wsX8_isFigure) := goodIn_app (goodIn_of _ (by decide +kernel)) ggX8_readNumber_X8_isFigure
set_option maxRecDepth 20000 in
theorem ggX8_readNumber_X8_fail : GoodIn wsX8_readNumber wsX8_fail := goodIn_r _ [16, 17, 18, 26, 27, 28, 29, 30, 31, 32, 33, 34, 35, 36, 37, 38, 39, 40, 41, 42, 43, 44, 45, 46, 47, 48, 49, 50, 51, 52, 53, 54, 55, 56, 57, 58, 59, 60, 61, 62, 63, 64, 65, 66, 67, 68] (by decide +kernel) (by decide +kernel)
set_option maxRecDepth 20000 in
theorem gX8_readNumber_X8_fail : GoodIn wsX8_readNumber (wsV RX8 137 RX8 yX8_fail wsX8_fail) := goodIn_app (goodIn_of _ (by decide +kernel)) ggX8_readNumber_X8_fail
set_option maxRecDepth 20000 in
theorem ggX8_readNumber_X8_parted : GoodIn wsX8_readNumber wsX8_parted := goodIn_r _ [22, 1, 3, 4, 5, 6, 7, 8, 9, 23, 24, 25, 13, 14, 15, 16, 17, 18, 26, 27, 28, 29, 30, 31, 32, 33, 34, 35, 36, 37, 38, 39, 40, 41, 42, 43, 44, 45, 46, 47, 48, 49, 50, 51, 52, 53, 54, 55, 56, 57, 58, 59, 60, 61, 62, 63, 64, 65, 66, 67, 68] (by decide +kernel) (by decide +kernel)
set_option maxRecDepth 20000 in
theorem gX8_readNumber_X8_parted : GoodIn wsX8_readNumber (wsV RX8 144 RX8 yX8_parted wsX8_parted) := goodIn_app (goodIn_of _ (by decide +kernel)) ggX8_readNumber_X8_parted
theorem dX8_readNumber_0 : decode cX8_readNumber 0 = .ok (.aload_n 0, 1) := by decide +kernel
theorem dX8_readNumber_1 : decode cX8_readNumber 1 = .ok (.getfield 126, 3) := by decide +kernel
theorem dX8_readNumber_4 : decode cX8_readNumber 4 = .ok (.istore_n 1, 1) := by decide +kernel
theorem dX8_readNumber_5 : decode cX8_readNumber 5 = .ok (.iconst 0, 1) := by decide +kernel
theorem dX8_readNumber_6 : decode cX8_readNumber 6 = .ok (.istore_n 2, 1) := by decide +kernel
theorem dX8_readNumber_7 : decode cX8_readNumber 7 = .ok (.aload_n 0, 1) := by decide +kernel
theorem dX8_readNumber_8 : decode cX8_readNumber 8 = .ok (.invokevirtual 129, 3) := by decide +kernel
theorem dX8_readNumber_11 : decode cX8_readNumber 11 = .ok (.invokestatic 141, 3) := by decide +kernel
theorem dX8_readNumber_14 : decode cX8_readNumber 14 = .ok (.ifCond .eq 41, 3) := by decide +kernel
theorem dX8_readNumber_17 : decode cX8_readNumber 17 = .ok (.iload_n 2, 1) := by decide +kernel
theorem dX8_readNumber_18 : decode cX8_readNumber 18 = .ok (.aload_n 0, 1) := by decide +kernel
theorem dX8_readNumber_19 : decode cX8_readNumber 19 = .ok (.getfield 77, 3) := by decide +kernel
theorem dX8_readNumber_22 : decode cX8_readNumber 22 = .ok (.if_icmp .le 7, 3) := by decide +kernel
theorem dX8_readNumber_25 : decode cX8_readNumber 25 = .ok (.iload_n 2, 1) := by decide +kernel
theorem dX8_readNumber_26 : decode cX8_readNumber 26 = .ok (.goto 15, 3) := by decide +kernel
theorem dX8_readNumber_29 : decode cX8_readNumber 29 = .ok (.bipush 10, 2) := by decide +kernel
theorem dX8_readNumber_31 : decode cX8_readNumber 31 = .ok (.iload_n 2, 1) := by decide +kernel
theorem dX8_readNumber_32 : decode cX8_readNumber 32 = .ok (.imul, 1) := by decide +kernel
theorem dX8_readNumber_33 : decode cX8_readNumber 33 = .ok (.aload_n 0, 1) := by decide +kernel
theorem dX8_readNumber_34 : decode cX8_readNumber 34 = .ok (.invokevirtual 129, 3) := by decide +kernel
theorem dX8_readNumber_37 : decode cX8_readNumber 37 = .ok (.iadd, 1) := by decide +kernel
theorem dX8_readNumber_38 : decode cX8_readNumber 38 = .ok (.bipush 48, 2) := by decide +kernel
theorem dX8_readNumber_40 : decode cX8_readNumber 40 = .ok (.isub, 1) := by decide +kernel
theorem dX8_readNumber_41 : decode cX8_readNumber 41 = .ok (.istore_n 2, 1) := by decide +kernel
theorem dX8_readNumber_42 : decode cX8_readNumber 42 = .ok (.aload_n 0, 1) := by decide +kernel
theorem dX8_readNumber_43 : decode cX8_readNumber 43 = .ok (.dup, 1) := by decide +kernel
theorem dX8_readNumber_44 : decode cX8_readNumber 44 = .ok (.getfield 126, 3) := by decide +kernel
theorem dX8_readNumber_47 : decode cX8_readNumber 47 = .ok (.iconst 1, 1) := by decide +kernel
theorem dX8_readNumber_48 : decode cX8_readNumber 48 = .ok (.iadd, 1) := by decide +kernel
theorem dX8_readNumber_49 : decode cX8_readNumber 49 = .ok (.putfield 126, 3) := by decide +kernel
theorem dX8_readNumber_52 : decode cX8_readNumber 52 = .ok (.goto (-45), 3) := by decide +kernel
theorem dX8_readNumber_55 : decode cX8_readNumber 55 = .ok (.iload_n 2, 1) := by decide +kernel
theorem dX8_readNumber_56 : decode cX8_readNumber 56 = .ok (.aload_n 0, 1) := by decide +kernel
theorem dX8_readNumber_57 : decode cX8_readNumber 57 = .ok (.getfield 77, 3) := by decide +kernel
theorem dX8_readNumber_60 : decode cX8_readNumber 60 = .ok (.if_icmp .le 9, 3) := by decide +kernel
theorem dX8_readNumber_63 : decode cX8_readNumber 63 = .ok (.aload_n 0, 1) := by decide +kernel
theorem dX8_readNumber_64 : decode cX8_readNumber 64 = .ok (.iconst 2, 1) := by decide +kernel
theorem dX8_readNumber_65 : decode cX8_readNumber 65 = .ok (.iload_n 1, 1) := by decide +kernel
theorem dX8_readNumber_66 : decode cX8_readNumber 66 = .ok (.invokevirtual 137, 3) := by decide +kernel
theorem dX8_readNumber_69 : decode cX8_readNumber 69 = .ok (.aload_n 0, 1) := by decide +kernel
theorem dX8_readNumber_70 : decode cX8_readNumber 70 = .ok (.invokevirtual 144, 3) := by decide +kernel
theorem dX8_readNumber_73 : decode cX8_readNumber 73 = .ok (.iload_n 2, 1) := by decide +kernel
theorem dX8_readNumber_74 : decode cX8_readNumber 74 = .ok (.ireturn, 1) := by decide +kernel
set_option maxRecDepth 20000 in
theorem ggX8_readLiteral_X8_here : GoodIn wsX8_readLiteral wsX8_here := goodIn_r _ [9, 1, 10, 11, 32, 33, 34, 35, 36, 37, 38, 39, 40, 41, 42, 43, 44, 45, 46, 47, 48, 49, 50, 51, 52, 53, 54, 55, 56, 57, 58, 59, 60, 61, 62, 63, 64, 65, 66, 67, 68, 69, 70, 71, 72, 73, 74] (by decide +kernel) (by decide +kernel)
set_option maxRecDepth 20000 in
theorem gX8_readLiteral_X8_here : GoodIn wsX8_readLiteral (wsV RX8 129 RX8 yX8_here wsX8_here) := goodIn_app (goodIn_of _ (by decide +kernel)) ggX8_readLiteral_X8_here
set_option maxRecDepth 20000 in
theorem ggX8_readLiteral_X8_isFigure : GoodIn wsX8_readLiteral wsX8_isFigure := goodIn_r _ [14] (by decide +kernel) (by decide +kernel)
set_option maxRecDepth 20000 in
theorem gX8_readLiteral_X8_isFigure : GoodIn wsX8_readLiteral (va_wsS RX8 141 yX8_isFigure wsX8_isFigure) := goodIn_app (goodIn_of _ (by decide +kernel)) ggX8_readLiteral_X8_isFigure
set_option maxRecDepth 20000 in
theorem ggX8_readLiteral_X8_fail : GoodIn wsX8_readLiteral wsX8_fail := goodIn_r _ [18, 2, 19, 32, 33, 34, 35, 36, 37, 38, 39, 40, 41, 42, 43, 44, 45, 46, 47, 48, 49, 50, 51, 52, 53, 54, 55, 56, 57, 58, 59, 60, 61, 62, 63, 64, 65, 66, 67, 68, 69, 70, 71, 72, 73, 74] (by decide +kernel) (by decide +kernel)
set_option maxRecDepth 20000 in
theorem gX8_readLiteral_X8_fail : GoodIn wsX8_readLiteral (wsV RX8 137 RX8 yX8_fail wsX8_fail) := goodIn_app (goodIn_of _ (by decide +kernel)) ggX8_readLiteral_X8_fail
set_option maxRecDepth 20000 in
theorem ggX8_readLiteral_X8_readNumber : GoodIn wsX8_readLiteral wsX8_readNumber := goodIn_r _ [23, 1, 24, 5, 6, 7, 8, 9, 10, 11, 12, 13, 14, 15, 16, 17, 18, 2, 19, 25, 26, 27, 28, 29, 30, 31, 32, 33, 34, 35, 36, 37, 38, 39, 40, 41, 42, 43, 44, 45, 46, 47, 48, 49, 50, 51, 52, 53, 54, 55, 56, 57, 58, 59, 60, 61, 62, 63, 64, 65, 66, 67, 68, 69, 70, 71, 72, 73, 74] (by decide +kernel) (by decide +kernel)
set_option maxRecDepth 20000 in
theorem gX8_readLiteral_X8_readNumber : GoodIn wsX8_readLiteral (wsV RX8 147 RX8 yX8_readNumber wsX8_readNumber) := goodIn_app (goodIn_of _ (by decide +kernel)) ggX8_readLiteral_X8_readNumber
theorem dX8_readLiteral_0 : decode cX8_readLiteral 0 = .ok (.aload_n 0, 1) := by decide +kernel
theorem dX8_readLiteral_1 : decode cX8_readLiteral 1 = .ok (.invokevirtual 129, 3) := by decide +kernel
theorem dX8_readLiteral_4 : decode cX8_readLiteral 4 = .ok (.bipush 45, 2) := by decide +kernel
theorem dX8_readLiteral_6 : decode cX8_readLiteral 6 = .ok (.if_icmp .ne 7, 3) := by decide +kernel
theorem dX8_readLiteral_9 : decode cX8_readLiteral 9 = .ok (.iconst 1, 1) := by decide +kernel
theorem dX8_readLiteral_10 : decode cX8_readLiteral 10 = .ok (.goto 4, 3) := by decide +kernel
theorem dX8_readLiteral_13 : decode cX8_readLiteral 13 = .ok (.iconst 0, 1) := by decide +kernel
theorem dX8_readLiteral_14 : decode cX8_readLiteral 14 = .ok (.istore_n 2, 1) := by decide +kernel
theorem dX8_readLiteral_15 : decode cX8_readLiteral 15 = .ok (.aload_n 0, 1) := by decide +kernel
theorem dX8_readLiteral_16 : decode cX8_readLiteral 16 = .ok (.dup, 1) := by decide +kernel
theorem dX8_readLiteral_17 : decode cX8_readLiteral 17 = .ok (.getfield 126, 3) := by decide +kernel
theorem dX8_readLiteral_20 : decode cX8_readLiteral 20 = .ok (.iload_n 2, 1) := by decide +kernel
theorem dX8_readLiteral_21 : decode cX8_readLiteral 21 = .ok (.ifCond .eq 7, 3) := by decide +kernel
theorem dX8_readLiteral_24 : decode cX8_readLiteral 24 = .ok (.iconst 1, 1) := by decide +kernel
theorem dX8_readLiteral_25 : decode cX8_readLiteral 25 = .ok (.goto 4, 3) := by decide +kernel
theorem dX8_readLiteral_28 : decode cX8_readLiteral 28 = .ok (.iconst 0, 1) := by decide +kernel
theorem dX8_readLiteral_29 : decode cX8_readLiteral 29 = .ok (.iadd, 1) := by decide +kernel
theorem dX8_readLiteral_30 : decode cX8_readLiteral 30 = .ok (.putfield 126, 3) := by decide +kernel
theorem dX8_readLiteral_33 : decode cX8_readLiteral 33 = .ok (.aload_n 0, 1) := by decide +kernel
theorem dX8_readLiteral_34 : decode cX8_readLiteral 34 = .ok (.invokevirtual 129, 3) := by decide +kernel
theorem dX8_readLiteral_37 : decode cX8_readLiteral 37 = .ok (.invokestatic 141, 3) := by decide +kernel
theorem dX8_readLiteral_40 : decode cX8_readLiteral 40 = .ok (.ifCond .eq 12, 3) := by decide +kernel
theorem dX8_readLiteral_43 : decode cX8_readLiteral 43 = .ok (.aload_n 0, 1) := by decide +kernel
theorem dX8_readLiteral_44 : decode cX8_readLiteral 44 = .ok (.invokevirtual 129, 3) := by decide +kernel
theorem dX8_readLiteral_47 : decode cX8_readLiteral 47 = .ok (.bipush 48, 2) := by decide +kernel
theorem dX8_readLiteral_49 : decode cX8_readLiteral 49 = .ok (.if_icmp .ne 13, 3) := by decide +kernel
theorem dX8_readLiteral_52 : decode cX8_readLiteral 52 = .ok (.aload_n 0, 1) := by decide +kernel
theorem dX8_readLiteral_53 : decode cX8_readLiteral 53 = .ok (.iconst 1, 1) := by decide +kernel
theorem dX8_readLiteral_54 : decode cX8_readLiteral 54 = .ok (.aload_n 0, 1) := by decide +kernel
theorem dX8_readLiteral_55 : decode cX8_readLiteral 55 = .ok (.getfield 126, 3) := by decide +kernel
theorem dX8_readLiteral_58 : decode cX8_readLiteral 58 = .ok (.invokevirtual 137, 3) := by decide +kernel
theorem dX8_readLiteral_61 : decode cX8_readLiteral 61 = .ok (.return_, 1) := by decide +kernel
theorem dX8_readLiteral_62 : decode cX8_readLiteral 62 = .ok (.aload_n 0, 1) := by decide +kernel
theorem dX8_readLiteral_63 : decode cX8_readLiteral 63 = .ok (.invokevirtual 147, 3) := by decide +kernel
theorem dX8_readLiteral_66 : decode cX8_readLiteral 66 = .ok (.istore_n 3, 1) := by decide +kernel
theorem dX8_readLiteral_67 : decode cX8_readLiteral 67 = .ok (.aload_n 0, 1) := by decide +kernel
theorem dX8_readLiteral_68 : decode cX8_readLiteral 68 = .ok (.getfield 120, 3) := by decide +kernel
theorem dX8_readLiteral_71 : decode cX8_readLiteral 71 = .ok (.ifCond .le 4, 3) := by decide +kernel
theorem dX8_readLiteral_74 : decode cX8_readLiteral 74 = .ok (.return_, 1) := by decide +kernel
theorem dX8_readLiteral_75 : decode cX8_readLiteral 75 = .ok (.lconst 1, 1) := by decide +kernel
theorem dX8_readLiteral_76 : decode cX8_readLiteral 76 = .ok (.iload_n 3, 1) := by decide +kernel
theorem dX8_readLiteral_77 : decode cX8_readLiteral 77 = .ok (.iconst 1, 1) := by decide +kernel
theorem dX8_readLiteral_78 : decode cX8_readLiteral 78 = .ok (.isub, 1) := by decide +kernel
theorem dX8_readLiteral_79 : decode cX8_readLiteral 79 = .ok (.lshl, 1) := by decide +kernel
theorem dX8_readLiteral_80 : decode cX8_readLiteral 80 = .ok (.lstore 4, 2) := by decide +kernel
theorem dX8_readLiteral_82 : decode cX8_readLiteral 82 = .ok (.iload_n 1, 1) := by decide +kernel
theorem dX8_readLiteral_83 : decode cX8_readLiteral 83 = .ok (.ifCond .eq 38, 3) := by decide +kernel
theorem dX8_readLiteral_86 : decode cX8_readLiteral 86 = .ok (.aload_n 0, 1) := by decide +kernel
theorem dX8_readLiteral_87 : decode cX8_readLiteral 87 = .ok (.aload_n 0, 1) := by decide +kernel
theorem dX8_readLiteral_88 : decode cX8_readLiteral 88 = .ok (.getfield 150, 3) := by decide +kernel
theorem dX8_readLiteral_91 : decode cX8_readLiteral 91 = .ok (.lload 4, 2) := by decide +kernel
theorem dX8_readLiteral_93 : decode cX8_readLiteral 93 = .ok (.lxor, 1) := by decide +kernel
theorem dX8_readLiteral_94 : decode cX8_readLiteral 94 = .ok (.putfield 150, 3) := by decide +kernel
theorem dX8_readLiteral_97 : decode cX8_readLiteral 97 = .ok (.aload_n 0, 1) := by decide +kernel
theorem dX8_readLiteral_98 : decode cX8_readLiteral 98 = .ok (.iload_n 2, 1) := by decide +kernel
theorem dX8_readLiteral_99 : decode cX8_readLiteral 99 = .ok (.ifCond .eq 12, 3) := by decide +kernel
theorem dX8_readLiteral_102 : decode cX8_readLiteral 102 = .ok (.aload_n 0, 1) := by decide +kernel
theorem dX8_readLiteral_103 : decode cX8_readLiteral 103 = .ok (.getfield 153, 3) := by decide +kernel
theorem dX8_readLiteral_106 : decode cX8_readLiteral 106 = .ok (.lconst 1, 1) := by decide +kernel
theorem dX8_readLiteral_107 : decode cX8_readLiteral 107 = .ok (.lxor, 1) := by decide +kernel
theorem dX8_readLiteral_108 : decode cX8_readLiteral 108 = .ok (.goto 7, 3) := by decide +kernel
theorem dX8_readLiteral_111 : decode cX8_readLiteral 111 = .ok (.aload_n 0, 1) := by decide +kernel
theorem dX8_readLiteral_112 : decode cX8_readLiteral 112 = .ok (.getfield 153, 3) := by decide +kernel
theorem dX8_readLiteral_115 : decode cX8_readLiteral 115 = .ok (.putfield 153, 3) := by decide +kernel
theorem dX8_readLiteral_118 : decode cX8_readLiteral 118 = .ok (.goto 32, 3) := by decide +kernel
theorem dX8_readLiteral_121 : decode cX8_readLiteral 121 = .ok (.iload_n 2, 1) := by decide +kernel
theorem dX8_readLiteral_122 : decode cX8_readLiteral 122 = .ok (.ifCond .eq 17, 3) := by decide +kernel
theorem dX8_readLiteral_125 : decode cX8_readLiteral 125 = .ok (.aload_n 0, 1) := by decide +kernel
theorem dX8_readLiteral_126 : decode cX8_readLiteral 126 = .ok (.dup, 1) := by decide +kernel
theorem dX8_readLiteral_127 : decode cX8_readLiteral 127 = .ok (.getfield 153, 3) := by decide +kernel
theorem dX8_readLiteral_130 : decode cX8_readLiteral 130 = .ok (.lload 4, 2) := by decide +kernel
theorem dX8_readLiteral_132 : decode cX8_readLiteral 132 = .ok (.lor, 1) := by decide +kernel
theorem dX8_readLiteral_133 : decode cX8_readLiteral 133 = .ok (.putfield 153, 3) := by decide +kernel
theorem dX8_readLiteral_136 : decode cX8_readLiteral 136 = .ok (.goto 14, 3) := by decide +kernel
theorem dX8_readLiteral_139 : decode cX8_readLiteral 139 = .ok (.aload_n 0, 1) := by decide +kernel
theorem dX8_readLiteral_140 : decode cX8_readLiteral 140 = .ok (.dup, 1) := by decide +kernel
theorem dX8_readLiteral_141 : decode cX8_readLiteral 141 = .ok (.getfield 150, 3) := by decide +kernel
theorem dX8_readLiteral_144 : decode cX8_readLiteral 144 = .ok (.lload 4, 2) := by decide +kernel
theorem dX8_readLiteral_146 : decode cX8_readLiteral 146 = .ok (.lor, 1) := by decide +kernel
theorem dX8_readLiteral_147 : decode cX8_readLiteral 147 = .ok (.putfield 150, 3) := by decide +kernel
theorem dX8_readLiteral_150 : decode cX8_readLiteral 150 = .ok (.return_, 1) := by decide +kernel
set_option maxRecDepth 20000 in
theorem ggX8_readLine_X8_here : GoodIn wsX8_readLine wsX8_here := goodIn_r _ [15, 3, 16, 17, 46, 47, 48, 49, 50, 51, 52, 53, 54, 55, 56, 57, 58, 59, 60, 61, 62, 63, 64, 65, 66, 67, 68, 69, 70, 71, 72, 73, 74, 75, 76, 77, 78, 79, 80, 81, 82, 83, 84, 85, 86, 87, 88] (by decide +kernel) (by decide +kernel)
set_option maxRecDepth 20000 in
theorem gX8_readLine_X8_here : GoodIn wsX8_readLine (wsV RX8 129 RX8 yX8_here wsX8_here) := goodIn_app (goodIn_of _ (by decide +kernel)) ggX8_readLine_X8_here
set_option maxRecDepth 20000 in
theorem ggX8_readLine_X8_parted : GoodIn wsX8_readLine wsX8_parted := goodIn_r _ [21, 3, 11, 12, 13, 14, 15, 16, 17, 22, 23, 24, 25, 26, 27, 28, 4, 29, 46, 47, 48, 49, 50, 51, 52, 53, 54, 55, 56, 57, 58, 59, 60, 61, 62, 63, 64, 65, 66, 67, 68, 69, 70, 71, 72, 73, 74, 75, 76, 77, 78, 79, 80, 81, 82, 83, 84, 85, 86, 87, 88] (by decide +kernel) (by decide +kernel)
set_option maxRecDepth 20000 in
theorem gX8_readLine_X8_parted : GoodIn wsX8_readLine (wsV RX8 144 RX8 yX8_parted wsX8_parted) := goodIn_app (goodIn_of _ (by decide +kernel)) ggX8_readLine_X8_parted
set_option maxRecDepth 20000 in
theorem ggX8_readLine_X8_skip : GoodIn wsX8_readLine wsX8_skip := goodIn_r _ [33, 3, 11, 12, 13, 14, 15, 16, 17, 22, 23, 24, 46, 47, 48, 49, 50, 51, 52, 53, 54, 55, 56, 57, 58, 59, 60, 61, 62, 63, 64, 65, 66, 67, 68, 69, 70, 71, 72, 73, 74, 75, 76, 77, 78, 79, 80, 81, 82, 83, 84, 85, 86, 87, 88] (by decide +kernel) (by decide +kernel)
set_option maxRecDepth 20000 in
theorem gX8_readLine_X8_skip : GoodIn wsX8_readLine (wsV RX8 156 RX8 yX8_skip wsX8_skip) := goodIn_app (goodIn_of _ (by decide +kernel)) ggX8_readLine_X8_skip
set_option maxRecDepth 20000 in
theorem ggX8_readLine_X8_readLiteral : GoodIn wsX8_readLine wsX8_readLiteral := goodIn_r _ [37, 3, 4, 1, 2, 11, 12, 13, 14, 15, 16, 17, 38, 39, 40, 25, 26, 27, 28, 29, 41, 42, 43, 44, 45, 18, 19, 20, 21, 22, 23, 24, 46, 47, 48, 49, 50, 51, 52, 53, 54, 55, 56, 57, 58, 59, 60, 61, 62, 63, 64, 65, 66, 67, 68, 69, 70, 71, 72, 73, 74, 75, 76, 77, 78, 79, 80, 81, 82, 83, 84, 85, 86, 87, 88] (by decide +kernel) (by decide +kernel)
set_option maxRecDepth 20000 in
theorem gX8_readLine_X8_readLiteral : GoodIn wsX8_readLine (wsV RX8 159 RX8 yX8_readLiteral wsX8_readLiteral) := goodIn_app (goodIn_of _ (by decide +kernel)) ggX8_readLine_X8_readLiteral
set_option maxRecDepth 20000 in
theorem ggX8_readLine_X8_fail : GoodIn wsX8_readLine wsX8_fail := goodIn_r _ [28, 4, 29, 46, 47, 48, 49, 50, 51, 52, 53, 54, 55, 56, 57, 58, 59, 60, 61, 62, 63, 64, 65, 66, 67, 68, 69, 70, 71, 72, 73, 74, 75, 76, 77, 78, 79, 80, 81, 82, 83, 84, 85, 86, 87, 88] (by decide +kernel) (by decide +kernel)
set_option maxRecDepth 20000 in
theorem gX8_readLine_X8_fail : GoodIn wsX8_readLine (wsV RX8 137 RX8 yX8_fail wsX8_fail) := goodIn_app (goodIn_of _ (by decide +kernel)) ggX8_readLine_X8_fail
theorem dX8_readLine_0 : decode cX8_readLine 0 = .ok (.aload_n 0, 1) := by decide +kernel
theorem dX8_readLine_1 : decode cX8_readLine 1 = .ok (.invokevirtual 129, 3) := by decide +kernel
theorem dX8_readLine_4 : decode cX8_readLine 4 = .ok (.bipush 120, 2) := by decide +kernel
theorem dX8_readLine_6 : decode cX8_readLine 6 = .ok (.if_icmp .ne 7, 3) := by decide +kernel
theorem dX8_readLine_9 : decode cX8_readLine 9 = .ok (.iconst 1, 1) := by decide +kernel
theorem dX8_readLine_10 : decode cX8_readLine 10 = .ok (.goto 4, 3) := by decide +kernel
theorem dX8_readLine_13 : decode cX8_readLine 13 = .ok (.iconst 0, 1) := by decide +kernel
theorem dX8_readLine_14 : decode cX8_readLine 14 = .ok (.istore_n 1, 1) := by decide +kernel
theorem dX8_readLine_15 : decode cX8_readLine 15 = .ok (.aload_n 0, 1) := by decide +kernel
theorem dX8_readLine_16 : decode cX8_readLine 16 = .ok (.lconst 0, 1) := by decide +kernel
theorem dX8_readLine_17 : decode cX8_readLine 17 = .ok (.putfield 150, 3) := by decide +kernel
theorem dX8_readLine_20 : decode cX8_readLine 20 = .ok (.aload_n 0, 1) := by decide +kernel
theorem dX8_readLine_21 : decode cX8_readLine 21 = .ok (.iload_n 1, 1) := by decide +kernel
theorem dX8_readLine_22 : decode cX8_readLine 22 = .ok (.ifCond .eq 7, 3) := by decide +kernel
theorem dX8_readLine_25 : decode cX8_readLine 25 = .ok (.lconst 1, 1) := by decide +kernel
theorem dX8_readLine_26 : decode cX8_readLine 26 = .ok (.goto 4, 3) := by decide +kernel
theorem dX8_readLine_29 : decode cX8_readLine 29 = .ok (.lconst 0, 1) := by decide +kernel
theorem dX8_readLine_30 : decode cX8_readLine 30 = .ok (.putfield 153, 3) := by decide +kernel
theorem dX8_readLine_33 : decode cX8_readLine 33 = .ok (.iload_n 1, 1) := by decide +kernel
theorem dX8_readLine_34 : decode cX8_readLine 34 = .ok (.ifCond .eq 21, 3) := by decide +kernel
theorem dX8_readLine_37 : decode cX8_readLine 37 = .ok (.aload_n 0, 1) := by decide +kernel
theorem dX8_readLine_38 : decode cX8_readLine 38 = .ok (.dup, 1) := by decide +kernel
theorem dX8_readLine_39 : decode cX8_readLine 39 = .ok (.getfield 126, 3) := by decide +kernel
theorem dX8_readLine_42 : decode cX8_readLine 42 = .ok (.iconst 1, 1) := by decide +kernel
theorem dX8_readLine_43 : decode cX8_readLine 43 = .ok (.iadd, 1) := by decide +kernel
theorem dX8_readLine_44 : decode cX8_readLine 44 = .ok (.putfield 126, 3) := by decide +kernel
theorem dX8_readLine_47 : decode cX8_readLine 47 = .ok (.aload_n 0, 1) := by decide +kernel
theorem dX8_readLine_48 : decode cX8_readLine 48 = .ok (.invokevirtual 144, 3) := by decide +kernel
theorem dX8_readLine_51 : decode cX8_readLine 51 = .ok (.aload_n 0, 1) := by decide +kernel
theorem dX8_readLine_52 : decode cX8_readLine 52 = .ok (.invokevirtual 156, 3) := by decide +kernel
theorem dX8_readLine_55 : decode cX8_readLine 55 = .ok (.aload_n 0, 1) := by decide +kernel
theorem dX8_readLine_56 : decode cX8_readLine 56 = .ok (.getfield 120, 3) := by decide +kernel
theorem dX8_readLine_59 : decode cX8_readLine 59 = .ok (.ifCond .ne 24, 3) := by decide +kernel
theorem dX8_readLine_62 : decode cX8_readLine 62 = .ok (.aload_n 0, 1) := by decide +kernel
theorem dX8_readLine_63 : decode cX8_readLine 63 = .ok (.invokevirtual 129, 3) := by decide +kernel
theorem dX8_readLine_66 : decode cX8_readLine 66 = .ok (.bipush 48, 2) := by decide +kernel
theorem dX8_readLine_68 : decode cX8_readLine 68 = .ok (.if_icmp .eq 15, 3) := by decide +kernel
theorem dX8_readLine_71 : decode cX8_readLine 71 = .ok (.aload_n 0, 1) := by decide +kernel
theorem dX8_readLine_72 : decode cX8_readLine 72 = .ok (.iload_n 1, 1) := by decide +kernel
theorem dX8_readLine_73 : decode cX8_readLine 73 = .ok (.invokevirtual 159, 3) := by decide +kernel
theorem dX8_readLine_76 : decode cX8_readLine 76 = .ok (.aload_n 0, 1) := by decide +kernel
theorem dX8_readLine_77 : decode cX8_readLine 77 = .ok (.invokevirtual 156, 3) := by decide +kernel
theorem dX8_readLine_80 : decode cX8_readLine 80 = .ok (.goto (-25), 3) := by decide +kernel
theorem dX8_readLine_83 : decode cX8_readLine 83 = .ok (.aload_n 0, 1) := by decide +kernel
theorem dX8_readLine_84 : decode cX8_readLine 84 = .ok (.getfield 120, 3) := by decide +kernel
theorem dX8_readLine_87 : decode cX8_readLine 87 = .ok (.ifCond .le 4, 3) := by decide +kernel
theorem dX8_readLine_90 : decode cX8_readLine 90 = .ok (.return_, 1) := by decide +kernel
theorem dX8_readLine_91 : decode cX8_readLine 91 = .ok (.iload_n 1, 1) := by decide +kernel
theorem dX8_readLine_92 : decode cX8_readLine 92 = .ok (.ifCond .ne 21, 3) := by decide +kernel
theorem dX8_readLine_95 : decode cX8_readLine 95 = .ok (.aload_n 0, 1) := by decide +kernel
theorem dX8_readLine_96 : decode cX8_readLine 96 = .ok (.getfield 150, 3) := by decide +kernel
theorem dX8_readLine_99 : decode cX8_readLine 99 = .ok (.aload_n 0, 1) := by decide +kernel
theorem dX8_readLine_100 : decode cX8_readLine 100 = .ok (.getfield 153, 3) := by decide +kernel
theorem dX8_readLine_103 : decode cX8_readLine 103 = .ok (.land, 1) := by decide +kernel
theorem dX8_readLine_104 : decode cX8_readLine 104 = .ok (.lconst 0, 1) := by decide +kernel
theorem dX8_readLine_105 : decode cX8_readLine 105 = .ok (.lcmp, 1) := by decide +kernel
theorem dX8_readLine_106 : decode cX8_readLine 106 = .ok (.ifCond .eq 7, 3) := by decide +kernel
theorem dX8_readLine_109 : decode cX8_readLine 109 = .ok (.iconst 1, 1) := by decide +kernel
theorem dX8_readLine_110 : decode cX8_readLine 110 = .ok (.goto 4, 3) := by decide +kernel
theorem dX8_readLine_113 : decode cX8_readLine 113 = .ok (.iconst 0, 1) := by decide +kernel
theorem dX8_readLine_114 : decode cX8_readLine 114 = .ok (.istore_n 2, 1) := by decide +kernel
theorem dX8_readLine_115 : decode cX8_readLine 115 = .ok (.iload_n 2, 1) := by decide +kernel
theorem dX8_readLine_116 : decode cX8_readLine 116 = .ok (.ifCond .ne 33, 3) := by decide +kernel
theorem dX8_readLine_119 : decode cX8_readLine 119 = .ok (.iload_n 1, 1) := by decide +kernel
theorem dX8_readLine_120 : decode cX8_readLine 120 = .ok (.ifCond .eq 10, 3) := by decide +kernel
theorem dX8_readLine_123 : decode cX8_readLine 123 = .ok (.aload_n 0, 1) := by decide +kernel
theorem dX8_readLine_124 : decode cX8_readLine 124 = .ok (.getfield 163, 3) := by decide +kernel
theorem dX8_readLine_127 : decode cX8_readLine 127 = .ok (.goto 7, 3) := by decide +kernel
theorem dX8_readLine_130 : decode cX8_readLine 130 = .ok (.aload_n 0, 1) := by decide +kernel
theorem dX8_readLine_131 : decode cX8_readLine 131 = .ok (.getfield 166, 3) := by decide +kernel
theorem dX8_readLine_134 : decode cX8_readLine 134 = .ok (.bipush 60, 2) := by decide +kernel
theorem dX8_readLine_136 : decode cX8_readLine 136 = .ok (.if_icmp .ne 13, 3) := by decide +kernel
theorem dX8_readLine_139 : decode cX8_readLine 139 = .ok (.aload_n 0, 1) := by decide +kernel
theorem dX8_readLine_140 : decode cX8_readLine 140 = .ok (.iconst 3, 1) := by decide +kernel
theorem dX8_readLine_141 : decode cX8_readLine 141 = .ok (.aload_n 0, 1) := by decide +kernel
theorem dX8_readLine_142 : decode cX8_readLine 142 = .ok (.getfield 126, 3) := by decide +kernel
theorem dX8_readLine_145 : decode cX8_readLine 145 = .ok (.invokevirtual 137, 3) := by decide +kernel
theorem dX8_readLine_148 : decode cX8_readLine 148 = .ok (.return_, 1) := by decide +kernel
theorem dX8_readLine_149 : decode cX8_readLine 149 = .ok (.iload_n 1, 1) := by decide +kernel
theorem dX8_readLine_150 : decode cX8_readLine 150 = .ok (.ifCond .eq 43, 3) := by decide +kernel
theorem dX8_readLine_153 : decode cX8_readLine 153 = .ok (.aload_n 0, 1) := by decide +kernel
theorem dX8_readLine_154 : decode cX8_readLine 154 = .ok (.getfield 32, 3) := by decide +kernel
theorem dX8_readLine_157 : decode cX8_readLine 157 = .ok (.aload_n 0, 1) := by decide +kernel
theorem dX8_readLine_158 : decode cX8_readLine 158 = .ok (.getfield 163, 3) := by decide +kernel
theorem dX8_readLine_161 : decode cX8_readLine 161 = .ok (.aload_n 0, 1) := by decide +kernel
theorem dX8_readLine_162 : decode cX8_readLine 162 = .ok (.getfield 150, 3) := by decide +kernel
theorem dX8_readLine_165 : decode cX8_readLine 165 = .ok (.lastore, 1) := by decide +kernel
theorem dX8_readLine_166 : decode cX8_readLine 166 = .ok (.aload_n 0, 1) := by decide +kernel
theorem dX8_readLine_167 : decode cX8_readLine 167 = .ok (.getfield 35, 3) := by decide +kernel
theorem dX8_readLine_170 : decode cX8_readLine 170 = .ok (.aload_n 0, 1) := by decide +kernel
theorem dX8_readLine_171 : decode cX8_readLine 171 = .ok (.getfield 163, 3) := by decide +kernel
theorem dX8_readLine_174 : decode cX8_readLine 174 = .ok (.aload_n 0, 1) := by decide +kernel
theorem dX8_readLine_175 : decode cX8_readLine 175 = .ok (.getfield 153, 3) := by decide +kernel
theorem dX8_readLine_178 : decode cX8_readLine 178 = .ok (.l2i, 1) := by decide +kernel
theorem dX8_readLine_179 : decode cX8_readLine 179 = .ok (.iastore, 1) := by decide +kernel
theorem dX8_readLine_180 : decode cX8_readLine 180 = .ok (.aload_n 0, 1) := by decide +kernel
theorem dX8_readLine_181 : decode cX8_readLine 181 = .ok (.dup, 1) := by decide +kernel
theorem dX8_readLine_182 : decode cX8_readLine 182 = .ok (.getfield 163, 3) := by decide +kernel
theorem dX8_readLine_185 : decode cX8_readLine 185 = .ok (.iconst 1, 1) := by decide +kernel
theorem dX8_readLine_186 : decode cX8_readLine 186 = .ok (.iadd, 1) := by decide +kernel
theorem dX8_readLine_187 : decode cX8_readLine 187 = .ok (.putfield 163, 3) := by decide +kernel
theorem dX8_readLine_190 : decode cX8_readLine 190 = .ok (.goto 43, 3) := by decide +kernel
theorem dX8_readLine_193 : decode cX8_readLine 193 = .ok (.iload_n 2, 1) := by decide +kernel
theorem dX8_readLine_194 : decode cX8_readLine 194 = .ok (.ifCond .ne 39, 3) := by decide +kernel
theorem dX8_readLine_197 : decode cX8_readLine 197 = .ok (.aload_n 0, 1) := by decide +kernel
theorem dX8_readLine_198 : decode cX8_readLine 198 = .ok (.getfield 38, 3) := by decide +kernel
theorem dX8_readLine_201 : decode cX8_readLine 201 = .ok (.aload_n 0, 1) := by decide +kernel
theorem dX8_readLine_202 : decode cX8_readLine 202 = .ok (.getfield 166, 3) := by decide +kernel
theorem dX8_readLine_205 : decode cX8_readLine 205 = .ok (.aload_n 0, 1) := by decide +kernel
theorem dX8_readLine_206 : decode cX8_readLine 206 = .ok (.getfield 150, 3) := by decide +kernel
theorem dX8_readLine_209 : decode cX8_readLine 209 = .ok (.lastore, 1) := by decide +kernel
theorem dX8_readLine_210 : decode cX8_readLine 210 = .ok (.aload_n 0, 1) := by decide +kernel
theorem dX8_readLine_211 : decode cX8_readLine 211 = .ok (.getfield 41, 3) := by decide +kernel
theorem dX8_readLine_214 : decode cX8_readLine 214 = .ok (.aload_n 0, 1) := by decide +kernel
theorem dX8_readLine_215 : decode cX8_readLine 215 = .ok (.getfield 166, 3) := by decide +kernel
theorem dX8_readLine_218 : decode cX8_readLine 218 = .ok (.aload_n 0, 1) := by decide +kernel
theorem dX8_readLine_219 : decode cX8_readLine 219 = .ok (.getfield 153, 3) := by decide +kernel
theorem dX8_readLine_222 : decode cX8_readLine 222 = .ok (.lastore, 1) := by decide +kernel
theorem dX8_readLine_223 : decode cX8_readLine 223 = .ok (.aload_n 0, 1) := by decide +kernel
theorem dX8_readLine_224 : decode cX8_readLine 224 = .ok (.dup, 1) := by decide +kernel
theorem dX8_readLine_225 : decode cX8_readLine 225 = .ok (.getfield 166, 3) := by decide +kernel
theorem dX8_readLine_228 : decode cX8_readLine 228 = .ok (.iconst 1, 1) := by decide +kernel
theorem dX8_readLine_229 : decode cX8_readLine 229 = .ok (.iadd, 1) := by decide +kernel
theorem dX8_readLine_230 : decode cX8_readLine 230 = .ok (.putfield 166, 3) := by decide +kernel
theorem dX8_readLine_233 : decode cX8_readLine 233 = .ok (.aload_n 0, 1) := by decide +kernel
theorem dX8_readLine_234 : decode cX8_readLine 234 = .ok (.dup, 1) := by decide +kernel
theorem dX8_readLine_235 : decode cX8_readLine 235 = .ok (.getfield 126, 3) := by decide +kernel
theorem dX8_readLine_238 : decode cX8_readLine 238 = .ok (.iconst 1, 1) := by decide +kernel
theorem dX8_readLine_239 : decode cX8_readLine 239 = .ok (.iadd, 1) := by decide +kernel
theorem dX8_readLine_240 : decode cX8_readLine 240 = .ok (.putfield 126, 3) := by decide +kernel
theorem dX8_readLine_243 : decode cX8_readLine 243 = .ok (.aload_n 0, 1) := by decide +kernel
theorem dX8_readLine_244 : decode cX8_readLine 244 = .ok (.invokevirtual 144, 3) := by decide +kernel
theorem dX8_readLine_247 : decode cX8_readLine 247 = .ok (.aload_n 0, 1) := by decide +kernel
theorem dX8_readLine_248 : decode cX8_readLine 248 = .ok (.invokevirtual 156, 3) := by decide +kernel
theorem dX8_readLine_251 : decode cX8_readLine 251 = .ok (.return_, 1) := by decide +kernel
set_option maxRecDepth 20000 in
theorem ggX8_read_X8_skip : GoodIn wsX8_read wsX8_skip := goodIn_r _ [22, 3, 23, 24, 25, 21, 26, 8, 27, 28, 29, 30, 57, 58, 59, 60, 61, 62, 63, 64, 65, 66, 67, 68, 69, 70, 71, 72, 73, 74, 75, 76, 77, 78, 79, 80, 81, 82, 83, 84, 85, 86, 87, 88, 89, 90, 91, 92, 93, 94, 95, 96, 97, 98, 99] (by decide +kernel) (by decide +kernel)
set_option maxRecDepth 20000 in
theorem gX8_read_X8_skip : GoodIn wsX8_read (wsV RX8 156 RX8 yX8_skip wsX8_skip) := goodIn_app (goodIn_of _ (by decide +kernel)) ggX8_read_X8_skip
set_option maxRecDepth 20000 in
theorem ggX8_read_X8_readLine : GoodIn wsX8_read wsX8_readLine := goodIn_r _ [34, 35, 36, 3, 2, 5, 7, 11, 13, 15, 17, 23, 24, 25, 21, 26, 8, 27, 37, 38, 39, 40, 28, 29, 30, 41, 42, 43, 44, 9, 18, 19, 20, 22, 45, 46, 47, 48, 49, 50, 51, 52, 53, 54, 55, 56, 57, 58, 59, 60, 61, 62, 63, 64, 65, 66, 67, 68, 69, 70, 71, 72, 73, 74, 75, 76, 77, 78, 79, 80, 81, 82, 83, 84, 85, 86, 87, 88, 89, 90, 91, 92, 93, 94, 95, 96, 97, 98, 99] (by decide +kernel) (by decide +kernel)
set_option maxRecDepth 20000 in
theorem gX8_read_X8_readLine : GoodIn wsX8_read (wsV RX8 169 RX8 yX8_readLine wsX8_readLine) := goodIn_app (goodIn_of _ (by decide +kernel)) ggX8_read_X8_readLine
theorem dX8_read_0 : decode cX8_read 0 = .ok (.aload_n 0, 1) := by decide +kernel
theorem dX8_read_1 : decode cX8_read 1 = .ok (.iconst 0, 1) := by decide +kernel
theorem dX8_read_2 : decode cX8_read 2 = .ok (.putfield 81, 3) := by decide +kernel
theorem dX8_read_5 : decode cX8_read 5 = .ok (.aload_n 0, 1) := by decide +kernel
theorem dX8_read_6 : decode cX8_read 6 = .ok (.iconst 0, 1) := by decide +kernel
theorem dX8_read_7 : decode cX8_read 7 = .ok (.putfield 120, 3) := by decide +kernel
theorem dX8_read_10 : decode cX8_read 10 = .ok (.aload_n 0, 1) := by decide +kernel
theorem dX8_read_11 : decode cX8_read 11 = .ok (.iconst 0, 1) := by decide +kernel
theorem dX8_read_12 : decode cX8_read 12 = .ok (.putfield 126, 3) := by decide +kernel
theorem dX8_read_15 : decode cX8_read 15 = .ok (.aload_n 0, 1) := by decide +kernel
theorem dX8_read_16 : decode cX8_read 16 = .ok (.aload_n 0, 1) := by decide +kernel
theorem dX8_read_17 : decode cX8_read 17 = .ok (.getfield 98, 3) := by decide +kernel
theorem dX8_read_20 : decode cX8_read 20 = .ok (.putfield 163, 3) := by decide +kernel
theorem dX8_read_23 : decode cX8_read 23 = .ok (.aload_n 0, 1) := by decide +kernel
theorem dX8_read_24 : decode cX8_read 24 = .ok (.aload_n 0, 1) := by decide +kernel
theorem dX8_read_25 : decode cX8_read 25 = .ok (.getfield 105, 3) := by decide +kernel
theorem dX8_read_28 : decode cX8_read 28 = .ok (.putfield 166, 3) := by decide +kernel
theorem dX8_read_31 : decode cX8_read 31 = .ok (.iconst 0, 1) := by decide +kernel
theorem dX8_read_32 : decode cX8_read 32 = .ok (.istore_n 1, 1) := by decide +kernel
theorem dX8_read_33 : decode cX8_read 33 = .ok (.aload_n 0, 1) := by decide +kernel
theorem dX8_read_34 : decode cX8_read 34 = .ok (.invokevirtual 156, 3) := by decide +kernel
theorem dX8_read_37 : decode cX8_read 37 = .ok (.aload_n 0, 1) := by decide +kernel
theorem dX8_read_38 : decode cX8_read 38 = .ok (.getfield 120, 3) := by decide +kernel
theorem dX8_read_41 : decode cX8_read 41 = .ok (.ifCond .ne 24, 3) := by decide +kernel
theorem dX8_read_44 : decode cX8_read 44 = .ok (.aload_n 0, 1) := by decide +kernel
theorem dX8_read_45 : decode cX8_read 45 = .ok (.getfield 126, 3) := by decide +kernel
theorem dX8_read_48 : decode cX8_read 48 = .ok (.aload_n 0, 1) := by decide +kernel
theorem dX8_read_49 : decode cX8_read 49 = .ok (.getfield 115, 3) := by decide +kernel
theorem dX8_read_52 : decode cX8_read 52 = .ok (.if_icmp .ge 13, 3) := by decide +kernel
theorem dX8_read_55 : decode cX8_read 55 = .ok (.aload_n 0, 1) := by decide +kernel
theorem dX8_read_56 : decode cX8_read 56 = .ok (.invokevirtual 169, 3) := by decide +kernel
theorem dX8_read_59 : decode cX8_read 59 = .ok (.iinc 1 1, 3) := by decide +kernel
theorem dX8_read_62 : decode cX8_read 62 = .ok (.goto (-25), 3) := by decide +kernel
theorem dX8_read_65 : decode cX8_read 65 = .ok (.aload_n 0, 1) := by decide +kernel
theorem dX8_read_66 : decode cX8_read 66 = .ok (.iconst 0, 1) := by decide +kernel
theorem dX8_read_67 : decode cX8_read 67 = .ok (.putfield 115, 3) := by decide +kernel
theorem dX8_read_70 : decode cX8_read 70 = .ok (.aload_n 0, 1) := by decide +kernel
theorem dX8_read_71 : decode cX8_read 71 = .ok (.getfield 120, 3) := by decide +kernel
theorem dX8_read_74 : decode cX8_read 74 = .ok (.ifCond .le 10, 3) := by decide +kernel
theorem dX8_read_77 : decode cX8_read 77 = .ok (.iconst (-1), 1) := by decide +kernel
theorem dX8_read_78 : decode cX8_read 78 = .ok (.aload_n 0, 1) := by decide +kernel
theorem dX8_read_79 : decode cX8_read 79 = .ok (.getfield 123, 3) := by decide +kernel
theorem dX8_read_82 : decode cX8_read 82 = .ok (.isub, 1) := by decide +kernel
theorem dX8_read_83 : decode cX8_read 83 = .ok (.ireturn, 1) := by decide +kernel
theorem dX8_read_84 : decode cX8_read 84 = .ok (.aload_n 0, 1) := by decide +kernel
theorem dX8_read_85 : decode cX8_read 85 = .ok (.getfield 98, 3) := by decide +kernel
theorem dX8_read_88 : decode cX8_read 88 = .ok (.istore_n 2, 1) := by decide +kernel
theorem dX8_read_89 : decode cX8_read 89 = .ok (.iload_n 2, 1) := by decide +kernel
theorem dX8_read_90 : decode cX8_read 90 = .ok (.aload_n 0, 1) := by decide +kernel
theorem dX8_read_91 : decode cX8_read 91 = .ok (.getfield 163, 3) := by decide +kernel
theorem dX8_read_94 : decode cX8_read 94 = .ok (.if_icmp .ge 33, 3) := by decide +kernel
theorem dX8_read_97 : decode cX8_read 97 = .ok (.aload_n 0, 1) := by decide +kernel
theorem dX8_read_98 : decode cX8_read 98 = .ok (.getfield 7, 3) := by decide +kernel
theorem dX8_read_101 : decode cX8_read 101 = .ok (.iload_n 2, 1) := by decide +kernel
theorem dX8_read_102 : decode cX8_read 102 = .ok (.aload_n 0, 1) := by decide +kernel
theorem dX8_read_103 : decode cX8_read 103 = .ok (.getfield 32, 3) := by decide +kernel
theorem dX8_read_106 : decode cX8_read 106 = .ok (.iload_n 2, 1) := by decide +kernel
theorem dX8_read_107 : decode cX8_read 107 = .ok (.laload, 1) := by decide +kernel
theorem dX8_read_108 : decode cX8_read 108 = .ok (.lastore, 1) := by decide +kernel
theorem dX8_read_109 : decode cX8_read 109 = .ok (.aload_n 0, 1) := by decide +kernel
theorem dX8_read_110 : decode cX8_read 110 = .ok (.getfield 13, 3) := by decide +kernel
theorem dX8_read_113 : decode cX8_read 113 = .ok (.iload_n 2, 1) := by decide +kernel
theorem dX8_read_114 : decode cX8_read 114 = .ok (.aload_n 0, 1) := by decide +kernel
theorem dX8_read_115 : decode cX8_read 115 = .ok (.getfield 35, 3) := by decide +kernel
theorem dX8_read_118 : decode cX8_read 118 = .ok (.iload_n 2, 1) := by decide +kernel
theorem dX8_read_119 : decode cX8_read 119 = .ok (.iaload, 1) := by decide +kernel
theorem dX8_read_120 : decode cX8_read 120 = .ok (.iastore, 1) := by decide +kernel
theorem dX8_read_121 : decode cX8_read 121 = .ok (.iinc 2 1, 3) := by decide +kernel
theorem dX8_read_124 : decode cX8_read 124 = .ok (.goto (-35), 3) := by decide +kernel
theorem dX8_read_127 : decode cX8_read 127 = .ok (.aload_n 0, 1) := by decide +kernel
theorem dX8_read_128 : decode cX8_read 128 = .ok (.getfield 105, 3) := by decide +kernel
theorem dX8_read_131 : decode cX8_read 131 = .ok (.istore_n 2, 1) := by decide +kernel
theorem dX8_read_132 : decode cX8_read 132 = .ok (.iload_n 2, 1) := by decide +kernel
theorem dX8_read_133 : decode cX8_read 133 = .ok (.aload_n 0, 1) := by decide +kernel
theorem dX8_read_134 : decode cX8_read 134 = .ok (.getfield 166, 3) := by decide +kernel
theorem dX8_read_137 : decode cX8_read 137 = .ok (.if_icmp .ge 33, 3) := by decide +kernel
theorem dX8_read_140 : decode cX8_read 140 = .ok (.aload_n 0, 1) := by decide +kernel
theorem dX8_read_141 : decode cX8_read 141 = .ok (.getfield 17, 3) := by decide +kernel
theorem dX8_read_144 : decode cX8_read 144 = .ok (.iload_n 2, 1) := by decide +kernel
theorem dX8_read_145 : decode cX8_read 145 = .ok (.aload_n 0, 1) := by decide +kernel
theorem dX8_read_146 : decode cX8_read 146 = .ok (.getfield 38, 3) := by decide +kernel
theorem dX8_read_149 : decode cX8_read 149 = .ok (.iload_n 2, 1) := by decide +kernel
theorem dX8_read_150 : decode cX8_read 150 = .ok (.laload, 1) := by decide +kernel
theorem dX8_read_151 : decode cX8_read 151 = .ok (.lastore, 1) := by decide +kernel
theorem dX8_read_152 : decode cX8_read 152 = .ok (.aload_n 0, 1) := by decide +kernel
theorem dX8_read_153 : decode cX8_read 153 = .ok (.getfield 20, 3) := by decide +kernel
theorem dX8_read_156 : decode cX8_read 156 = .ok (.iload_n 2, 1) := by decide +kernel
theorem dX8_read_157 : decode cX8_read 157 = .ok (.aload_n 0, 1) := by decide +kernel
theorem dX8_read_158 : decode cX8_read 158 = .ok (.getfield 41, 3) := by decide +kernel
theorem dX8_read_161 : decode cX8_read 161 = .ok (.iload_n 2, 1) := by decide +kernel
theorem dX8_read_162 : decode cX8_read 162 = .ok (.laload, 1) := by decide +kernel
theorem dX8_read_163 : decode cX8_read 163 = .ok (.lastore, 1) := by decide +kernel
theorem dX8_read_164 : decode cX8_read 164 = .ok (.iinc 2 1, 3) := by decide +kernel
theorem dX8_read_167 : decode cX8_read 167 = .ok (.goto (-35), 3) := by decide +kernel
theorem dX8_read_170 : decode cX8_read 170 = .ok (.aload_n 0, 1) := by decide +kernel
theorem dX8_read_171 : decode cX8_read 171 = .ok (.aload_n 0, 1) := by decide +kernel
theorem dX8_read_172 : decode cX8_read 172 = .ok (.getfield 163, 3) := by decide +kernel
theorem dX8_read_175 : decode cX8_read 175 = .ok (.putfield 98, 3) := by decide +kernel
theorem dX8_read_178 : decode cX8_read 178 = .ok (.aload_n 0, 1) := by decide +kernel
theorem dX8_read_179 : decode cX8_read 179 = .ok (.aload_n 0, 1) := by decide +kernel
theorem dX8_read_180 : decode cX8_read 180 = .ok (.getfield 166, 3) := by decide +kernel
theorem dX8_read_183 : decode cX8_read 183 = .ok (.putfield 105, 3) := by decide +kernel
theorem dX8_read_186 : decode cX8_read 186 = .ok (.iload_n 1, 1) := by decide +kernel
theorem dX8_read_187 : decode cX8_read 187 = .ok (.ireturn, 1) := by decide +kernel
theorem dX8_fault_0 : decode cX8_fault 0 = .ok (.aload_n 0, 1) := by decide +kernel
theorem dX8_fault_1 : decode cX8_fault 1 = .ok (.iconst 0, 1) := by decide +kernel
theorem dX8_fault_2 : decode cX8_fault 2 = .ok (.putfield 81, 3) := by decide +kernel
theorem dX8_fault_5 : decode cX8_fault 5 = .ok (.aload_n 0, 1) := by decide +kernel
theorem dX8_fault_6 : decode cX8_fault 6 = .ok (.getfield 120, 3) := by decide +kernel
theorem dX8_fault_9 : decode cX8_fault 9 = .ok (.ireturn, 1) := by decide +kernel
set_option maxRecDepth 20000 in
theorem ggX8_makeRows_X8_parity : GoodIn wsX8_makeRows wsX8_parity := goodIn_r _ [12, 13, 14, 11, 15] (by decide +kernel) (by decide +kernel)
set_option maxRecDepth 20000 in
theorem gX8_makeRows_X8_parity : GoodIn wsX8_makeRows (va_wsS RX8 179 yX8_parity wsX8_parity) := goodIn_app (goodIn_of _ (by decide +kernel)) ggX8_makeRows_X8_parity
set_option maxRecDepth 20000 in
theorem ggX8_makeRows_X8_headOf : GoodIn wsX8_makeRows wsX8_headOf := goodIn_r _ [19, 7, 20, 21, 11, 22, 23, 24, 25, 26, 31, 32, 33, 34, 35, 36, 37, 38, 39, 40, 41, 42, 43, 44, 45, 46, 47, 48, 49, 50, 51, 52, 53, 54, 55, 56, 57, 58, 59, 60, 61, 62, 63, 64, 65, 66, 67, 68, 69, 70, 71, 72, 73] (by decide +kernel) (by decide +kernel)
set_option maxRecDepth 20000 in
theorem gX8_makeRows_X8_headOf : GoodIn wsX8_makeRows (wsV RX8 182 RX8 yX8_headOf wsX8_headOf) := goodIn_app (goodIn_of _ (by decide +kernel)) ggX8_makeRows_X8_headOf
set_option maxRecDepth 20000 in
theorem ggX8_makeRows_X8_putRow : GoodIn wsX8_makeRows wsX8_putRow := goodIn_r _ [30, 1, 7, 8, 20, 21, 11, 22, 23, 24, 25, 26, 16, 17, 18, 19, 31, 32, 33, 34, 35, 36, 37, 38, 39, 40, 41, 42, 43, 44, 45, 46, 47, 48, 49, 50, 51, 52, 53, 54, 55, 56, 57, 58, 59, 60, 61, 62, 63, 64, 65, 66, 67, 68, 69, 70, 71, 72, 73] (by decide +kernel) (by decide +kernel)
set_option maxRecDepth 20000 in
theorem gX8_makeRows_X8_putRow : GoodIn wsX8_makeRows (wsV RX8 186 RX8 yX8_putRow wsX8_putRow) := goodIn_app (goodIn_of _ (by decide +kernel)) ggX8_makeRows_X8_putRow
theorem dX8_makeRows_0 : decode cX8_makeRows 0 = .ok (.aload_n 0, 1) := by decide +kernel
theorem dX8_makeRows_1 : decode cX8_makeRows 1 = .ok (.iconst 0, 1) := by decide +kernel
theorem dX8_makeRows_2 : decode cX8_makeRows 2 = .ok (.putfield 172, 3) := by decide +kernel
theorem dX8_makeRows_5 : decode cX8_makeRows 5 = .ok (.aload_n 0, 1) := by decide +kernel
theorem dX8_makeRows_6 : decode cX8_makeRows 6 = .ok (.iconst 0, 1) := by decide +kernel
theorem dX8_makeRows_7 : decode cX8_makeRows 7 = .ok (.putfield 175, 3) := by decide +kernel
theorem dX8_makeRows_10 : decode cX8_makeRows 10 = .ok (.iconst 0, 1) := by decide +kernel
theorem dX8_makeRows_11 : decode cX8_makeRows 11 = .ok (.istore 6, 2) := by decide +kernel
theorem dX8_makeRows_13 : decode cX8_makeRows 13 = .ok (.iload 6, 2) := by decide +kernel
theorem dX8_makeRows_15 : decode cX8_makeRows 15 = .ok (.aload_n 0, 1) := by decide +kernel
theorem dX8_makeRows_16 : decode cX8_makeRows 16 = .ok (.getfield 98, 3) := by decide +kernel
theorem dX8_makeRows_19 : decode cX8_makeRows 19 = .ok (.if_icmp .ge 135, 3) := by decide +kernel
theorem dX8_makeRows_22 : decode cX8_makeRows 22 = .ok (.aload_n 0, 1) := by decide +kernel
theorem dX8_makeRows_23 : decode cX8_makeRows 23 = .ok (.getfield 7, 3) := by decide +kernel
theorem dX8_makeRows_26 : decode cX8_makeRows 26 = .ok (.iload 6, 2) := by decide +kernel
theorem dX8_makeRows_28 : decode cX8_makeRows 28 = .ok (.laload, 1) := by decide +kernel
theorem dX8_makeRows_29 : decode cX8_makeRows 29 = .ok (.lload_n 1, 1) := by decide +kernel
theorem dX8_makeRows_30 : decode cX8_makeRows 30 = .ok (.ldc2_w 68, 3) := by decide +kernel
theorem dX8_makeRows_33 : decode cX8_makeRows 33 = .ok (.lxor, 1) := by decide +kernel
theorem dX8_makeRows_34 : decode cX8_makeRows 34 = .ok (.land, 1) := by decide +kernel
theorem dX8_makeRows_35 : decode cX8_makeRows 35 = .ok (.lstore 7, 2) := by decide +kernel
theorem dX8_makeRows_37 : decode cX8_makeRows 37 = .ok (.aload_n 0, 1) := by decide +kernel
theorem dX8_makeRows_38 : decode cX8_makeRows 38 = .ok (.getfield 13, 3) := by decide +kernel
theorem dX8_makeRows_41 : decode cX8_makeRows 41 = .ok (.iload 6, 2) := by decide +kernel
theorem dX8_makeRows_43 : decode cX8_makeRows 43 = .ok (.iaload, 1) := by decide +kernel
theorem dX8_makeRows_44 : decode cX8_makeRows 44 = .ok (.aload_n 0, 1) := by decide +kernel
theorem dX8_makeRows_45 : decode cX8_makeRows 45 = .ok (.getfield 7, 3) := by decide +kernel
theorem dX8_makeRows_48 : decode cX8_makeRows 48 = .ok (.iload 6, 2) := by decide +kernel
theorem dX8_makeRows_50 : decode cX8_makeRows 50 = .ok (.laload, 1) := by decide +kernel
theorem dX8_makeRows_51 : decode cX8_makeRows 51 = .ok (.lload_n 3, 1) := by decide +kernel
theorem dX8_makeRows_52 : decode cX8_makeRows 52 = .ok (.land, 1) := by decide +kernel
theorem dX8_makeRows_53 : decode cX8_makeRows 53 = .ok (.invokestatic 179, 3) := by decide +kernel
theorem dX8_makeRows_56 : decode cX8_makeRows 56 = .ok (.ixor, 1) := by decide +kernel
theorem dX8_makeRows_57 : decode cX8_makeRows 57 = .ok (.istore 9, 2) := by decide +kernel
theorem dX8_makeRows_59 : decode cX8_makeRows 59 = .ok (.iconst 0, 1) := by decide +kernel
theorem dX8_makeRows_60 : decode cX8_makeRows 60 = .ok (.istore 10, 2) := by decide +kernel
theorem dX8_makeRows_62 : decode cX8_makeRows 62 = .ok (.iload 10, 2) := by decide +kernel
theorem dX8_makeRows_64 : decode cX8_makeRows 64 = .ok (.aload_n 0, 1) := by decide +kernel
theorem dX8_makeRows_65 : decode cX8_makeRows 65 = .ok (.getfield 172, 3) := by decide +kernel
theorem dX8_makeRows_68 : decode cX8_makeRows 68 = .ok (.if_icmp .ge 49, 3) := by decide +kernel
theorem dX8_makeRows_71 : decode cX8_makeRows 71 = .ok (.lload 7, 2) := by decide +kernel
theorem dX8_makeRows_73 : decode cX8_makeRows 73 = .ok (.aload_n 0, 1) := by decide +kernel
theorem dX8_makeRows_74 : decode cX8_makeRows 74 = .ok (.iload 10, 2) := by decide +kernel
theorem dX8_makeRows_76 : decode cX8_makeRows 76 = .ok (.iload 5, 2) := by decide +kernel
theorem dX8_makeRows_78 : decode cX8_makeRows 78 = .ok (.invokevirtual 182, 3) := by decide +kernel
theorem dX8_makeRows_81 : decode cX8_makeRows 81 = .ok (.land, 1) := by decide +kernel
theorem dX8_makeRows_82 : decode cX8_makeRows 82 = .ok (.lconst 0, 1) := by decide +kernel
theorem dX8_makeRows_83 : decode cX8_makeRows 83 = .ok (.lcmp, 1) := by decide +kernel
theorem dX8_makeRows_84 : decode cX8_makeRows 84 = .ok (.ifCond .eq 27, 3) := by decide +kernel
theorem dX8_makeRows_87 : decode cX8_makeRows 87 = .ok (.lload 7, 2) := by decide +kernel
theorem dX8_makeRows_89 : decode cX8_makeRows 89 = .ok (.aload_n 0, 1) := by decide +kernel
theorem dX8_makeRows_90 : decode cX8_makeRows 90 = .ok (.getfield 44, 3) := by decide +kernel
theorem dX8_makeRows_93 : decode cX8_makeRows 93 = .ok (.iload 10, 2) := by decide +kernel
theorem dX8_makeRows_95 : decode cX8_makeRows 95 = .ok (.laload, 1) := by decide +kernel
theorem dX8_makeRows_96 : decode cX8_makeRows 96 = .ok (.lxor, 1) := by decide +kernel
theorem dX8_makeRows_97 : decode cX8_makeRows 97 = .ok (.lstore 7, 2) := by decide +kernel
theorem dX8_makeRows_99 : decode cX8_makeRows 99 = .ok (.iload 9, 2) := by decide +kernel
theorem dX8_makeRows_101 : decode cX8_makeRows 101 = .ok (.aload_n 0, 1) := by decide +kernel
theorem dX8_makeRows_102 : decode cX8_makeRows 102 = .ok (.getfield 47, 3) := by decide +kernel
theorem dX8_makeRows_105 : decode cX8_makeRows 105 = .ok (.iload 10, 2) := by decide +kernel
theorem dX8_makeRows_107 : decode cX8_makeRows 107 = .ok (.iaload, 1) := by decide +kernel
theorem dX8_makeRows_108 : decode cX8_makeRows 108 = .ok (.ixor, 1) := by decide +kernel
theorem dX8_makeRows_109 : decode cX8_makeRows 109 = .ok (.istore 9, 2) := by decide +kernel
theorem dX8_makeRows_111 : decode cX8_makeRows 111 = .ok (.iinc 10 1, 3) := by decide +kernel
theorem dX8_makeRows_114 : decode cX8_makeRows 114 = .ok (.goto (-52), 3) := by decide +kernel
theorem dX8_makeRows_117 : decode cX8_makeRows 117 = .ok (.lload 7, 2) := by decide +kernel
theorem dX8_makeRows_119 : decode cX8_makeRows 119 = .ok (.lconst 0, 1) := by decide +kernel
theorem dX8_makeRows_120 : decode cX8_makeRows 120 = .ok (.lcmp, 1) := by decide +kernel
theorem dX8_makeRows_121 : decode cX8_makeRows 121 = .ok (.ifCond .eq 16, 3) := by decide +kernel
theorem dX8_makeRows_124 : decode cX8_makeRows 124 = .ok (.aload_n 0, 1) := by decide +kernel
theorem dX8_makeRows_125 : decode cX8_makeRows 125 = .ok (.lload 7, 2) := by decide +kernel
theorem dX8_makeRows_127 : decode cX8_makeRows 127 = .ok (.iload 9, 2) := by decide +kernel
theorem dX8_makeRows_129 : decode cX8_makeRows 129 = .ok (.iload 5, 2) := by decide +kernel
theorem dX8_makeRows_131 : decode cX8_makeRows 131 = .ok (.invokevirtual 186, 3) := by decide +kernel
theorem dX8_makeRows_134 : decode cX8_makeRows 134 = .ok (.goto 14, 3) := by decide +kernel
theorem dX8_makeRows_137 : decode cX8_makeRows 137 = .ok (.iload 9, 2) := by decide +kernel
theorem dX8_makeRows_139 : decode cX8_makeRows 139 = .ok (.iconst 1, 1) := by decide +kernel
theorem dX8_makeRows_140 : decode cX8_makeRows 140 = .ok (.if_icmp .ne 8, 3) := by decide +kernel
theorem dX8_makeRows_143 : decode cX8_makeRows 143 = .ok (.aload_n 0, 1) := by decide +kernel
theorem dX8_makeRows_144 : decode cX8_makeRows 144 = .ok (.iconst 1, 1) := by decide +kernel
theorem dX8_makeRows_145 : decode cX8_makeRows 145 = .ok (.putfield 175, 3) := by decide +kernel
theorem dX8_makeRows_148 : decode cX8_makeRows 148 = .ok (.iinc 6 1, 3) := by decide +kernel
theorem dX8_makeRows_151 : decode cX8_makeRows 151 = .ok (.goto (-138), 3) := by decide +kernel
theorem dX8_makeRows_154 : decode cX8_makeRows 154 = .ok (.aload_n 0, 1) := by decide +kernel
theorem dX8_makeRows_155 : decode cX8_makeRows 155 = .ok (.aload_n 0, 1) := by decide +kernel
theorem dX8_makeRows_156 : decode cX8_makeRows 156 = .ok (.getfield 175, 3) := by decide +kernel
theorem dX8_makeRows_159 : decode cX8_makeRows 159 = .ok (.ifCond .eq 7, 3) := by decide +kernel
theorem dX8_makeRows_162 : decode cX8_makeRows 162 = .ok (.iconst 0, 1) := by decide +kernel
theorem dX8_makeRows_163 : decode cX8_makeRows 163 = .ok (.goto 7, 3) := by decide +kernel
theorem dX8_makeRows_166 : decode cX8_makeRows 166 = .ok (.aload_n 0, 1) := by decide +kernel
theorem dX8_makeRows_167 : decode cX8_makeRows 167 = .ok (.getfield 172, 3) := by decide +kernel
theorem dX8_makeRows_170 : decode cX8_makeRows 170 = .ok (.putfield 172, 3) := by decide +kernel
theorem dX8_makeRows_173 : decode cX8_makeRows 173 = .ok (.return_, 1) := by decide +kernel
set_option maxRecDepth 20000 in
theorem ggX8_headOf_X8_lowest : GoodIn wsX8_headOf wsX8_lowest := goodIn_r _ [5] (by decide +kernel) (by decide +kernel)
set_option maxRecDepth 20000 in
theorem gX8_headOf_X8_lowest : GoodIn wsX8_headOf (va_wsS RX8 190 yX8_lowest wsX8_lowest) := goodIn_app (goodIn_of _ (by decide +kernel)) ggX8_headOf_X8_lowest
set_option maxRecDepth 20000 in
theorem ggX8_headOf_X8_highest : GoodIn wsX8_headOf wsX8_highest := goodIn_r _ [8, 9] (by decide +kernel) (by decide +kernel)
set_option maxRecDepth 20000 in
theorem gX8_headOf_X8_highest : GoodIn wsX8_headOf (va_wsS RX8 194 yX8_highest wsX8_highest) := goodIn_app (goodIn_of _ (by decide +kernel)) ggX8_headOf_X8_highest
theorem dX8_headOf_0 : decode cX8_headOf 0 = .ok (.iload_n 2, 1) := by decide +kernel
theorem dX8_headOf_1 : decode cX8_headOf 1 = .ok (.ifCond .eq 15, 3) := by decide +kernel
theorem dX8_headOf_4 : decode cX8_headOf 4 = .ok (.aload_n 0, 1) := by decide +kernel
theorem dX8_headOf_5 : decode cX8_headOf 5 = .ok (.getfield 44, 3) := by decide +kernel
theorem dX8_headOf_8 : decode cX8_headOf 8 = .ok (.iload_n 1, 1) := by decide +kernel
theorem dX8_headOf_9 : decode cX8_headOf 9 = .ok (.laload, 1) := by decide +kernel
theorem dX8_headOf_10 : decode cX8_headOf 10 = .ok (.invokestatic 190, 3) := by decide +kernel
theorem dX8_headOf_13 : decode cX8_headOf 13 = .ok (.goto 12, 3) := by decide +kernel
theorem dX8_headOf_16 : decode cX8_headOf 16 = .ok (.aload_n 0, 1) := by decide +kernel
theorem dX8_headOf_17 : decode cX8_headOf 17 = .ok (.getfield 44, 3) := by decide +kernel
theorem dX8_headOf_20 : decode cX8_headOf 20 = .ok (.iload_n 1, 1) := by decide +kernel
theorem dX8_headOf_21 : decode cX8_headOf 21 = .ok (.laload, 1) := by decide +kernel
theorem dX8_headOf_22 : decode cX8_headOf 22 = .ok (.invokestatic 194, 3) := by decide +kernel
theorem dX8_headOf_25 : decode cX8_headOf 25 = .ok (.lreturn, 1) := by decide +kernel
set_option maxRecDepth 20000 in
theorem ggX8_putRow_X8_lowest : GoodIn wsX8_putRow wsX8_lowest := goodIn_r _ [7] (by decide +kernel) (by decide +kernel)
set_option maxRecDepth 20000 in
theorem gX8_putRow_X8_lowest : GoodIn wsX8_putRow (va_wsS RX8 190 yX8_lowest wsX8_lowest) := goodIn_app (goodIn_of _ (by decide +kernel)) ggX8_putRow_X8_lowest
set_option maxRecDepth 20000 in
theorem ggX8_putRow_X8_highest : GoodIn wsX8_putRow wsX8_highest := goodIn_r _ [10, 11] (by decide +kernel) (by decide +kernel)
set_option maxRecDepth 20000 in
theorem gX8_putRow_X8_highest : GoodIn wsX8_putRow (va_wsS RX8 194 yX8_highest wsX8_highest) := goodIn_app (goodIn_of _ (by decide +kernel)) ggX8_putRow_X8_highest
set_option maxRecDepth 20000 in
theorem ggX8_putRow_X8_headOf : GoodIn wsX8_putRow wsX8_headOf := goodIn_r _ [15, 2, 4, 5, 6, 7, 8, 9, 10, 11, 16, 17, 18, 19, 20, 21, 22, 23, 24, 25, 26, 27, 28, 29, 30, 31, 32, 33, 34, 35, 36, 37, 38, 39, 40, 41, 42, 43, 44, 45, 46, 47, 48, 49, 50, 51, 52, 53, 54, 55, 56, 57, 58] (by decide +kernel) (by decide +kernel)
set_option maxRecDepth 20000 in
theorem gX8_putRow_X8_headOf : GoodIn wsX8_putRow (wsV RX8 182 RX8 yX8_headOf wsX8_headOf) := goodIn_app (goodIn_of _ (by decide +kernel)) ggX8_putRow_X8_headOf
theorem dX8_putRow_0 : decode cX8_putRow 0 = .ok (.iload 4, 2) := by decide +kernel
theorem dX8_putRow_2 : decode cX8_putRow 2 = .ok (.ifCond .eq 10, 3) := by decide +kernel
theorem dX8_putRow_5 : decode cX8_putRow 5 = .ok (.lload_n 1, 1) := by decide +kernel
theorem dX8_putRow_6 : decode cX8_putRow 6 = .ok (.invokestatic 190, 3) := by decide +kernel
theorem dX8_putRow_9 : decode cX8_putRow 9 = .ok (.goto 7, 3) := by decide +kernel
theorem dX8_putRow_12 : decode cX8_putRow 12 = .ok (.lload_n 1, 1) := by decide +kernel
theorem dX8_putRow_13 : decode cX8_putRow 13 = .ok (.invokestatic 194, 3) := by decide +kernel
theorem dX8_putRow_16 : decode cX8_putRow 16 = .ok (.lstore 5, 2) := by decide +kernel
theorem dX8_putRow_18 : decode cX8_putRow 18 = .ok (.iconst 0, 1) := by decide +kernel
theorem dX8_putRow_19 : decode cX8_putRow 19 = .ok (.istore 7, 2) := by decide +kernel
theorem dX8_putRow_21 : decode cX8_putRow 21 = .ok (.iconst 0, 1) := by decide +kernel
theorem dX8_putRow_22 : decode cX8_putRow 22 = .ok (.istore 8, 2) := by decide +kernel
theorem dX8_putRow_24 : decode cX8_putRow 24 = .ok (.iload 8, 2) := by decide +kernel
theorem dX8_putRow_26 : decode cX8_putRow 26 = .ok (.aload_n 0, 1) := by decide +kernel
theorem dX8_putRow_27 : decode cX8_putRow 27 = .ok (.getfield 172, 3) := by decide +kernel
theorem dX8_putRow_30 : decode cX8_putRow 30 = .ok (.if_icmp .ge 80, 3) := by decide +kernel
theorem dX8_putRow_33 : decode cX8_putRow 33 = .ok (.aload_n 0, 1) := by decide +kernel
theorem dX8_putRow_34 : decode cX8_putRow 34 = .ok (.getfield 44, 3) := by decide +kernel
theorem dX8_putRow_37 : decode cX8_putRow 37 = .ok (.iload 8, 2) := by decide +kernel
theorem dX8_putRow_39 : decode cX8_putRow 39 = .ok (.laload, 1) := by decide +kernel
theorem dX8_putRow_40 : decode cX8_putRow 40 = .ok (.lload 5, 2) := by decide +kernel
theorem dX8_putRow_42 : decode cX8_putRow 42 = .ok (.land, 1) := by decide +kernel
theorem dX8_putRow_43 : decode cX8_putRow 43 = .ok (.lconst 0, 1) := by decide +kernel
theorem dX8_putRow_44 : decode cX8_putRow 44 = .ok (.lcmp, 1) := by decide +kernel
theorem dX8_putRow_45 : decode cX8_putRow 45 = .ok (.ifCond .eq 35, 3) := by decide +kernel
theorem dX8_putRow_48 : decode cX8_putRow 48 = .ok (.aload_n 0, 1) := by decide +kernel
theorem dX8_putRow_49 : decode cX8_putRow 49 = .ok (.getfield 44, 3) := by decide +kernel
theorem dX8_putRow_52 : decode cX8_putRow 52 = .ok (.iload 8, 2) := by decide +kernel
theorem dX8_putRow_54 : decode cX8_putRow 54 = .ok (.aload_n 0, 1) := by decide +kernel
theorem dX8_putRow_55 : decode cX8_putRow 55 = .ok (.getfield 44, 3) := by decide +kernel
theorem dX8_putRow_58 : decode cX8_putRow 58 = .ok (.iload 8, 2) := by decide +kernel
theorem dX8_putRow_60 : decode cX8_putRow 60 = .ok (.laload, 1) := by decide +kernel
theorem dX8_putRow_61 : decode cX8_putRow 61 = .ok (.lload_n 1, 1) := by decide +kernel
theorem dX8_putRow_62 : decode cX8_putRow 62 = .ok (.lxor, 1) := by decide +kernel
theorem dX8_putRow_63 : decode cX8_putRow 63 = .ok (.lastore, 1) := by decide +kernel
theorem dX8_putRow_64 : decode cX8_putRow 64 = .ok (.aload_n 0, 1) := by decide +kernel
theorem dX8_putRow_65 : decode cX8_putRow 65 = .ok (.getfield 47, 3) := by decide +kernel
theorem dX8_putRow_68 : decode cX8_putRow 68 = .ok (.iload 8, 2) := by decide +kernel
theorem dX8_putRow_70 : decode cX8_putRow 70 = .ok (.aload_n 0, 1) := by decide +kernel
theorem dX8_putRow_71 : decode cX8_putRow 71 = .ok (.getfield 47, 3) := by decide +kernel
theorem dX8_putRow_74 : decode cX8_putRow 74 = .ok (.iload 8, 2) := by decide +kernel
theorem dX8_putRow_76 : decode cX8_putRow 76 = .ok (.iaload, 1) := by decide +kernel
theorem dX8_putRow_77 : decode cX8_putRow 77 = .ok (.iload_n 3, 1) := by decide +kernel
theorem dX8_putRow_78 : decode cX8_putRow 78 = .ok (.ixor, 1) := by decide +kernel
theorem dX8_putRow_79 : decode cX8_putRow 79 = .ok (.iastore, 1) := by decide +kernel
theorem dX8_putRow_80 : decode cX8_putRow 80 = .ok (.iload 7, 2) := by decide +kernel
theorem dX8_putRow_82 : decode cX8_putRow 82 = .ok (.aload_n 0, 1) := by decide +kernel
theorem dX8_putRow_83 : decode cX8_putRow 83 = .ok (.iload 8, 2) := by decide +kernel
theorem dX8_putRow_85 : decode cX8_putRow 85 = .ok (.iload 4, 2) := by decide +kernel
theorem dX8_putRow_87 : decode cX8_putRow 87 = .ok (.invokevirtual 182, 3) := by decide +kernel
theorem dX8_putRow_90 : decode cX8_putRow 90 = .ok (.lload 5, 2) := by decide +kernel
theorem dX8_putRow_92 : decode cX8_putRow 92 = .ok (.lcmp, 1) := by decide +kernel
theorem dX8_putRow_93 : decode cX8_putRow 93 = .ok (.ifCond .ge 7, 3) := by decide +kernel
theorem dX8_putRow_96 : decode cX8_putRow 96 = .ok (.iconst 1, 1) := by decide +kernel
theorem dX8_putRow_97 : decode cX8_putRow 97 = .ok (.goto 4, 3) := by decide +kernel
theorem dX8_putRow_100 : decode cX8_putRow 100 = .ok (.iconst 0, 1) := by decide +kernel
theorem dX8_putRow_101 : decode cX8_putRow 101 = .ok (.iadd, 1) := by decide +kernel
theorem dX8_putRow_102 : decode cX8_putRow 102 = .ok (.istore 7, 2) := by decide +kernel
theorem dX8_putRow_104 : decode cX8_putRow 104 = .ok (.iinc 8 1, 3) := by decide +kernel
theorem dX8_putRow_107 : decode cX8_putRow 107 = .ok (.goto (-83), 3) := by decide +kernel
theorem dX8_putRow_110 : decode cX8_putRow 110 = .ok (.aload_n 0, 1) := by decide +kernel
theorem dX8_putRow_111 : decode cX8_putRow 111 = .ok (.getfield 172, 3) := by decide +kernel
theorem dX8_putRow_114 : decode cX8_putRow 114 = .ok (.istore 8, 2) := by decide +kernel
theorem dX8_putRow_116 : decode cX8_putRow 116 = .ok (.iload 8, 2) := by decide +kernel
theorem dX8_putRow_118 : decode cX8_putRow 118 = .ok (.iload 7, 2) := by decide +kernel
theorem dX8_putRow_120 : decode cX8_putRow 120 = .ok (.if_icmp .le 41, 3) := by decide +kernel
theorem dX8_putRow_123 : decode cX8_putRow 123 = .ok (.aload_n 0, 1) := by decide +kernel
theorem dX8_putRow_124 : decode cX8_putRow 124 = .ok (.getfield 44, 3) := by decide +kernel
theorem dX8_putRow_127 : decode cX8_putRow 127 = .ok (.iload 8, 2) := by decide +kernel
theorem dX8_putRow_129 : decode cX8_putRow 129 = .ok (.aload_n 0, 1) := by decide +kernel
theorem dX8_putRow_130 : decode cX8_putRow 130 = .ok (.getfield 44, 3) := by decide +kernel
theorem dX8_putRow_133 : decode cX8_putRow 133 = .ok (.iload 8, 2) := by decide +kernel
theorem dX8_putRow_135 : decode cX8_putRow 135 = .ok (.iconst 1, 1) := by decide +kernel
theorem dX8_putRow_136 : decode cX8_putRow 136 = .ok (.isub, 1) := by decide +kernel
theorem dX8_putRow_137 : decode cX8_putRow 137 = .ok (.laload, 1) := by decide +kernel
theorem dX8_putRow_138 : decode cX8_putRow 138 = .ok (.lastore, 1) := by decide +kernel
theorem dX8_putRow_139 : decode cX8_putRow 139 = .ok (.aload_n 0, 1) := by decide +kernel
theorem dX8_putRow_140 : decode cX8_putRow 140 = .ok (.getfield 47, 3) := by decide +kernel
theorem dX8_putRow_143 : decode cX8_putRow 143 = .ok (.iload 8, 2) := by decide +kernel
theorem dX8_putRow_145 : decode cX8_putRow 145 = .ok (.aload_n 0, 1) := by decide +kernel
theorem dX8_putRow_146 : decode cX8_putRow 146 = .ok (.getfield 47, 3) := by decide +kernel
theorem dX8_putRow_149 : decode cX8_putRow 149 = .ok (.iload 8, 2) := by decide +kernel
theorem dX8_putRow_151 : decode cX8_putRow 151 = .ok (.iconst 1, 1) := by decide +kernel
theorem dX8_putRow_152 : decode cX8_putRow 152 = .ok (.isub, 1) := by decide +kernel
theorem dX8_putRow_153 : decode cX8_putRow 153 = .ok (.iaload, 1) := by decide +kernel
theorem dX8_putRow_154 : decode cX8_putRow 154 = .ok (.iastore, 1) := by decide +kernel
theorem dX8_putRow_155 : decode cX8_putRow 155 = .ok (.iinc 8 (-1), 3) := by decide +kernel
theorem dX8_putRow_158 : decode cX8_putRow 158 = .ok (.goto (-42), 3) := by decide +kernel
theorem dX8_putRow_161 : decode cX8_putRow 161 = .ok (.aload_n 0, 1) := by decide +kernel
theorem dX8_putRow_162 : decode cX8_putRow 162 = .ok (.getfield 44, 3) := by decide +kernel
theorem dX8_putRow_165 : decode cX8_putRow 165 = .ok (.iload 7, 2) := by decide +kernel
theorem dX8_putRow_167 : decode cX8_putRow 167 = .ok (.lload_n 1, 1) := by decide +kernel
theorem dX8_putRow_168 : decode cX8_putRow 168 = .ok (.lastore, 1) := by decide +kernel
theorem dX8_putRow_169 : decode cX8_putRow 169 = .ok (.aload_n 0, 1) := by decide +kernel
theorem dX8_putRow_170 : decode cX8_putRow 170 = .ok (.getfield 47, 3) := by decide +kernel
theorem dX8_putRow_173 : decode cX8_putRow 173 = .ok (.iload 7, 2) := by decide +kernel
theorem dX8_putRow_175 : decode cX8_putRow 175 = .ok (.iload_n 3, 1) := by decide +kernel
theorem dX8_putRow_176 : decode cX8_putRow 176 = .ok (.iastore, 1) := by decide +kernel
theorem dX8_putRow_177 : decode cX8_putRow 177 = .ok (.aload_n 0, 1) := by decide +kernel
theorem dX8_putRow_178 : decode cX8_putRow 178 = .ok (.dup, 1) := by decide +kernel
theorem dX8_putRow_179 : decode cX8_putRow 179 = .ok (.getfield 172, 3) := by decide +kernel
theorem dX8_putRow_182 : decode cX8_putRow 182 = .ok (.iconst 1, 1) := by decide +kernel
theorem dX8_putRow_183 : decode cX8_putRow 183 = .ok (.iadd, 1) := by decide +kernel
theorem dX8_putRow_184 : decode cX8_putRow 184 = .ok (.putfield 172, 3) := by decide +kernel
theorem dX8_putRow_187 : decode cX8_putRow 187 = .ok (.return_, 1) := by decide +kernel
set_option maxRecDepth 20000 in
theorem ggX8_rows_X8_makeRows : GoodIn wsX8_rows wsX8_makeRows := goodIn_r _ [8, 3, 2, 9, 10, 11, 12, 13, 14, 15, 16, 7, 17, 18, 19, 20, 21, 22, 23, 24, 25, 26, 27, 28, 29, 30, 31, 32, 33, 34, 35, 36, 37, 38, 39, 40, 41, 42, 43, 44, 45, 46, 47, 48, 49, 50, 51, 52, 53, 54, 55, 56, 57, 58, 59, 60, 61, 62, 63, 64, 65, 66, 67, 68, 69, 70, 71, 72, 73, 74, 75, 76, 77, 78] (by decide +kernel) (by decide +kernel)
set_option maxRecDepth 20000 in
theorem gX8_rows_X8_makeRows : GoodIn wsX8_rows (wsV RX8 197 RX8 yX8_makeRows wsX8_makeRows) := goodIn_app (goodIn_of _ (by decide +kernel)) ggX8_rows_X8_makeRows
theorem dX8_rows_0 : decode cX8_rows 0 = .ok (.aload_n 0, 1) := by decide +kernel
theorem dX8_rows_1 : decode cX8_rows 1 = .ok (.iconst 0, 1) := by decide +kernel
theorem dX8_rows_2 : decode cX8_rows 2 = .ok (.putfield 81, 3) := by decide +kernel
theorem dX8_rows_5 : decode cX8_rows 5 = .ok (.aload_n 0, 1) := by decide +kernel
theorem dX8_rows_6 : decode cX8_rows 6 = .ok (.lconst 0, 1) := by decide +kernel
theorem dX8_rows_7 : decode cX8_rows 7 = .ok (.lconst 0, 1) := by decide +kernel
theorem dX8_rows_8 : decode cX8_rows 8 = .ok (.iconst 1, 1) := by decide +kernel
theorem dX8_rows_9 : decode cX8_rows 9 = .ok (.invokevirtual 197, 3) := by decide +kernel
theorem dX8_rows_12 : decode cX8_rows 12 = .ok (.aload_n 0, 1) := by decide +kernel
theorem dX8_rows_13 : decode cX8_rows 13 = .ok (.getfield 175, 3) := by decide +kernel
theorem dX8_rows_16 : decode cX8_rows 16 = .ok (.ifCond .eq 7, 3) := by decide +kernel
theorem dX8_rows_19 : decode cX8_rows 19 = .ok (.iconst (-1), 1) := by decide +kernel
theorem dX8_rows_20 : decode cX8_rows 20 = .ok (.goto 7, 3) := by decide +kernel
theorem dX8_rows_23 : decode cX8_rows 23 = .ok (.aload_n 0, 1) := by decide +kernel
theorem dX8_rows_24 : decode cX8_rows 24 = .ok (.getfield 172, 3) := by decide +kernel
theorem dX8_rows_27 : decode cX8_rows 27 = .ok (.ireturn, 1) := by decide +kernel
set_option maxRecDepth 20000 in
theorem ggX8_row_X8_makeRows : GoodIn wsX8_row wsX8_makeRows := goodIn_r _ [9, 1, 10, 11, 12, 13, 14, 2, 3, 15, 16, 8, 17, 18, 19, 20, 21, 22, 23, 24, 25, 26, 27, 28, 29, 30, 4, 31, 32, 33, 34, 43, 44, 45, 46, 47, 48, 49, 50, 51, 52, 53, 54, 55, 56, 57, 58, 59, 60, 61, 62, 63, 64, 65, 66, 67, 68, 69, 70, 71, 72, 73, 74, 75, 76, 77, 78, 79, 80, 81, 82, 83, 84, 85] (by decide +kernel) (by decide +kernel)
set_option maxRecDepth 20000 in
theorem gX8_row_X8_makeRows : GoodIn wsX8_row (wsV RX8 197 RX8 yX8_makeRows wsX8_makeRows) := goodIn_app (goodIn_of _ (by decide +kernel)) ggX8_row_X8_makeRows
set_option maxRecDepth 20000 in
theorem ggX8_row_X8_isIn : GoodIn wsX8_row wsX8_isIn := goodIn_r _ [37] (by decide +kernel) (by decide +kernel)
set_option maxRecDepth 20000 in
theorem gX8_row_X8_isIn : GoodIn wsX8_row (va_wsS RX8 94 yX8_isIn wsX8_isIn) := goodIn_app (goodIn_of _ (by decide +kernel)) ggX8_row_X8_isIn
set_option maxRecDepth 20000 in
theorem ggX8_row_X8_may : GoodIn wsX8_row wsX8_may := goodIn_r _ [41, 42, 43, 44, 45, 46, 47, 48, 49, 50, 51, 52, 53, 54, 55, 56, 57, 58, 59, 60, 61, 62, 63, 64, 65, 66, 67, 68, 69, 70, 71, 72, 73, 74, 75, 76, 77, 78, 79, 80, 81, 82, 83, 84, 85] (by decide +kernel) (by decide +kernel)
set_option maxRecDepth 20000 in
theorem gX8_row_X8_may : GoodIn wsX8_row (wsV RX8 101 RX8 yX8_may wsX8_may) := goodIn_app (goodIn_of _ (by decide +kernel)) ggX8_row_X8_may
theorem dX8_row_0 : decode cX8_row 0 = .ok (.aload_n 0, 1) := by decide +kernel
theorem dX8_row_1 : decode cX8_row 1 = .ok (.lconst 0, 1) := by decide +kernel
theorem dX8_row_2 : decode cX8_row 2 = .ok (.lconst 0, 1) := by decide +kernel
theorem dX8_row_3 : decode cX8_row 3 = .ok (.iconst 1, 1) := by decide +kernel
theorem dX8_row_4 : decode cX8_row 4 = .ok (.invokevirtual 197, 3) := by decide +kernel
theorem dX8_row_7 : decode cX8_row 7 = .ok (.aload_n 0, 1) := by decide +kernel
theorem dX8_row_8 : decode cX8_row 8 = .ok (.iload_n 1, 1) := by decide +kernel
theorem dX8_row_9 : decode cX8_row 9 = .ok (.i2l, 1) := by decide +kernel
theorem dX8_row_10 : decode cX8_row 10 = .ok (.lconst 0, 1) := by decide +kernel
theorem dX8_row_11 : decode cX8_row 11 = .ok (.aload_n 0, 1) := by decide +kernel
theorem dX8_row_12 : decode cX8_row 12 = .ok (.getfield 172, 3) := by decide +kernel
theorem dX8_row_15 : decode cX8_row 15 = .ok (.iconst 1, 1) := by decide +kernel
theorem dX8_row_16 : decode cX8_row 16 = .ok (.isub, 1) := by decide +kernel
theorem dX8_row_17 : decode cX8_row 17 = .ok (.i2l, 1) := by decide +kernel
theorem dX8_row_18 : decode cX8_row 18 = .ok (.invokestatic 94, 3) := by decide +kernel
theorem dX8_row_21 : decode cX8_row 21 = .ok (.iconst 1, 1) := by decide +kernel
theorem dX8_row_22 : decode cX8_row 22 = .ok (.invokevirtual 101, 3) := by decide +kernel
theorem dX8_row_25 : decode cX8_row 25 = .ok (.ifCond .eq 30, 3) := by decide +kernel
theorem dX8_row_28 : decode cX8_row 28 = .ok (.aload_n 0, 1) := by decide +kernel
theorem dX8_row_29 : decode cX8_row 29 = .ok (.getfield 44, 3) := by decide +kernel
theorem dX8_row_32 : decode cX8_row 32 = .ok (.iload_n 1, 1) := by decide +kernel
theorem dX8_row_33 : decode cX8_row 33 = .ok (.laload, 1) := by decide +kernel
theorem dX8_row_34 : decode cX8_row 34 = .ok (.aload_n 0, 1) := by decide +kernel
theorem dX8_row_35 : decode cX8_row 35 = .ok (.getfield 47, 3) := by decide +kernel
theorem dX8_row_38 : decode cX8_row 38 = .ok (.iload_n 1, 1) := by decide +kernel
theorem dX8_row_39 : decode cX8_row 39 = .ok (.iaload, 1) := by decide +kernel
theorem dX8_row_40 : decode cX8_row 40 = .ok (.iconst 1, 1) := by decide +kernel
theorem dX8_row_41 : decode cX8_row 41 = .ok (.if_icmp .ne 9, 3) := by decide +kernel
theorem dX8_row_44 : decode cX8_row 44 = .ok (.ldc2_w 88, 3) := by decide +kernel
theorem dX8_row_47 : decode cX8_row 47 = .ok (.goto 4, 3) := by decide +kernel
theorem dX8_row_50 : decode cX8_row 50 = .ok (.lconst 0, 1) := by decide +kernel
theorem dX8_row_51 : decode cX8_row 51 = .ok (.lor, 1) := by decide +kernel
theorem dX8_row_52 : decode cX8_row 52 = .ok (.goto 4, 3) := by decide +kernel
theorem dX8_row_55 : decode cX8_row 55 = .ok (.lconst 0, 1) := by decide +kernel
theorem dX8_row_56 : decode cX8_row 56 = .ok (.lreturn, 1) := by decide +kernel
set_option maxRecDepth 20000 in
theorem ggX8_reduced_X8_highest : GoodIn wsX8_reduced wsX8_highest := goodIn_r _ [7, 8] (by decide +kernel) (by decide +kernel)
set_option maxRecDepth 20000 in
theorem gX8_reduced_X8_highest : GoodIn wsX8_reduced (va_wsS RX8 194 yX8_highest wsX8_highest) := goodIn_app (goodIn_of _ (by decide +kernel)) ggX8_reduced_X8_highest
theorem dX8_reduced_0 : decode cX8_reduced 0 = .ok (.lload_n 1, 1) := by decide +kernel
theorem dX8_reduced_1 : decode cX8_reduced 1 = .ok (.lstore_n 3, 1) := by decide +kernel
theorem dX8_reduced_2 : decode cX8_reduced 2 = .ok (.ldc2_w 201, 3) := by decide +kernel
theorem dX8_reduced_5 : decode cX8_reduced 5 = .ok (.lstore 5, 2) := by decide +kernel
theorem dX8_reduced_7 : decode cX8_reduced 7 = .ok (.lload 5, 2) := by decide +kernel
theorem dX8_reduced_9 : decode cX8_reduced 9 = .ok (.lconst 0, 1) := by decide +kernel
theorem dX8_reduced_10 : decode cX8_reduced 10 = .ok (.lcmp, 1) := by decide +kernel
theorem dX8_reduced_11 : decode cX8_reduced 11 = .ok (.ifCond .le 65, 3) := by decide +kernel
