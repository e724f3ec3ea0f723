theorem dX0_init_0 : decode cX0_init 0 = .ok (.aload_n 0, 1) := by decide +kernel
theorem dX0_init_1 : decode cX0_init 1 = .ok (.invokespecial 1, 3) := by decide +kernel
theorem dX0_init_4 : decode cX0_init 4 = .ok (.aload_n 0, 1) := by decide +kernel
theorem dX0_init_5 : decode cX0_init 5 = .ok (.iload_n 1, 1) := by decide +kernel
theorem dX0_init_6 : decode cX0_init 6 = .ok (.putfield 7, 3) := by decide +kernel
theorem dX0_init_9 : decode cX0_init 9 = .ok (.aload_n 0, 1) := by decide +kernel
theorem dX0_init_10 : decode cX0_init 10 = .ok (.iload_n 1, 1) := by decide +kernel
theorem dX0_init_11 : decode cX0_init 11 = .ok (.newarray .long, 2) := by decide +kernel
theorem dX0_init_13 : decode cX0_init 13 = .ok (.putfield 13, 3) := by decide +kernel
theorem dX0_init_16 : decode cX0_init 16 = .ok (.aload_n 0, 1) := by decide +kernel
theorem dX0_init_17 : decode cX0_init 17 = .ok (.iload_n 1, 1) := by decide +kernel
theorem dX0_init_18 : decode cX0_init 18 = .ok (.newarray .long, 2) := by decide +kernel
theorem dX0_init_20 : decode cX0_init 20 = .ok (.putfield 17, 3) := by decide +kernel
theorem dX0_init_23 : decode cX0_init 23 = .ok (.return_, 1) := by decide +kernel
set_option maxRecDepth 20000 in
theorem ggX0_leastSum_J7_fill_d0a16 : GoodIn wsX0_leastSum wsJ7_fill_d0a16 := goodIn_r _ [8] (by decide +kernel) (by decide +kernel)
set_option maxRecDepth 20000 in
theorem gX0_leastSum_J7_fill_d0a16 : GoodIn wsX0_leastSum (va_wsS RX0 20 yJ7_fill_d0a16 wsJ7_fill_d0a16) := goodIn_app (goodIn_of _ (by decide +kernel)) ggX0_leastSum_J7_fill_d0a16
set_option maxRecDepth 20000 in
theorem ggX0_leastSum_X0_add : GoodIn wsX0_leastSum wsX0_add := goodIn_r _ [13, 14, 1, 2, 15, 16, 17] (by decide +kernel) (by decide +kernel)
set_option maxRecDepth 20000 in
theorem gX0_leastSum_X0_add : GoodIn wsX0_leastSum (wsV RX0 34 RX0 yX0_add wsX0_add) := goodIn_app (goodIn_of _ (by decide +kernel)) ggX0_leastSum_X0_add
theorem dX0_leastSum_0 : decode cX0_leastSum 0 = .ok (.aload_n 0, 1) := by decide +kernel
theorem dX0_leastSum_1 : decode cX0_leastSum 1 = .ok (.getfield 13, 3) := by decide +kernel
theorem dX0_leastSum_4 : decode cX0_leastSum 4 = .ok (.lconst 0, 1) := by decide +kernel
theorem dX0_leastSum_5 : decode cX0_leastSum 5 = .ok (.invokestatic 20, 3) := by decide +kernel
theorem dX0_leastSum_8 : decode cX0_leastSum 8 = .ok (.aload_n 0, 1) := by decide +kernel
theorem dX0_leastSum_9 : decode cX0_leastSum 9 = .ok (.getfield 17, 3) := by decide +kernel
theorem dX0_leastSum_12 : decode cX0_leastSum 12 = .ok (.lconst 0, 1) := by decide +kernel
theorem dX0_leastSum_13 : decode cX0_leastSum 13 = .ok (.invokestatic 20, 3) := by decide +kernel
theorem dX0_leastSum_16 : decode cX0_leastSum 16 = .ok (.iconst 0, 1) := by decide +kernel
theorem dX0_leastSum_17 : decode cX0_leastSum 17 = .ok (.istore_n 2, 1) := by decide +kernel
theorem dX0_leastSum_18 : decode cX0_leastSum 18 = .ok (.iload_n 2, 1) := by decide +kernel
theorem dX0_leastSum_19 : decode cX0_leastSum 19 = .ok (.aload_n 1, 1) := by decide +kernel
theorem dX0_leastSum_20 : decode cX0_leastSum 20 = .ok (.getfield 26, 3) := by decide +kernel
theorem dX0_leastSum_23 : decode cX0_leastSum 23 = .ok (.if_icmp .ge 31, 3) := by decide +kernel
theorem dX0_leastSum_26 : decode cX0_leastSum 26 = .ok (.aload_n 0, 1) := by decide +kernel
theorem dX0_leastSum_27 : decode cX0_leastSum 27 = .ok (.aload_n 1, 1) := by decide +kernel
theorem dX0_leastSum_28 : decode cX0_leastSum 28 = .ok (.getfield 31, 3) := by decide +kernel
theorem dX0_leastSum_31 : decode cX0_leastSum 31 = .ok (.iload_n 2, 1) := by decide +kernel
theorem dX0_leastSum_32 : decode cX0_leastSum 32 = .ok (.laload, 1) := by decide +kernel
theorem dX0_leastSum_33 : decode cX0_leastSum 33 = .ok (.lconst 1, 1) := by decide +kernel
theorem dX0_leastSum_34 : decode cX0_leastSum 34 = .ok (.iload_n 2, 1) := by decide +kernel
theorem dX0_leastSum_35 : decode cX0_leastSum 35 = .ok (.lshl, 1) := by decide +kernel
theorem dX0_leastSum_36 : decode cX0_leastSum 36 = .ok (.invokevirtual 34, 3) := by decide +kernel
theorem dX0_leastSum_39 : decode cX0_leastSum 39 = .ok (.lstore_n 3, 1) := by decide +kernel
theorem dX0_leastSum_40 : decode cX0_leastSum 40 = .ok (.lload_n 3, 1) := by decide +kernel
theorem dX0_leastSum_41 : decode cX0_leastSum 41 = .ok (.lconst 0, 1) := by decide +kernel
theorem dX0_leastSum_42 : decode cX0_leastSum 42 = .ok (.lcmp, 1) := by decide +kernel
theorem dX0_leastSum_43 : decode cX0_leastSum 43 = .ok (.ifCond .eq 5, 3) := by decide +kernel
theorem dX0_leastSum_46 : decode cX0_leastSum 46 = .ok (.lload_n 3, 1) := by decide +kernel
theorem dX0_leastSum_47 : decode cX0_leastSum 47 = .ok (.lreturn, 1) := by decide +kernel
theorem dX0_leastSum_48 : decode cX0_leastSum 48 = .ok (.iinc 2 1, 3) := by decide +kernel
theorem dX0_leastSum_51 : decode cX0_leastSum 51 = .ok (.goto (-33), 3) := by decide +kernel
theorem dX0_leastSum_54 : decode cX0_leastSum 54 = .ok (.lconst 0, 1) := by decide +kernel
theorem dX0_leastSum_55 : decode cX0_leastSum 55 = .ok (.lreturn, 1) := by decide +kernel
theorem dX0_add_0 : decode cX0_add 0 = .ok (.lload_n 1, 1) := by decide +kernel
theorem dX0_add_1 : decode cX0_add 1 = .ok (.lstore 5, 2) := by decide +kernel
theorem dX0_add_3 : decode cX0_add 3 = .ok (.lload_n 3, 1) := by decide +kernel
theorem dX0_add_4 : decode cX0_add 4 = .ok (.lstore 7, 2) := by decide +kernel
theorem dX0_add_6 : decode cX0_add 6 = .ok (.iconst 0, 1) := by decide +kernel
theorem dX0_add_7 : decode cX0_add 7 = .ok (.istore 9, 2) := by decide +kernel
theorem dX0_add_9 : decode cX0_add 9 = .ok (.iload 9, 2) := by decide +kernel
theorem dX0_add_11 : decode cX0_add 11 = .ok (.aload_n 0, 1) := by decide +kernel
theorem dX0_add_12 : decode cX0_add 12 = .ok (.getfield 7, 3) := by decide +kernel
theorem dX0_add_15 : decode cX0_add 15 = .ok (.if_icmp .ge 77, 3) := by decide +kernel
theorem dX0_add_18 : decode cX0_add 18 = .ok (.lload 5, 2) := by decide +kernel
theorem dX0_add_20 : decode cX0_add 20 = .ok (.iload 9, 2) := by decide +kernel
theorem dX0_add_22 : decode cX0_add 22 = .ok (.lushr, 1) := by decide +kernel
theorem dX0_add_23 : decode cX0_add 23 = .ok (.lconst 1, 1) := by decide +kernel
theorem dX0_add_24 : decode cX0_add 24 = .ok (.land, 1) := by decide +kernel
theorem dX0_add_25 : decode cX0_add 25 = .ok (.lconst 0, 1) := by decide +kernel
theorem dX0_add_26 : decode cX0_add 26 = .ok (.lcmp, 1) := by decide +kernel
theorem dX0_add_27 : decode cX0_add 27 = .ok (.ifCond .eq 59, 3) := by decide +kernel
theorem dX0_add_30 : decode cX0_add 30 = .ok (.aload_n 0, 1) := by decide +kernel
theorem dX0_add_31 : decode cX0_add 31 = .ok (.getfield 13, 3) := by decide +kernel
theorem dX0_add_34 : decode cX0_add 34 = .ok (.iload 9, 2) := by decide +kernel
theorem dX0_add_36 : decode cX0_add 36 = .ok (.laload, 1) := by decide +kernel
theorem dX0_add_37 : decode cX0_add 37 = .ok (.lconst 0, 1) := by decide +kernel
theorem dX0_add_38 : decode cX0_add 38 = .ok (.lcmp, 1) := by decide +kernel
theorem dX0_add_39 : decode cX0_add 39 = .ok (.ifCond .ne 23, 3) := by decide +kernel
theorem dX0_add_42 : decode cX0_add 42 = .ok (.aload_n 0, 1) := by decide +kernel
theorem dX0_add_43 : decode cX0_add 43 = .ok (.getfield 13, 3) := by decide +kernel
theorem dX0_add_46 : decode cX0_add 46 = .ok (.iload 9, 2) := by decide +kernel
theorem dX0_add_48 : decode cX0_add 48 = .ok (.lload 5, 2) := by decide +kernel
theorem dX0_add_50 : decode cX0_add 50 = .ok (.lastore, 1) := by decide +kernel
theorem dX0_add_51 : decode cX0_add 51 = .ok (.aload_n 0, 1) := by decide +kernel
theorem dX0_add_52 : decode cX0_add 52 = .ok (.getfield 17, 3) := by decide +kernel
theorem dX0_add_55 : decode cX0_add 55 = .ok (.iload 9, 2) := by decide +kernel
theorem dX0_add_57 : decode cX0_add 57 = .ok (.lload 7, 2) := by decide +kernel
theorem dX0_add_59 : decode cX0_add 59 = .ok (.lastore, 1) := by decide +kernel
theorem dX0_add_60 : decode cX0_add 60 = .ok (.lconst 0, 1) := by decide +kernel
theorem dX0_add_61 : decode cX0_add 61 = .ok (.lreturn, 1) := by decide +kernel
theorem dX0_add_62 : decode cX0_add 62 = .ok (.lload 5, 2) := by decide +kernel
theorem dX0_add_64 : decode cX0_add 64 = .ok (.aload_n 0, 1) := by decide +kernel
theorem dX0_add_65 : decode cX0_add 65 = .ok (.getfield 13, 3) := by decide +kernel
theorem dX0_add_68 : decode cX0_add 68 = .ok (.iload 9, 2) := by decide +kernel
theorem dX0_add_70 : decode cX0_add 70 = .ok (.laload, 1) := by decide +kernel
theorem dX0_add_71 : decode cX0_add 71 = .ok (.lxor, 1) := by decide +kernel
theorem dX0_add_72 : decode cX0_add 72 = .ok (.lstore 5, 2) := by decide +kernel
theorem dX0_add_74 : decode cX0_add 74 = .ok (.lload 7, 2) := by decide +kernel
theorem dX0_add_76 : decode cX0_add 76 = .ok (.aload_n 0, 1) := by decide +kernel
theorem dX0_add_77 : decode cX0_add 77 = .ok (.getfield 17, 3) := by decide +kernel
theorem dX0_add_80 : decode cX0_add 80 = .ok (.iload 9, 2) := by decide +kernel
theorem dX0_add_82 : decode cX0_add 82 = .ok (.laload, 1) := by decide +kernel
theorem dX0_add_83 : decode cX0_add 83 = .ok (.lxor, 1) := by decide +kernel
theorem dX0_add_84 : decode cX0_add 84 = .ok (.lstore 7, 2) := by decide +kernel
theorem dX0_add_86 : decode cX0_add 86 = .ok (.iinc 9 1, 3) := by decide +kernel
theorem dX0_add_89 : decode cX0_add 89 = .ok (.goto (-80), 3) := by decide +kernel
theorem dX0_add_92 : decode cX0_add 92 = .ok (.lload 5, 2) := by decide +kernel
theorem dX0_add_94 : decode cX0_add 94 = .ok (.lconst 0, 1) := by decide +kernel
theorem dX0_add_95 : decode cX0_add 95 = .ok (.lcmp, 1) := by decide +kernel
theorem dX0_add_96 : decode cX0_add 96 = .ok (.ifCond .eq 8, 3) := by decide +kernel
theorem dX0_add_99 : decode cX0_add 99 = .ok (.lload 7, 2) := by decide +kernel
theorem dX0_add_101 : decode cX0_add 101 = .ok (.goto 4, 3) := by decide +kernel
theorem dX0_add_104 : decode cX0_add 104 = .ok (.lconst 0, 1) := by decide +kernel
theorem dX0_add_105 : decode cX0_add 105 = .ok (.lreturn, 1) := by decide +kernel
theorem dX1_init_0 : decode cX1_init 0 = .ok (.aload_n 0, 1) := by decide +kernel
theorem dX1_init_1 : decode cX1_init 1 = .ok (.invokespecial 3, 3) := by decide +kernel
theorem dX1_init_4 : decode cX1_init 4 = .ok (.aload_n 0, 1) := by decide +kernel
theorem dX1_init_5 : decode cX1_init 5 = .ok (.bipush 60, 2) := by decide +kernel
theorem dX1_init_7 : decode cX1_init 7 = .ok (.newarray .long, 2) := by decide +kernel
theorem dX1_init_9 : decode cX1_init 9 = .ok (.putfield 9, 3) := by decide +kernel
theorem dX1_init_12 : decode cX1_init 12 = .ok (.return_, 1) := by decide +kernel
set_option maxRecDepth 20000 in
theorem ggX1_build_X1_leastSetAbove : GoodIn wsX1_build wsX1_leastSetAbove := goodIn_r _ [6, 2, 7, 8, 9, 10, 11, 12, 13, 14, 15, 33, 34, 35, 36, 37, 38, 39, 40] (by decide +kernel) (by decide +kernel)
set_option maxRecDepth 20000 in
theorem gX1_build_X1_leastSetAbove : GoodIn wsX1_build (va_wsS RX1 24 yX1_leastSetAbove wsX1_leastSetAbove) := goodIn_app (goodIn_of _ (by decide +kernel)) ggX1_build_X1_leastSetAbove
set_option maxRecDepth 20000 in
theorem ggX1_build_X1_addGatesOf : GoodIn wsX1_build wsX1_addGatesOf := goodIn_r _ [19, 2, 7, 8, 20, 21, 22, 23, 24, 5, 25, 9, 10, 11, 12, 13, 14, 15, 26, 27, 28, 29, 1, 30, 33, 34, 35, 36, 37, 38, 39, 40, 31, 32] (by decide +kernel) (by decide +kernel)
set_option maxRecDepth 20000 in
theorem gX1_build_X1_addGatesOf : GoodIn wsX1_build (wsV RX1 28 RX1 yX1_addGatesOf wsX1_addGatesOf) := goodIn_app (goodIn_of _ (by decide +kernel)) ggX1_build_X1_addGatesOf
theorem dX1_build_0 : decode cX1_build 0 = .ok (.aload_n 0, 1) := by decide +kernel
theorem dX1_build_1 : decode cX1_build 1 = .ok (.iconst 0, 1) := by decide +kernel
theorem dX1_build_2 : decode cX1_build 2 = .ok (.putfield 15, 3) := by decide +kernel
theorem dX1_build_5 : decode cX1_build 5 = .ok (.lconst 0, 1) := by decide +kernel
theorem dX1_build_6 : decode cX1_build 6 = .ok (.lstore_n 2, 1) := by decide +kernel
theorem dX1_build_7 : decode cX1_build 7 = .ok (.iconst 0, 1) := by decide +kernel
theorem dX1_build_8 : decode cX1_build 8 = .ok (.istore 4, 2) := by decide +kernel
theorem dX1_build_10 : decode cX1_build 10 = .ok (.iload 4, 2) := by decide +kernel
theorem dX1_build_12 : decode cX1_build 12 = .ok (.aload_n 1, 1) := by decide +kernel
theorem dX1_build_13 : decode cX1_build 13 = .ok (.getfield 19, 3) := by decide +kernel
theorem dX1_build_16 : decode cX1_build 16 = .ok (.if_icmp .ge 28, 3) := by decide +kernel
theorem dX1_build_19 : decode cX1_build 19 = .ok (.aload_n 1, 1) := by decide +kernel
theorem dX1_build_20 : decode cX1_build 20 = .ok (.lload_n 2, 1) := by decide +kernel
theorem dX1_build_21 : decode cX1_build 21 = .ok (.invokestatic 24, 3) := by decide +kernel
theorem dX1_build_24 : decode cX1_build 24 = .ok (.lstore_n 2, 1) := by decide +kernel
theorem dX1_build_25 : decode cX1_build 25 = .ok (.lload_n 2, 1) := by decide +kernel
theorem dX1_build_26 : decode cX1_build 26 = .ok (.lconst 0, 1) := by decide +kernel
theorem dX1_build_27 : decode cX1_build 27 = .ok (.lcmp, 1) := by decide +kernel
theorem dX1_build_28 : decode cX1_build 28 = .ok (.ifCond .ne 4, 3) := by decide +kernel
theorem dX1_build_31 : decode cX1_build 31 = .ok (.return_, 1) := by decide +kernel
theorem dX1_build_32 : decode cX1_build 32 = .ok (.aload_n 0, 1) := by decide +kernel
theorem dX1_build_33 : decode cX1_build 33 = .ok (.aload_n 1, 1) := by decide +kernel
theorem dX1_build_34 : decode cX1_build 34 = .ok (.lload_n 2, 1) := by decide +kernel
theorem dX1_build_35 : decode cX1_build 35 = .ok (.invokevirtual 28, 3) := by decide +kernel
theorem dX1_build_38 : decode cX1_build 38 = .ok (.iinc 4 1, 3) := by decide +kernel
theorem dX1_build_41 : decode cX1_build 41 = .ok (.goto (-31), 3) := by decide +kernel
theorem dX1_build_44 : decode cX1_build 44 = .ok (.return_, 1) := by decide +kernel
set_option maxRecDepth 20000 in
theorem ggX1_leastSetAbove_J13_bitCount_95d88 : GoodIn wsX1_leastSetAbove wsJ13_bitCount_95d88 := goodIn_r _ [7, 8, 9, 10] (by decide +kernel) (by decide +kernel)
set_option maxRecDepth 20000 in
theorem gX1_leastSetAbove_J13_bitCount_95d88 : GoodIn wsX1_leastSetAbove (va_wsS RX1 38 yJ13_bitCount_95d88 wsJ13_bitCount_95d88) := goodIn_app (goodIn_of _ (by decide +kernel)) ggX1_leastSetAbove_J13_bitCount_95d88
theorem dX1_leastSetAbove_0 : decode cX1_leastSetAbove 0 = .ok (.lconst 0, 1) := by decide +kernel
theorem dX1_leastSetAbove_1 : decode cX1_leastSetAbove 1 = .ok (.lstore_n 3, 1) := by decide +kernel
theorem dX1_leastSetAbove_2 : decode cX1_leastSetAbove 2 = .ok (.iconst 0, 1) := by decide +kernel
theorem dX1_leastSetAbove_3 : decode cX1_leastSetAbove 3 = .ok (.istore 5, 2) := by decide +kernel
theorem dX1_leastSetAbove_5 : decode cX1_leastSetAbove 5 = .ok (.iload 5, 2) := by decide +kernel
theorem dX1_leastSetAbove_7 : decode cX1_leastSetAbove 7 = .ok (.aload_n 0, 1) := by decide +kernel
theorem dX1_leastSetAbove_8 : decode cX1_leastSetAbove 8 = .ok (.getfield 19, 3) := by decide +kernel
theorem dX1_leastSetAbove_11 : decode cX1_leastSetAbove 11 = .ok (.if_icmp .ge 68, 3) := by decide +kernel
theorem dX1_leastSetAbove_14 : decode cX1_leastSetAbove 14 = .ok (.aload_n 0, 1) := by decide +kernel
theorem dX1_leastSetAbove_15 : decode cX1_leastSetAbove 15 = .ok (.getfield 32, 3) := by decide +kernel
theorem dX1_leastSetAbove_18 : decode cX1_leastSetAbove 18 = .ok (.iload 5, 2) := by decide +kernel
theorem dX1_leastSetAbove_20 : decode cX1_leastSetAbove 20 = .ok (.laload, 1) := by decide +kernel
theorem dX1_leastSetAbove_21 : decode cX1_leastSetAbove 21 = .ok (.aload_n 0, 1) := by decide +kernel
theorem dX1_leastSetAbove_22 : decode cX1_leastSetAbove 22 = .ok (.getfield 35, 3) := by decide +kernel
theorem dX1_leastSetAbove_25 : decode cX1_leastSetAbove 25 = .ok (.iload 5, 2) := by decide +kernel
theorem dX1_leastSetAbove_27 : decode cX1_leastSetAbove 27 = .ok (.laload, 1) := by decide +kernel
theorem dX1_leastSetAbove_28 : decode cX1_leastSetAbove 28 = .ok (.lor, 1) := by decide +kernel
theorem dX1_leastSetAbove_29 : decode cX1_leastSetAbove 29 = .ok (.lstore 6, 2) := by decide +kernel
theorem dX1_leastSetAbove_31 : decode cX1_leastSetAbove 31 = .ok (.lload 6, 2) := by decide +kernel
theorem dX1_leastSetAbove_33 : decode cX1_leastSetAbove 33 = .ok (.invokestatic 38, 3) := by decide +kernel
theorem dX1_leastSetAbove_36 : decode cX1_leastSetAbove 36 = .ok (.istore 8, 2) := by decide +kernel
theorem dX1_leastSetAbove_38 : decode cX1_leastSetAbove 38 = .ok (.iload 8, 2) := by decide +kernel
theorem dX1_leastSetAbove_40 : decode cX1_leastSetAbove 40 = .ok (.iconst 2, 1) := by decide +kernel
theorem dX1_leastSetAbove_41 : decode cX1_leastSetAbove 41 = .ok (.if_icmp .lt 32, 3) := by decide +kernel
theorem dX1_leastSetAbove_44 : decode cX1_leastSetAbove 44 = .ok (.iload 8, 2) := by decide +kernel
theorem dX1_leastSetAbove_46 : decode cX1_leastSetAbove 46 = .ok (.iconst 4, 1) := by decide +kernel
theorem dX1_leastSetAbove_47 : decode cX1_leastSetAbove 47 = .ok (.if_icmp .gt 26, 3) := by decide +kernel
theorem dX1_leastSetAbove_50 : decode cX1_leastSetAbove 50 = .ok (.lload 6, 2) := by decide +kernel
theorem dX1_leastSetAbove_52 : decode cX1_leastSetAbove 52 = .ok (.lload_n 1, 1) := by decide +kernel
theorem dX1_leastSetAbove_53 : decode cX1_leastSetAbove 53 = .ok (.lcmp, 1) := by decide +kernel
theorem dX1_leastSetAbove_54 : decode cX1_leastSetAbove 54 = .ok (.ifCond .le 19, 3) := by decide +kernel
theorem dX1_leastSetAbove_57 : decode cX1_leastSetAbove 57 = .ok (.lload_n 3, 1) := by decide +kernel
theorem dX1_leastSetAbove_58 : decode cX1_leastSetAbove 58 = .ok (.lconst 0, 1) := by decide +kernel
theorem dX1_leastSetAbove_59 : decode cX1_leastSetAbove 59 = .ok (.lcmp, 1) := by decide +kernel
theorem dX1_leastSetAbove_60 : decode cX1_leastSetAbove 60 = .ok (.ifCond .eq 10, 3) := by decide +kernel
theorem dX1_leastSetAbove_63 : decode cX1_leastSetAbove 63 = .ok (.lload 6, 2) := by decide +kernel
theorem dX1_leastSetAbove_65 : decode cX1_leastSetAbove 65 = .ok (.lload_n 3, 1) := by decide +kernel
theorem dX1_leastSetAbove_66 : decode cX1_leastSetAbove 66 = .ok (.lcmp, 1) := by decide +kernel
theorem dX1_leastSetAbove_67 : decode cX1_leastSetAbove 67 = .ok (.ifCond .ge 6, 3) := by decide +kernel
theorem dX1_leastSetAbove_70 : decode cX1_leastSetAbove 70 = .ok (.lload 6, 2) := by decide +kernel
theorem dX1_leastSetAbove_72 : decode cX1_leastSetAbove 72 = .ok (.lstore_n 3, 1) := by decide +kernel
theorem dX1_leastSetAbove_73 : decode cX1_leastSetAbove 73 = .ok (.iinc 5 1, 3) := by decide +kernel
theorem dX1_leastSetAbove_76 : decode cX1_leastSetAbove 76 = .ok (.goto (-71), 3) := by decide +kernel
theorem dX1_leastSetAbove_79 : decode cX1_leastSetAbove 79 = .ok (.lload_n 3, 1) := by decide +kernel
theorem dX1_leastSetAbove_80 : decode cX1_leastSetAbove 80 = .ok (.lreturn, 1) := by decide +kernel
set_option maxRecDepth 20000 in
theorem ggX1_addGatesOf_X1_pressed : GoodIn wsX1_addGatesOf wsX1_pressed := goodIn_r _ [10] (by decide +kernel) (by decide +kernel)
set_option maxRecDepth 20000 in
theorem gX1_addGatesOf_X1_pressed : GoodIn wsX1_addGatesOf (va_wsS RX1 44 yX1_pressed wsX1_pressed) := goodIn_app (goodIn_of _ (by decide +kernel)) ggX1_addGatesOf_X1_pressed
set_option maxRecDepth 20000 in
theorem ggX1_addGatesOf_J13_bitCount_95d88 : GoodIn wsX1_addGatesOf wsJ13_bitCount_95d88 := goodIn_r _ [14, 15, 16, 17] (by decide +kernel) (by decide +kernel)
set_option maxRecDepth 20000 in
theorem gX1_addGatesOf_J13_bitCount_95d88 : GoodIn wsX1_addGatesOf (va_wsS RX1 38 yJ13_bitCount_95d88 wsJ13_bitCount_95d88) := goodIn_app (goodIn_of _ (by decide +kernel)) ggX1_addGatesOf_J13_bitCount_95d88
set_option maxRecDepth 20000 in
theorem ggX1_addGatesOf_X1_add : GoodIn wsX1_addGatesOf wsX1_add := goodIn_r _ [21, 22, 23, 32, 33] (by decide +kernel) (by decide +kernel)
set_option maxRecDepth 20000 in
theorem gX1_addGatesOf_X1_add : GoodIn wsX1_addGatesOf (wsV RX1 49 RX1 yX1_add wsX1_add) := goodIn_app (goodIn_of _ (by decide +kernel)) ggX1_addGatesOf_X1_add
theorem dX1_addGatesOf_0 : decode cX1_addGatesOf 0 = .ok (.iconst 0, 1) := by decide +kernel
theorem dX1_addGatesOf_1 : decode cX1_addGatesOf 1 = .ok (.istore 4, 2) := by decide +kernel
theorem dX1_addGatesOf_3 : decode cX1_addGatesOf 3 = .ok (.iconst 0, 1) := by decide +kernel
theorem dX1_addGatesOf_4 : decode cX1_addGatesOf 4 = .ok (.istore 5, 2) := by decide +kernel
theorem dX1_addGatesOf_6 : decode cX1_addGatesOf 6 = .ok (.iload 5, 2) := by decide +kernel
theorem dX1_addGatesOf_8 : decode cX1_addGatesOf 8 = .ok (.aload_n 1, 1) := by decide +kernel
theorem dX1_addGatesOf_9 : decode cX1_addGatesOf 9 = .ok (.getfield 19, 3) := by decide +kernel
theorem dX1_addGatesOf_12 : decode cX1_addGatesOf 12 = .ok (.if_icmp .ge 47, 3) := by decide +kernel
theorem dX1_addGatesOf_15 : decode cX1_addGatesOf 15 = .ok (.aload_n 1, 1) := by decide +kernel
theorem dX1_addGatesOf_16 : decode cX1_addGatesOf 16 = .ok (.getfield 32, 3) := by decide +kernel
theorem dX1_addGatesOf_19 : decode cX1_addGatesOf 19 = .ok (.iload 5, 2) := by decide +kernel
theorem dX1_addGatesOf_21 : decode cX1_addGatesOf 21 = .ok (.laload, 1) := by decide +kernel
theorem dX1_addGatesOf_22 : decode cX1_addGatesOf 22 = .ok (.aload_n 1, 1) := by decide +kernel
theorem dX1_addGatesOf_23 : decode cX1_addGatesOf 23 = .ok (.getfield 35, 3) := by decide +kernel
theorem dX1_addGatesOf_26 : decode cX1_addGatesOf 26 = .ok (.iload 5, 2) := by decide +kernel
theorem dX1_addGatesOf_28 : decode cX1_addGatesOf 28 = .ok (.laload, 1) := by decide +kernel
theorem dX1_addGatesOf_29 : decode cX1_addGatesOf 29 = .ok (.lor, 1) := by decide +kernel
theorem dX1_addGatesOf_30 : decode cX1_addGatesOf 30 = .ok (.lload_n 2, 1) := by decide +kernel
theorem dX1_addGatesOf_31 : decode cX1_addGatesOf 31 = .ok (.lcmp, 1) := by decide +kernel
theorem dX1_addGatesOf_32 : decode cX1_addGatesOf 32 = .ok (.ifCond .ne 21, 3) := by decide +kernel
theorem dX1_addGatesOf_35 : decode cX1_addGatesOf 35 = .ok (.iload 4, 2) := by decide +kernel
theorem dX1_addGatesOf_37 : decode cX1_addGatesOf 37 = .ok (.iconst 1, 1) := by decide +kernel
theorem dX1_addGatesOf_38 : decode cX1_addGatesOf 38 = .ok (.aload_n 1, 1) := by decide +kernel
theorem dX1_addGatesOf_39 : decode cX1_addGatesOf 39 = .ok (.getfield 35, 3) := by decide +kernel
theorem dX1_addGatesOf_42 : decode cX1_addGatesOf 42 = .ok (.iload 5, 2) := by decide +kernel
theorem dX1_addGatesOf_44 : decode cX1_addGatesOf 44 = .ok (.laload, 1) := by decide +kernel
theorem dX1_addGatesOf_45 : decode cX1_addGatesOf 45 = .ok (.lload_n 2, 1) := by decide +kernel
theorem dX1_addGatesOf_46 : decode cX1_addGatesOf 46 = .ok (.invokestatic 44, 3) := by decide +kernel
theorem dX1_addGatesOf_49 : decode cX1_addGatesOf 49 = .ok (.ishl, 1) := by decide +kernel
theorem dX1_addGatesOf_50 : decode cX1_addGatesOf 50 = .ok (.ior, 1) := by decide +kernel
theorem dX1_addGatesOf_51 : decode cX1_addGatesOf 51 = .ok (.istore 4, 2) := by decide +kernel
theorem dX1_addGatesOf_53 : decode cX1_addGatesOf 53 = .ok (.iinc 5 1, 3) := by decide +kernel
theorem dX1_addGatesOf_56 : decode cX1_addGatesOf 56 = .ok (.goto (-50), 3) := by decide +kernel
theorem dX1_addGatesOf_59 : decode cX1_addGatesOf 59 = .ok (.iconst 1, 1) := by decide +kernel
theorem dX1_addGatesOf_60 : decode cX1_addGatesOf 60 = .ok (.iconst 1, 1) := by decide +kernel
theorem dX1_addGatesOf_61 : decode cX1_addGatesOf 61 = .ok (.lload_n 2, 1) := by decide +kernel
theorem dX1_addGatesOf_62 : decode cX1_addGatesOf 62 = .ok (.invokestatic 38, 3) := by decide +kernel
theorem dX1_addGatesOf_65 : decode cX1_addGatesOf 65 = .ok (.ishl, 1) := by decide +kernel
theorem dX1_addGatesOf_66 : decode cX1_addGatesOf 66 = .ok (.ishl, 1) := by decide +kernel
theorem dX1_addGatesOf_67 : decode cX1_addGatesOf 67 = .ok (.iconst 1, 1) := by decide +kernel
theorem dX1_addGatesOf_68 : decode cX1_addGatesOf 68 = .ok (.isub, 1) := by decide +kernel
theorem dX1_addGatesOf_69 : decode cX1_addGatesOf 69 = .ok (.istore 5, 2) := by decide +kernel
theorem dX1_addGatesOf_71 : decode cX1_addGatesOf 71 = .ok (.iload 4, 2) := by decide +kernel
theorem dX1_addGatesOf_73 : decode cX1_addGatesOf 73 = .ok (.iconst (-1), 1) := by decide +kernel
theorem dX1_addGatesOf_74 : decode cX1_addGatesOf 74 = .ok (.ixor, 1) := by decide +kernel
theorem dX1_addGatesOf_75 : decode cX1_addGatesOf 75 = .ok (.iload 5, 2) := by decide +kernel
theorem dX1_addGatesOf_77 : decode cX1_addGatesOf 77 = .ok (.iand, 1) := by decide +kernel
theorem dX1_addGatesOf_78 : decode cX1_addGatesOf 78 = .ok (.ldc 48, 2) := by decide +kernel
theorem dX1_addGatesOf_80 : decode cX1_addGatesOf 80 = .ok (.iand, 1) := by decide +kernel
theorem dX1_addGatesOf_81 : decode cX1_addGatesOf 81 = .ok (.ifCond .ne 8, 3) := by decide +kernel
theorem dX1_addGatesOf_84 : decode cX1_addGatesOf 84 = .ok (.aload_n 0, 1) := by decide +kernel
theorem dX1_addGatesOf_85 : decode cX1_addGatesOf 85 = .ok (.lload_n 2, 1) := by decide +kernel
theorem dX1_addGatesOf_86 : decode cX1_addGatesOf 86 = .ok (.invokevirtual 49, 3) := by decide +kernel
theorem dX1_addGatesOf_89 : decode cX1_addGatesOf 89 = .ok (.iload 4, 2) := by decide +kernel
theorem dX1_addGatesOf_91 : decode cX1_addGatesOf 91 = .ok (.iconst (-1), 1) := by decide +kernel
theorem dX1_addGatesOf_92 : decode cX1_addGatesOf 92 = .ok (.ixor, 1) := by decide +kernel
theorem dX1_addGatesOf_93 : decode cX1_addGatesOf 93 = .ok (.iload 5, 2) := by decide +kernel
theorem dX1_addGatesOf_95 : decode cX1_addGatesOf 95 = .ok (.iand, 1) := by decide +kernel
theorem dX1_addGatesOf_96 : decode cX1_addGatesOf 96 = .ok (.ldc 53, 2) := by decide +kernel
theorem dX1_addGatesOf_98 : decode cX1_addGatesOf 98 = .ok (.iand, 1) := by decide +kernel
theorem dX1_addGatesOf_99 : decode cX1_addGatesOf 99 = .ok (.ifCond .ne 12, 3) := by decide +kernel
theorem dX1_addGatesOf_102 : decode cX1_addGatesOf 102 = .ok (.aload_n 0, 1) := by decide +kernel
theorem dX1_addGatesOf_103 : decode cX1_addGatesOf 103 = .ok (.lload_n 2, 1) := by decide +kernel
theorem dX1_addGatesOf_104 : decode cX1_addGatesOf 104 = .ok (.ldc2_w 54, 3) := by decide +kernel
theorem dX1_addGatesOf_107 : decode cX1_addGatesOf 107 = .ok (.lor, 1) := by decide +kernel
theorem dX1_addGatesOf_108 : decode cX1_addGatesOf 108 = .ok (.invokevirtual 49, 3) := by decide +kernel
theorem dX1_addGatesOf_111 : decode cX1_addGatesOf 111 = .ok (.return_, 1) := by decide +kernel
theorem dX1_pressed_0 : decode cX1_pressed 0 = .ok (.iconst 0, 1) := by decide +kernel
theorem dX1_pressed_1 : decode cX1_pressed 1 = .ok (.istore 4, 2) := by decide +kernel
theorem dX1_pressed_3 : decode cX1_pressed 3 = .ok (.lload_n 2, 1) := by decide +kernel
theorem dX1_pressed_4 : decode cX1_pressed 4 = .ok (.lstore 5, 2) := by decide +kernel
theorem dX1_pressed_6 : decode cX1_pressed 6 = .ok (.iconst 0, 1) := by decide +kernel
theorem dX1_pressed_7 : decode cX1_pressed 7 = .ok (.istore 7, 2) := by decide +kernel
theorem dX1_pressed_9 : decode cX1_pressed 9 = .ok (.iload 7, 2) := by decide +kernel
theorem dX1_pressed_11 : decode cX1_pressed 11 = .ok (.iconst 4, 1) := by decide +kernel
theorem dX1_pressed_12 : decode cX1_pressed 12 = .ok (.if_icmp .ge 42, 3) := by decide +kernel
theorem dX1_pressed_15 : decode cX1_pressed 15 = .ok (.lload 5, 2) := by decide +kernel
theorem dX1_pressed_17 : decode cX1_pressed 17 = .ok (.lload 5, 2) := by decide +kernel
theorem dX1_pressed_19 : decode cX1_pressed 19 = .ok (.lneg, 1) := by decide +kernel
theorem dX1_pressed_20 : decode cX1_pressed 20 = .ok (.land, 1) := by decide +kernel
theorem dX1_pressed_21 : decode cX1_pressed 21 = .ok (.lstore 8, 2) := by decide +kernel
theorem dX1_pressed_23 : decode cX1_pressed 23 = .ok (.lload_n 0, 1) := by decide +kernel
theorem dX1_pressed_24 : decode cX1_pressed 24 = .ok (.lload 8, 2) := by decide +kernel
theorem dX1_pressed_26 : decode cX1_pressed 26 = .ok (.land, 1) := by decide +kernel
theorem dX1_pressed_27 : decode cX1_pressed 27 = .ok (.lconst 0, 1) := by decide +kernel
theorem dX1_pressed_28 : decode cX1_pressed 28 = .ok (.lcmp, 1) := by decide +kernel
theorem dX1_pressed_29 : decode cX1_pressed 29 = .ok (.ifCond .eq 12, 3) := by decide +kernel
theorem dX1_pressed_32 : decode cX1_pressed 32 = .ok (.iload 4, 2) := by decide +kernel
theorem dX1_pressed_34 : decode cX1_pressed 34 = .ok (.iconst 1, 1) := by decide +kernel
theorem dX1_pressed_35 : decode cX1_pressed 35 = .ok (.iload 7, 2) := by decide +kernel
theorem dX1_pressed_37 : decode cX1_pressed 37 = .ok (.ishl, 1) := by decide +kernel
theorem dX1_pressed_38 : decode cX1_pressed 38 = .ok (.ior, 1) := by decide +kernel
theorem dX1_pressed_39 : decode cX1_pressed 39 = .ok (.istore 4, 2) := by decide +kernel
theorem dX1_pressed_41 : decode cX1_pressed 41 = .ok (.lload 5, 2) := by decide +kernel
theorem dX1_pressed_43 : decode cX1_pressed 43 = .ok (.lload 8, 2) := by decide +kernel
theorem dX1_pressed_45 : decode cX1_pressed 45 = .ok (.lxor, 1) := by decide +kernel
theorem dX1_pressed_46 : decode cX1_pressed 46 = .ok (.lstore 5, 2) := by decide +kernel
theorem dX1_pressed_48 : decode cX1_pressed 48 = .ok (.iinc 7 1, 3) := by decide +kernel
theorem dX1_pressed_51 : decode cX1_pressed 51 = .ok (.goto (-42), 3) := by decide +kernel
theorem dX1_pressed_54 : decode cX1_pressed 54 = .ok (.iload 4, 2) := by decide +kernel
theorem dX1_pressed_56 : decode cX1_pressed 56 = .ok (.ireturn, 1) := by decide +kernel
theorem dX1_add_0 : decode cX1_add 0 = .ok (.aload_n 0, 1) := by decide +kernel
theorem dX1_add_1 : decode cX1_add 1 = .ok (.getfield 15, 3) := by decide +kernel
theorem dX1_add_4 : decode cX1_add 4 = .ok (.bipush 60, 2) := by decide +kernel
theorem dX1_add_6 : decode cX1_add 6 = .ok (.if_icmp .ge 23, 3) := by decide +kernel
theorem dX1_add_9 : decode cX1_add 9 = .ok (.aload_n 0, 1) := by decide +kernel
theorem dX1_add_10 : decode cX1_add 10 = .ok (.getfield 9, 3) := by decide +kernel
theorem dX1_add_13 : decode cX1_add 13 = .ok (.aload_n 0, 1) := by decide +kernel
theorem dX1_add_14 : decode cX1_add 14 = .ok (.getfield 15, 3) := by decide +kernel
theorem dX1_add_17 : decode cX1_add 17 = .ok (.lload_n 1, 1) := by decide +kernel
theorem dX1_add_18 : decode cX1_add 18 = .ok (.lastore, 1) := by decide +kernel
theorem dX1_add_19 : decode cX1_add 19 = .ok (.aload_n 0, 1) := by decide +kernel
theorem dX1_add_20 : decode cX1_add 20 = .ok (.dup, 1) := by decide +kernel
theorem dX1_add_21 : decode cX1_add 21 = .ok (.getfield 15, 3) := by decide +kernel
theorem dX1_add_24 : decode cX1_add 24 = .ok (.iconst 1, 1) := by decide +kernel
theorem dX1_add_25 : decode cX1_add 25 = .ok (.iadd, 1) := by decide +kernel
theorem dX1_add_26 : decode cX1_add 26 = .ok (.putfield 15, 3) := by decide +kernel
theorem dX1_add_29 : decode cX1_add 29 = .ok (.return_, 1) := by decide +kernel
theorem dX2_init_0 : decode cX2_init 0 = .ok (.aload_n 0, 1) := by decide +kernel
theorem dX2_init_1 : decode cX2_init 1 = .ok (.invokespecial 3, 3) := by decide +kernel
theorem dX2_init_4 : decode cX2_init 4 = .ok (.aload_n 0, 1) := by decide +kernel
theorem dX2_init_5 : decode cX2_init 5 = .ok (.iload_n 1, 1) := by decide +kernel
theorem dX2_init_6 : decode cX2_init 6 = .ok (.putfield 9, 3) := by decide +kernel
theorem dX2_init_9 : decode cX2_init 9 = .ok (.aload_n 0, 1) := by decide +kernel
theorem dX2_init_10 : decode cX2_init 10 = .ok (.iload_n 1, 1) := by decide +kernel
theorem dX2_init_11 : decode cX2_init 11 = .ok (.newarray .long, 2) := by decide +kernel
theorem dX2_init_13 : decode cX2_init 13 = .ok (.putfield 15, 3) := by decide +kernel
theorem dX2_init_16 : decode cX2_init 16 = .ok (.return_, 1) := by decide +kernel
set_option maxRecDepth 20000 in
theorem ggX2_build_J7_fill_d0a16 : GoodIn wsX2_build wsJ7_fill_d0a16 := goodIn_r _ [8] (by decide +kernel) (by decide +kernel)
set_option maxRecDepth 20000 in
theorem gX2_build_J7_fill_d0a16 : GoodIn wsX2_build (va_wsS RX2 19 yJ7_fill_d0a16 wsJ7_fill_d0a16) := goodIn_app (goodIn_of _ (by decide +kernel)) ggX2_build_J7_fill_d0a16
set_option maxRecDepth 20000 in
theorem ggX2_build_X2_reduced : GoodIn wsX2_build wsX2_reduced := goodIn_r _ [13, 14, 1, 27, 28, 29] (by decide +kernel) (by decide +kernel)
set_option maxRecDepth 20000 in
theorem gX2_build_X2_reduced : GoodIn wsX2_build (wsV RX2 37 RX2 yX2_reduced wsX2_reduced) := goodIn_app (goodIn_of _ (by decide +kernel)) ggX2_build_X2_reduced
set_option maxRecDepth 20000 in
theorem ggX2_build_X2_enter : GoodIn wsX2_build wsX2_enter := goodIn_r _ [18, 19, 14, 2, 1, 20, 21, 22, 23, 24, 25, 26, 27, 28, 29] (by decide +kernel) (by decide +kernel)
set_option maxRecDepth 20000 in
theorem gX2_build_X2_enter : GoodIn wsX2_build (wsV RX2 41 RX2 yX2_enter wsX2_enter) := goodIn_app (goodIn_of _ (by decide +kernel)) ggX2_build_X2_enter
theorem dX2_build_0 : decode cX2_build 0 = .ok (.aload_n 0, 1) := by decide +kernel
theorem dX2_build_1 : decode cX2_build 1 = .ok (.getfield 15, 3) := by decide +kernel
theorem dX2_build_4 : decode cX2_build 4 = .ok (.lconst 0, 1) := by decide +kernel
theorem dX2_build_5 : decode cX2_build 5 = .ok (.invokestatic 19, 3) := by decide +kernel
theorem dX2_build_8 : decode cX2_build 8 = .ok (.aload_n 0, 1) := by decide +kernel
theorem dX2_build_9 : decode cX2_build 9 = .ok (.iconst 0, 1) := by decide +kernel
theorem dX2_build_10 : decode cX2_build 10 = .ok (.putfield 25, 3) := by decide +kernel
theorem dX2_build_13 : decode cX2_build 13 = .ok (.iconst 0, 1) := by decide +kernel
theorem dX2_build_14 : decode cX2_build 14 = .ok (.istore_n 2, 1) := by decide +kernel
theorem dX2_build_15 : decode cX2_build 15 = .ok (.iload_n 2, 1) := by decide +kernel
theorem dX2_build_16 : decode cX2_build 16 = .ok (.aload_n 1, 1) := by decide +kernel
theorem dX2_build_17 : decode cX2_build 17 = .ok (.getfield 29, 3) := by decide +kernel
theorem dX2_build_20 : decode cX2_build 20 = .ok (.if_icmp .ge 23, 3) := by decide +kernel
theorem dX2_build_23 : decode cX2_build 23 = .ok (.aload_n 0, 1) := by decide +kernel
theorem dX2_build_24 : decode cX2_build 24 = .ok (.aload_n 0, 1) := by decide +kernel
theorem dX2_build_25 : decode cX2_build 25 = .ok (.aload_n 1, 1) := by decide +kernel
theorem dX2_build_26 : decode cX2_build 26 = .ok (.getfield 34, 3) := by decide +kernel
theorem dX2_build_29 : decode cX2_build 29 = .ok (.iload_n 2, 1) := by decide +kernel
theorem dX2_build_30 : decode cX2_build 30 = .ok (.laload, 1) := by decide +kernel
theorem dX2_build_31 : decode cX2_build 31 = .ok (.invokevirtual 37, 3) := by decide +kernel
theorem dX2_build_34 : decode cX2_build 34 = .ok (.invokevirtual 41, 3) := by decide +kernel
theorem dX2_build_37 : decode cX2_build 37 = .ok (.iinc 2 1, 3) := by decide +kernel
theorem dX2_build_40 : decode cX2_build 40 = .ok (.goto (-25), 3) := by decide +kernel
theorem dX2_build_43 : decode cX2_build 43 = .ok (.return_, 1) := by decide +kernel
theorem dX2_copyFrom_0 : decode cX2_copyFrom 0 = .ok (.aload_n 1, 1) := by decide +kernel
theorem dX2_copyFrom_1 : decode cX2_copyFrom 1 = .ok (.getfield 15, 3) := by decide +kernel
theorem dX2_copyFrom_4 : decode cX2_copyFrom 4 = .ok (.iconst 0, 1) := by decide +kernel
theorem dX2_copyFrom_5 : decode cX2_copyFrom 5 = .ok (.aload_n 0, 1) := by decide +kernel
theorem dX2_copyFrom_6 : decode cX2_copyFrom 6 = .ok (.getfield 15, 3) := by decide +kernel
theorem dX2_copyFrom_9 : decode cX2_copyFrom 9 = .ok (.iconst 0, 1) := by decide +kernel
theorem dX2_copyFrom_10 : decode cX2_copyFrom 10 = .ok (.aload_n 0, 1) := by decide +kernel
theorem dX2_copyFrom_11 : decode cX2_copyFrom 11 = .ok (.getfield 9, 3) := by decide +kernel
theorem dX2_copyFrom_14 : decode cX2_copyFrom 14 = .ok (.aload_n 1, 1) := by decide +kernel
theorem dX2_copyFrom_15 : decode cX2_copyFrom 15 = .ok (.getfield 9, 3) := by decide +kernel
theorem dX2_copyFrom_18 : decode cX2_copyFrom 18 = .ok (.invokestatic 45, 3) := by decide +kernel
theorem dX2_copyFrom_21 : decode cX2_copyFrom 21 = .ok (.invokestatic 51, 3) := by decide +kernel
theorem dX2_copyFrom_24 : decode cX2_copyFrom 24 = .ok (.aload_n 0, 1) := by decide +kernel
theorem dX2_copyFrom_25 : decode cX2_copyFrom 25 = .ok (.aload_n 1, 1) := by decide +kernel
theorem dX2_copyFrom_26 : decode cX2_copyFrom 26 = .ok (.getfield 25, 3) := by decide +kernel
theorem dX2_copyFrom_29 : decode cX2_copyFrom 29 = .ok (.putfield 25, 3) := by decide +kernel
theorem dX2_copyFrom_32 : decode cX2_copyFrom 32 = .ok (.return_, 1) := by decide +kernel
theorem dX2_size_0 : decode cX2_size 0 = .ok (.iconst 0, 1) := by decide +kernel
theorem dX2_size_1 : decode cX2_size 1 = .ok (.istore_n 1, 1) := by decide +kernel
theorem dX2_size_2 : decode cX2_size 2 = .ok (.iconst 0, 1) := by decide +kernel
theorem dX2_size_3 : decode cX2_size 3 = .ok (.istore_n 2, 1) := by decide +kernel
theorem dX2_size_4 : decode cX2_size 4 = .ok (.iload_n 2, 1) := by decide +kernel
theorem dX2_size_5 : decode cX2_size 5 = .ok (.aload_n 0, 1) := by decide +kernel
theorem dX2_size_6 : decode cX2_size 6 = .ok (.getfield 9, 3) := by decide +kernel
theorem dX2_size_9 : decode cX2_size 9 = .ok (.if_icmp .ge 23, 3) := by decide +kernel
theorem dX2_size_12 : decode cX2_size 12 = .ok (.aload_n 0, 1) := by decide +kernel
theorem dX2_size_13 : decode cX2_size 13 = .ok (.getfield 15, 3) := by decide +kernel
theorem dX2_size_16 : decode cX2_size 16 = .ok (.iload_n 2, 1) := by decide +kernel
theorem dX2_size_17 : decode cX2_size 17 = .ok (.laload, 1) := by decide +kernel
theorem dX2_size_18 : decode cX2_size 18 = .ok (.lconst 0, 1) := by decide +kernel
theorem dX2_size_19 : decode cX2_size 19 = .ok (.lcmp, 1) := by decide +kernel
theorem dX2_size_20 : decode cX2_size 20 = .ok (.ifCond .eq 6, 3) := by decide +kernel
theorem dX2_size_23 : decode cX2_size 23 = .ok (.iinc 1 1, 3) := by decide +kernel
theorem dX2_size_26 : decode cX2_size 26 = .ok (.iinc 2 1, 3) := by decide +kernel
theorem dX2_size_29 : decode cX2_size 29 = .ok (.goto (-25), 3) := by decide +kernel
theorem dX2_size_32 : decode cX2_size 32 = .ok (.iload_n 1, 1) := by decide +kernel
theorem dX2_size_33 : decode cX2_size 33 = .ok (.ireturn, 1) := by decide +kernel
theorem dX2_inOrder_0 : decode cX2_inOrder 0 = .ok (.iconst 0, 1) := by decide +kernel
theorem dX2_inOrder_1 : decode cX2_inOrder 1 = .ok (.istore_n 2, 1) := by decide +kernel
theorem dX2_inOrder_2 : decode cX2_inOrder 2 = .ok (.iconst 0, 1) := by decide +kernel
theorem dX2_inOrder_3 : decode cX2_inOrder 3 = .ok (.istore_n 3, 1) := by decide +kernel
theorem dX2_inOrder_4 : decode cX2_inOrder 4 = .ok (.iload_n 3, 1) := by decide +kernel
theorem dX2_inOrder_5 : decode cX2_inOrder 5 = .ok (.aload_n 0, 1) := by decide +kernel
theorem dX2_inOrder_6 : decode cX2_inOrder 6 = .ok (.getfield 9, 3) := by decide +kernel
theorem dX2_inOrder_9 : decode cX2_inOrder 9 = .ok (.if_icmp .ge 35, 3) := by decide +kernel
theorem dX2_inOrder_12 : decode cX2_inOrder 12 = .ok (.aload_n 0, 1) := by decide +kernel
theorem dX2_inOrder_13 : decode cX2_inOrder 13 = .ok (.getfield 15, 3) := by decide +kernel
theorem dX2_inOrder_16 : decode cX2_inOrder 16 = .ok (.iload_n 3, 1) := by decide +kernel
theorem dX2_inOrder_17 : decode cX2_inOrder 17 = .ok (.laload, 1) := by decide +kernel
theorem dX2_inOrder_18 : decode cX2_inOrder 18 = .ok (.lconst 0, 1) := by decide +kernel
theorem dX2_inOrder_19 : decode cX2_inOrder 19 = .ok (.lcmp, 1) := by decide +kernel
theorem dX2_inOrder_20 : decode cX2_inOrder 20 = .ok (.ifCond .eq 18, 3) := by decide +kernel
theorem dX2_inOrder_23 : decode cX2_inOrder 23 = .ok (.iload_n 2, 1) := by decide +kernel
theorem dX2_inOrder_24 : decode cX2_inOrder 24 = .ok (.iload_n 1, 1) := by decide +kernel
theorem dX2_inOrder_25 : decode cX2_inOrder 25 = .ok (.if_icmp .ne 10, 3) := by decide +kernel
theorem dX2_inOrder_28 : decode cX2_inOrder 28 = .ok (.aload_n 0, 1) := by decide +kernel
theorem dX2_inOrder_29 : decode cX2_inOrder 29 = .ok (.getfield 15, 3) := by decide +kernel
theorem dX2_inOrder_32 : decode cX2_inOrder 32 = .ok (.iload_n 3, 1) := by decide +kernel
theorem dX2_inOrder_33 : decode cX2_inOrder 33 = .ok (.laload, 1) := by decide +kernel
theorem dX2_inOrder_34 : decode cX2_inOrder 34 = .ok (.lreturn, 1) := by decide +kernel
theorem dX2_inOrder_35 : decode cX2_inOrder 35 = .ok (.iinc 2 1, 3) := by decide +kernel
theorem dX2_inOrder_38 : decode cX2_inOrder 38 = .ok (.iinc 3 1, 3) := by decide +kernel
theorem dX2_inOrder_41 : decode cX2_inOrder 41 = .ok (.goto (-37), 3) := by decide +kernel
theorem dX2_inOrder_44 : decode cX2_inOrder 44 = .ok (.lconst 0, 1) := by decide +kernel
theorem dX2_inOrder_45 : decode cX2_inOrder 45 = .ok (.lreturn, 1) := by decide +kernel
theorem dX2_reduced_0 : decode cX2_reduced 0 = .ok (.lload_n 1, 1) := by decide +kernel
theorem dX2_reduced_1 : decode cX2_reduced 1 = .ok (.lstore_n 3, 1) := by decide +kernel
theorem dX2_reduced_2 : decode cX2_reduced 2 = .ok (.iconst 0, 1) := by decide +kernel
theorem dX2_reduced_3 : decode cX2_reduced 3 = .ok (.istore 5, 2) := by decide +kernel
theorem dX2_reduced_5 : decode cX2_reduced 5 = .ok (.iload 5, 2) := by decide +kernel
theorem dX2_reduced_7 : decode cX2_reduced 7 = .ok (.aload_n 0, 1) := by decide +kernel
theorem dX2_reduced_8 : decode cX2_reduced 8 = .ok (.getfield 9, 3) := by decide +kernel
theorem dX2_reduced_11 : decode cX2_reduced 11 = .ok (.if_icmp .ge 30, 3) := by decide +kernel
theorem dX2_reduced_14 : decode cX2_reduced 14 = .ok (.lload_n 1, 1) := by decide +kernel
theorem dX2_reduced_15 : decode cX2_reduced 15 = .ok (.iload 5, 2) := by decide +kernel
theorem dX2_reduced_17 : decode cX2_reduced 17 = .ok (.lushr, 1) := by decide +kernel
theorem dX2_reduced_18 : decode cX2_reduced 18 = .ok (.lconst 1, 1) := by decide +kernel
theorem dX2_reduced_19 : decode cX2_reduced 19 = .ok (.land, 1) := by decide +kernel
theorem dX2_reduced_20 : decode cX2_reduced 20 = .ok (.lconst 0, 1) := by decide +kernel
theorem dX2_reduced_21 : decode cX2_reduced 21 = .ok (.lcmp, 1) := by decide +kernel
theorem dX2_reduced_22 : decode cX2_reduced 22 = .ok (.ifCond .eq 13, 3) := by decide +kernel
theorem dX2_reduced_25 : decode cX2_reduced 25 = .ok (.lload_n 3, 1) := by decide +kernel
theorem dX2_reduced_26 : decode cX2_reduced 26 = .ok (.aload_n 0, 1) := by decide +kernel
theorem dX2_reduced_27 : decode cX2_reduced 27 = .ok (.getfield 15, 3) := by decide +kernel
theorem dX2_reduced_30 : decode cX2_reduced 30 = .ok (.iload 5, 2) := by decide +kernel
theorem dX2_reduced_32 : decode cX2_reduced 32 = .ok (.laload, 1) := by decide +kernel
theorem dX2_reduced_33 : decode cX2_reduced 33 = .ok (.lxor, 1) := by decide +kernel
theorem dX2_reduced_34 : decode cX2_reduced 34 = .ok (.lstore_n 3, 1) := by decide +kernel
theorem dX2_reduced_35 : decode cX2_reduced 35 = .ok (.iinc 5 1, 3) := by decide +kernel
theorem dX2_reduced_38 : decode cX2_reduced 38 = .ok (.goto (-33), 3) := by decide +kernel
theorem dX2_reduced_41 : decode cX2_reduced 41 = .ok (.lload_n 3, 1) := by decide +kernel
theorem dX2_reduced_42 : decode cX2_reduced 42 = .ok (.lreturn, 1) := by decide +kernel
set_option maxRecDepth 20000 in
theorem ggX2_enter_J13_bitCount_95d88 : GoodIn wsX2_enter wsJ13_bitCount_95d88 := goodIn_r _ [8, 9, 10, 11] (by decide +kernel) (by decide +kernel)
set_option maxRecDepth 20000 in
theorem gX2_enter_J13_bitCount_95d88 : GoodIn wsX2_enter (va_wsS RX2 59 yJ13_bitCount_95d88 wsJ13_bitCount_95d88) := goodIn_app (goodIn_of _ (by decide +kernel)) ggX2_enter_J13_bitCount_95d88
theorem dX2_enter_0 : decode cX2_enter 0 = .ok (.lload_n 1, 1) := by decide +kernel
theorem dX2_enter_1 : decode cX2_enter 1 = .ok (.ldc2_w 57, 3) := by decide +kernel
theorem dX2_enter_4 : decode cX2_enter 4 = .ok (.land, 1) := by decide +kernel
theorem dX2_enter_5 : decode cX2_enter 5 = .ok (.lstore_n 3, 1) := by decide +kernel
theorem dX2_enter_6 : decode cX2_enter 6 = .ok (.lload_n 3, 1) := by decide +kernel
theorem dX2_enter_7 : decode cX2_enter 7 = .ok (.lload_n 3, 1) := by decide +kernel
theorem dX2_enter_8 : decode cX2_enter 8 = .ok (.lneg, 1) := by decide +kernel
theorem dX2_enter_9 : decode cX2_enter 9 = .ok (.land, 1) := by decide +kernel
theorem dX2_enter_10 : decode cX2_enter 10 = .ok (.lconst 1, 1) := by decide +kernel
theorem dX2_enter_11 : decode cX2_enter 11 = .ok (.lsub, 1) := by decide +kernel
theorem dX2_enter_12 : decode cX2_enter 12 = .ok (.invokestatic 59, 3) := by decide +kernel
theorem dX2_enter_15 : decode cX2_enter 15 = .ok (.istore 5, 2) := by decide +kernel
theorem dX2_enter_17 : decode cX2_enter 17 = .ok (.iload 5, 2) := by decide +kernel
theorem dX2_enter_19 : decode cX2_enter 19 = .ok (.aload_n 0, 1) := by decide +kernel
theorem dX2_enter_20 : decode cX2_enter 20 = .ok (.getfield 9, 3) := by decide +kernel
theorem dX2_enter_23 : decode cX2_enter 23 = .ok (.if_icmp .lt 26, 3) := by decide +kernel
theorem dX2_enter_26 : decode cX2_enter 26 = .ok (.aload_n 0, 1) := by decide +kernel
theorem dX2_enter_27 : decode cX2_enter 27 = .ok (.aload_n 0, 1) := by decide +kernel
theorem dX2_enter_28 : decode cX2_enter 28 = .ok (.getfield 25, 3) := by decide +kernel
theorem dX2_enter_31 : decode cX2_enter 31 = .ok (.ifCond .ne 9, 3) := by decide +kernel
theorem dX2_enter_34 : decode cX2_enter 34 = .ok (.lload_n 1, 1) := by decide +kernel
theorem dX2_enter_35 : decode cX2_enter 35 = .ok (.lconst 0, 1) := by decide +kernel
theorem dX2_enter_36 : decode cX2_enter 36 = .ok (.lcmp, 1) := by decide +kernel
theorem dX2_enter_37 : decode cX2_enter 37 = .ok (.ifCond .eq 7, 3) := by decide +kernel
theorem dX2_enter_40 : decode cX2_enter 40 = .ok (.iconst 1, 1) := by decide +kernel
theorem dX2_enter_41 : decode cX2_enter 41 = .ok (.goto 4, 3) := by decide +kernel
theorem dX2_enter_44 : decode cX2_enter 44 = .ok (.iconst 0, 1) := by decide +kernel
theorem dX2_enter_45 : decode cX2_enter 45 = .ok (.putfield 25, 3) := by decide +kernel
theorem dX2_enter_48 : decode cX2_enter 48 = .ok (.return_, 1) := by decide +kernel
theorem dX2_enter_49 : decode cX2_enter 49 = .ok (.iconst 0, 1) := by decide +kernel
theorem dX2_enter_50 : decode cX2_enter 50 = .ok (.istore 6, 2) := by decide +kernel
theorem dX2_enter_52 : decode cX2_enter 52 = .ok (.iload 6, 2) := by decide +kernel
theorem dX2_enter_54 : decode cX2_enter 54 = .ok (.iload 5, 2) := by decide +kernel
theorem dX2_enter_56 : decode cX2_enter 56 = .ok (.if_icmp .ge 37, 3) := by decide +kernel
theorem dX2_enter_59 : decode cX2_enter 59 = .ok (.aload_n 0, 1) := by decide +kernel
theorem dX2_enter_60 : decode cX2_enter 60 = .ok (.getfield 15, 3) := by decide +kernel
theorem dX2_enter_63 : decode cX2_enter 63 = .ok (.iload 6, 2) := by decide +kernel
theorem dX2_enter_65 : decode cX2_enter 65 = .ok (.laload, 1) := by decide +kernel
theorem dX2_enter_66 : decode cX2_enter 66 = .ok (.iload 5, 2) := by decide +kernel
theorem dX2_enter_68 : decode cX2_enter 68 = .ok (.lushr, 1) := by decide +kernel
theorem dX2_enter_69 : decode cX2_enter 69 = .ok (.lconst 1, 1) := by decide +kernel
theorem dX2_enter_70 : decode cX2_enter 70 = .ok (.land, 1) := by decide +kernel
theorem dX2_enter_71 : decode cX2_enter 71 = .ok (.lconst 0, 1) := by decide +kernel
theorem dX2_enter_72 : decode cX2_enter 72 = .ok (.lcmp, 1) := by decide +kernel
theorem dX2_enter_73 : decode cX2_enter 73 = .ok (.ifCond .eq 14, 3) := by decide +kernel
theorem dX2_enter_76 : decode cX2_enter 76 = .ok (.aload_n 0, 1) := by decide +kernel
theorem dX2_enter_77 : decode cX2_enter 77 = .ok (.getfield 15, 3) := by decide +kernel
theorem dX2_enter_80 : decode cX2_enter 80 = .ok (.iload 6, 2) := by decide +kernel
theorem dX2_enter_82 : decode cX2_enter 82 = .ok (.dup2, 1) := by decide +kernel
theorem dX2_enter_83 : decode cX2_enter 83 = .ok (.laload, 1) := by decide +kernel
theorem dX2_enter_84 : decode cX2_enter 84 = .ok (.lload_n 1, 1) := by decide +kernel
theorem dX2_enter_85 : decode cX2_enter 85 = .ok (.lxor, 1) := by decide +kernel
theorem dX2_enter_86 : decode cX2_enter 86 = .ok (.lastore, 1) := by decide +kernel
theorem dX2_enter_87 : decode cX2_enter 87 = .ok (.iinc 6 1, 3) := by decide +kernel
theorem dX2_enter_90 : decode cX2_enter 90 = .ok (.goto (-38), 3) := by decide +kernel
theorem dX2_enter_93 : decode cX2_enter 93 = .ok (.aload_n 0, 1) := by decide +kernel
theorem dX2_enter_94 : decode cX2_enter 94 = .ok (.getfield 15, 3) := by decide +kernel
theorem dX2_enter_97 : decode cX2_enter 97 = .ok (.iload 5, 2) := by decide +kernel
theorem dX2_enter_99 : decode cX2_enter 99 = .ok (.lload_n 1, 1) := by decide +kernel
theorem dX2_enter_100 : decode cX2_enter 100 = .ok (.lastore, 1) := by decide +kernel
theorem dX2_enter_101 : decode cX2_enter 101 = .ok (.return_, 1) := by decide +kernel
set_option maxRecDepth 20000 in
theorem ggX2_settle_X2_enter : GoodIn wsX2_settle wsX2_enter := goodIn_r _ [8, 9, 1, 10, 3, 11, 12, 13, 14, 15, 16, 17, 18, 19, 20] (by decide +kernel) (by decide +kernel)
set_option maxRecDepth 20000 in
theorem gX2_settle_X2_enter : GoodIn wsX2_settle (wsV RX2 41 RX2 yX2_enter wsX2_enter) := goodIn_app (goodIn_of _ (by decide +kernel)) ggX2_settle_X2_enter
theorem dX2_settle_0 : decode cX2_settle 0 = .ok (.iload_n 1, 1) := by decide +kernel
theorem dX2_settle_1 : decode cX2_settle 1 = .ok (.ifCond .lt 11, 3) := by decide +kernel
theorem dX2_settle_4 : decode cX2_settle 4 = .ok (.iload_n 1, 1) := by decide +kernel
theorem dX2_settle_5 : decode cX2_settle 5 = .ok (.aload_n 0, 1) := by decide +kernel
theorem dX2_settle_6 : decode cX2_settle 6 = .ok (.getfield 9, 3) := by decide +kernel
theorem dX2_settle_9 : decode cX2_settle 9 = .ok (.if_icmp .lt 4, 3) := by decide +kernel
theorem dX2_settle_12 : decode cX2_settle 12 = .ok (.return_, 1) := by decide +kernel
theorem dX2_settle_13 : decode cX2_settle 13 = .ok (.lconst 1, 1) := by decide +kernel
theorem dX2_settle_14 : decode cX2_settle 14 = .ok (.iload_n 1, 1) := by decide +kernel
theorem dX2_settle_15 : decode cX2_settle 15 = .ok (.lshl, 1) := by decide +kernel
theorem dX2_settle_16 : decode cX2_settle 16 = .ok (.iload_n 2, 1) := by decide +kernel
theorem dX2_settle_17 : decode cX2_settle 17 = .ok (.ifCond .eq 9, 3) := by decide +kernel
theorem dX2_settle_20 : decode cX2_settle 20 = .ok (.ldc2_w 65, 3) := by decide +kernel
theorem dX2_settle_23 : decode cX2_settle 23 = .ok (.goto 4, 3) := by decide +kernel
theorem dX2_settle_26 : decode cX2_settle 26 = .ok (.lconst 0, 1) := by decide +kernel
theorem dX2_settle_27 : decode cX2_settle 27 = .ok (.lor, 1) := by decide +kernel
theorem dX2_settle_28 : decode cX2_settle 28 = .ok (.lstore_n 3, 1) := by decide +kernel
theorem dX2_settle_29 : decode cX2_settle 29 = .ok (.aload_n 0, 1) := by decide +kernel
theorem dX2_settle_30 : decode cX2_settle 30 = .ok (.getfield 15, 3) := by decide +kernel
theorem dX2_settle_33 : decode cX2_settle 33 = .ok (.iload_n 1, 1) := by decide +kernel
theorem dX2_settle_34 : decode cX2_settle 34 = .ok (.laload, 1) := by decide +kernel
theorem dX2_settle_35 : decode cX2_settle 35 = .ok (.lstore 5, 2) := by decide +kernel
theorem dX2_settle_37 : decode cX2_settle 37 = .ok (.lload 5, 2) := by decide +kernel
theorem dX2_settle_39 : decode cX2_settle 39 = .ok (.lconst 0, 1) := by decide +kernel
theorem dX2_settle_40 : decode cX2_settle 40 = .ok (.lcmp, 1) := by decide +kernel
theorem dX2_settle_41 : decode cX2_settle 41 = .ok (.ifCond .eq 19, 3) := by decide +kernel
theorem dX2_settle_44 : decode cX2_settle 44 = .ok (.aload_n 0, 1) := by decide +kernel
theorem dX2_settle_45 : decode cX2_settle 45 = .ok (.getfield 15, 3) := by decide +kernel
theorem dX2_settle_48 : decode cX2_settle 48 = .ok (.iload_n 1, 1) := by decide +kernel
theorem dX2_settle_49 : decode cX2_settle 49 = .ok (.lconst 0, 1) := by decide +kernel
theorem dX2_settle_50 : decode cX2_settle 50 = .ok (.lastore, 1) := by decide +kernel
theorem dX2_settle_51 : decode cX2_settle 51 = .ok (.aload_n 0, 1) := by decide +kernel
theorem dX2_settle_52 : decode cX2_settle 52 = .ok (.lload 5, 2) := by decide +kernel
theorem dX2_settle_54 : decode cX2_settle 54 = .ok (.lload_n 3, 1) := by decide +kernel
theorem dX2_settle_55 : decode cX2_settle 55 = .ok (.lxor, 1) := by decide +kernel
theorem dX2_settle_56 : decode cX2_settle 56 = .ok (.invokevirtual 41, 3) := by decide +kernel
theorem dX2_settle_59 : decode cX2_settle 59 = .ok (.return_, 1) := by decide +kernel
theorem dX2_settle_60 : decode cX2_settle 60 = .ok (.iconst 0, 1) := by decide +kernel
theorem dX2_settle_61 : decode cX2_settle 61 = .ok (.istore 7, 2) := by decide +kernel
theorem dX2_settle_63 : decode cX2_settle 63 = .ok (.iload 7, 2) := by decide +kernel
theorem dX2_settle_65 : decode cX2_settle 65 = .ok (.iload_n 1, 1) := by decide +kernel
theorem dX2_settle_66 : decode cX2_settle 66 = .ok (.if_icmp .ge 36, 3) := by decide +kernel
theorem dX2_settle_69 : decode cX2_settle 69 = .ok (.aload_n 0, 1) := by decide +kernel
theorem dX2_settle_70 : decode cX2_settle 70 = .ok (.getfield 15, 3) := by decide +kernel
theorem dX2_settle_73 : decode cX2_settle 73 = .ok (.iload 7, 2) := by decide +kernel
theorem dX2_settle_75 : decode cX2_settle 75 = .ok (.laload, 1) := by decide +kernel
theorem dX2_settle_76 : decode cX2_settle 76 = .ok (.iload_n 1, 1) := by decide +kernel
theorem dX2_settle_77 : decode cX2_settle 77 = .ok (.lushr, 1) := by decide +kernel
theorem dX2_settle_78 : decode cX2_settle 78 = .ok (.lconst 1, 1) := by decide +kernel
theorem dX2_settle_79 : decode cX2_settle 79 = .ok (.land, 1) := by decide +kernel
theorem dX2_settle_80 : decode cX2_settle 80 = .ok (.lconst 0, 1) := by decide +kernel
theorem dX2_settle_81 : decode cX2_settle 81 = .ok (.lcmp, 1) := by decide +kernel
theorem dX2_settle_82 : decode cX2_settle 82 = .ok (.ifCond .eq 14, 3) := by decide +kernel
theorem dX2_settle_85 : decode cX2_settle 85 = .ok (.aload_n 0, 1) := by decide +kernel
theorem dX2_settle_86 : decode cX2_settle 86 = .ok (.getfield 15, 3) := by decide +kernel
theorem dX2_settle_89 : decode cX2_settle 89 = .ok (.iload 7, 2) := by decide +kernel
theorem dX2_settle_91 : decode cX2_settle 91 = .ok (.dup2, 1) := by decide +kernel
theorem dX2_settle_92 : decode cX2_settle 92 = .ok (.laload, 1) := by decide +kernel
theorem dX2_settle_93 : decode cX2_settle 93 = .ok (.lload_n 3, 1) := by decide +kernel
theorem dX2_settle_94 : decode cX2_settle 94 = .ok (.lxor, 1) := by decide +kernel
theorem dX2_settle_95 : decode cX2_settle 95 = .ok (.lastore, 1) := by decide +kernel
theorem dX2_settle_96 : decode cX2_settle 96 = .ok (.iinc 7 1, 3) := by decide +kernel
theorem dX2_settle_99 : decode cX2_settle 99 = .ok (.goto (-36), 3) := by decide +kernel
theorem dX2_settle_102 : decode cX2_settle 102 = .ok (.return_, 1) := by decide +kernel
set_option maxRecDepth 20000 in
theorem ggX3_init_X5_init : GoodIn wsX3_init wsX5_init := goodIn_r _ [15, 16, 2, 3, 17, 18, 19, 20, 21, 22, 23, 24, 25, 26, 9, 27, 38, 39, 40, 41, 42, 43, 44] (by decide +kernel) (by decide +kernel)
set_option maxRecDepth 20000 in
theorem gX3_init_X5_init : GoodIn wsX3_init (wsX5_init) := ggX3_init_X5_init
theorem dX3_init_0 : decode cX3_init 0 = .ok (.aload_n 0, 1) := by decide +kernel
theorem dX3_init_1 : decode cX3_init 1 = .ok (.invokespecial 1, 3) := by decide +kernel
theorem dX3_init_4 : decode cX3_init 4 = .ok (.aload_n 0, 1) := by decide +kernel
theorem dX3_init_5 : decode cX3_init 5 = .ok (.iload_n 1, 1) := by decide +kernel
theorem dX3_init_6 : decode cX3_init 6 = .ok (.putfield 7, 3) := by decide +kernel
theorem dX3_init_9 : decode cX3_init 9 = .ok (.aload_n 0, 1) := by decide +kernel
theorem dX3_init_10 : decode cX3_init 10 = .ok (.new 13, 3) := by decide +kernel
theorem dX3_init_13 : decode cX3_init 13 = .ok (.dup, 1) := by decide +kernel
theorem dX3_init_14 : decode cX3_init 14 = .ok (.iload_n 1, 1) := by decide +kernel
theorem dX3_init_15 : decode cX3_init 15 = .ok (.invokespecial 15, 3) := by decide +kernel
theorem dX3_init_18 : decode cX3_init 18 = .ok (.putfield 18, 3) := by decide +kernel
theorem dX3_init_21 : decode cX3_init 21 = .ok (.aload_n 0, 1) := by decide +kernel
theorem dX3_init_22 : decode cX3_init 22 = .ok (.iload_n 1, 1) := by decide +kernel
theorem dX3_init_23 : decode cX3_init 23 = .ok (.iload_n 1, 1) := by decide +kernel
theorem dX3_init_24 : decode cX3_init 24 = .ok (.imul, 1) := by decide +kernel
theorem dX3_init_25 : decode cX3_init 25 = .ok (.newarray .long, 2) := by decide +kernel
theorem dX3_init_27 : decode cX3_init 27 = .ok (.putfield 22, 3) := by decide +kernel
theorem dX3_init_30 : decode cX3_init 30 = .ok (.aload_n 0, 1) := by decide +kernel
theorem dX3_init_31 : decode cX3_init 31 = .ok (.iload_n 1, 1) := by decide +kernel
theorem dX3_init_32 : decode cX3_init 32 = .ok (.newarray .long, 2) := by decide +kernel
theorem dX3_init_34 : decode cX3_init 34 = .ok (.putfield 26, 3) := by decide +kernel
theorem dX3_init_37 : decode cX3_init 37 = .ok (.aload_n 0, 1) := by decide +kernel
theorem dX3_init_38 : decode cX3_init 38 = .ok (.iload_n 1, 1) := by decide +kernel
theorem dX3_init_39 : decode cX3_init 39 = .ok (.newarray .long, 2) := by decide +kernel
theorem dX3_init_41 : decode cX3_init 41 = .ok (.putfield 29, 3) := by decide +kernel
theorem dX3_init_44 : decode cX3_init 44 = .ok (.return_, 1) := by decide +kernel
set_option maxRecDepth 20000 in
theorem ggX3_begin_X5_begin : GoodIn wsX3_begin wsX5_begin := goodIn_r _ [10, 11, 12, 13, 14, 15, 16, 17, 18, 19, 20, 21, 22, 23, 24, 25, 26, 27, 28, 29, 40, 41, 42, 43, 44, 45, 46] (by decide +kernel) (by decide +kernel)
set_option maxRecDepth 20000 in
theorem gX3_begin_X5_begin : GoodIn wsX3_begin (wsV RX3 32 RX5 yX5_begin wsX5_begin) := goodIn_app (goodIn_of _ (by decide +kernel)) ggX3_begin_X5_begin
theorem dX3_begin_0 : decode cX3_begin 0 = .ok (.aload_n 0, 1) := by decide +kernel
theorem dX3_begin_1 : decode cX3_begin 1 = .ok (.getfield 18, 3) := by decide +kernel
theorem dX3_begin_4 : decode cX3_begin 4 = .ok (.aload_n 1, 1) := by decide +kernel
theorem dX3_begin_5 : decode cX3_begin 5 = .ok (.invokevirtual 32, 3) := by decide +kernel
theorem dX3_begin_8 : decode cX3_begin 8 = .ok (.aload_n 0, 1) := by decide +kernel
theorem dX3_begin_9 : decode cX3_begin 9 = .ok (.iconst 0, 1) := by decide +kernel
theorem dX3_begin_10 : decode cX3_begin 10 = .ok (.putfield 36, 3) := by decide +kernel
theorem dX3_begin_13 : decode cX3_begin 13 = .ok (.aload_n 0, 1) := by decide +kernel
theorem dX3_begin_14 : decode cX3_begin 14 = .ok (.iconst 0, 1) := by decide +kernel
theorem dX3_begin_15 : decode cX3_begin 15 = .ok (.putfield 39, 3) := by decide +kernel
theorem dX3_begin_18 : decode cX3_begin 18 = .ok (.aload_n 0, 1) := by decide +kernel
theorem dX3_begin_19 : decode cX3_begin 19 = .ok (.iconst 0, 1) := by decide +kernel
theorem dX3_begin_20 : decode cX3_begin 20 = .ok (.putfield 42, 3) := by decide +kernel
theorem dX3_begin_23 : decode cX3_begin 23 = .ok (.aload_n 0, 1) := by decide +kernel
theorem dX3_begin_24 : decode cX3_begin 24 = .ok (.iconst 0, 1) := by decide +kernel
theorem dX3_begin_25 : decode cX3_begin 25 = .ok (.putfield 45, 3) := by decide +kernel
theorem dX3_begin_28 : decode cX3_begin 28 = .ok (.return_, 1) := by decide +kernel
set_option maxRecDepth 20000 in
theorem ggX3_run_X5_spread : GoodIn wsX3_run wsX5_spread := goodIn_r _ [11, 12, 13, 14, 15, 16, 17, 10, 18, 19, 20, 21, 22, 23, 24, 25, 26, 27, 28, 29, 30, 31, 32, 33, 34, 35, 36, 37, 38, 39, 40, 41, 42, 43, 44, 45, 46, 47, 48, 49, 50, 51, 52, 53, 54, 55, 56, 57, 58, 59, 60, 61, 62, 63, 105, 106, 107, 108, 109, 110, 111, 112, 113, 114, 115, 116, 117, 118, 119] (by decide +kernel) (by decide +kernel)
set_option maxRecDepth 20000 in
theorem gX3_run_X5_spread : GoodIn wsX3_run (wsV RX3 49 RX5 yX5_spread wsX5_spread) := goodIn_app (goodIn_of _ (by decide +kernel)) ggX3_run_X5_spread
set_option maxRecDepth 20000 in
theorem ggX3_run_X5_isFull : GoodIn wsX3_run wsX5_isFull := goodIn_r _ [67, 19, 68, 69, 70, 10, 71, 14, 59, 60, 61, 62, 63, 46, 47, 48, 49, 50, 51, 105, 106, 107, 108] (by decide +kernel) (by decide +kernel)
set_option maxRecDepth 20000 in
theorem gX3_run_X5_isFull : GoodIn wsX3_run (wsV RX3 53 RX5 yX5_isFull wsX5_isFull) := goodIn_app (goodIn_of _ (by decide +kernel)) ggX3_run_X5_isFull
set_option maxRecDepth 20000 in
theorem ggX3_run_X3_pile : GoodIn wsX3_run wsX3_pile := goodIn_r _ [76, 77, 78, 2, 79, 80, 81, 82, 83, 84, 85, 86, 87, 4, 95, 96, 97, 98, 99, 100, 101, 102, 103, 104, 105, 106, 107, 108, 109, 110, 111] (by decide +kernel) (by decide +kernel)
set_option maxRecDepth 20000 in
theorem gX3_run_X3_pile : GoodIn wsX3_run (wsV RX3 64 RX3 yX3_pile wsX3_pile) := goodIn_app (goodIn_of _ (by decide +kernel)) ggX3_run_X3_pile
set_option maxRecDepth 20000 in
theorem ggX3_run_X5_leastOpen : GoodIn wsX3_run wsX5_leastOpen := goodIn_r _ [71, 14, 59, 60, 61, 62, 63, 46, 47, 48, 49, 50, 51, 105, 106, 107, 108] (by decide +kernel) (by decide +kernel)
set_option maxRecDepth 20000 in
theorem gX3_run_X5_leastOpen : GoodIn wsX3_run (wsV RX3 67 RX5 yX5_leastOpen wsX5_leastOpen) := goodIn_app (goodIn_of _ (by decide +kernel)) ggX3_run_X5_leastOpen
set_option maxRecDepth 20000 in
theorem ggX3_run_X5_take : GoodIn wsX3_run wsX5_take := goodIn_r _ [29, 14, 30, 12, 31, 32, 33, 34, 35, 36, 37, 38, 39, 40, 41, 42, 43, 44, 45, 46, 47, 48, 49, 50, 51, 105, 106, 107, 108, 109, 110, 111] (by decide +kernel) (by decide +kernel)
set_option maxRecDepth 20000 in
theorem gX3_run_X5_take : GoodIn wsX3_run (wsV RX3 71 RX5 yX5_take wsX5_take) := goodIn_app (goodIn_of _ (by decide +kernel)) ggX3_run_X5_take
set_option maxRecDepth 20000 in
theorem ggX3_run_X3_unpile : GoodIn wsX3_run wsX3_unpile := goodIn_r _ [93, 77, 80, 78, 2, 79, 81, 82, 83, 84, 94, 85, 86, 87, 4, 95, 96, 97, 98, 99, 100, 101, 102, 103, 104, 105, 106, 107, 108, 109, 110, 111] (by decide +kernel) (by decide +kernel)
set_option maxRecDepth 20000 in
theorem gX3_run_X3_unpile : GoodIn wsX3_run (wsV RX3 75 RX3 yX3_unpile wsX3_unpile) := goodIn_app (goodIn_of _ (by decide +kernel)) ggX3_run_X3_unpile
theorem dX3_run_0 : decode cX3_run 0 = .ok (.iconst 0, 1) := by decide +kernel
theorem dX3_run_1 : decode cX3_run 1 = .ok (.istore 4, 2) := by decide +kernel
theorem dX3_run_3 : decode cX3_run 3 = .ok (.iload 4, 2) := by decide +kernel
theorem dX3_run_5 : decode cX3_run 5 = .ok (.iload_n 2, 1) := by decide +kernel
theorem dX3_run_6 : decode cX3_run 6 = .ok (.if_icmp .ge 126, 3) := by decide +kernel
theorem dX3_run_9 : decode cX3_run 9 = .ok (.aload_n 0, 1) := by decide +kernel
theorem dX3_run_10 : decode cX3_run 10 = .ok (.dup, 1) := by decide +kernel
theorem dX3_run_11 : decode cX3_run 11 = .ok (.getfield 39, 3) := by decide +kernel
theorem dX3_run_14 : decode cX3_run 14 = .ok (.iconst 1, 1) := by decide +kernel
theorem dX3_run_15 : decode cX3_run 15 = .ok (.iadd, 1) := by decide +kernel
theorem dX3_run_16 : decode cX3_run 16 = .ok (.putfield 39, 3) := by decide +kernel
theorem dX3_run_19 : decode cX3_run 19 = .ok (.aload_n 0, 1) := by decide +kernel
theorem dX3_run_20 : decode cX3_run 20 = .ok (.getfield 18, 3) := by decide +kernel
theorem dX3_run_23 : decode cX3_run 23 = .ok (.aload_n 1, 1) := by decide +kernel
theorem dX3_run_24 : decode cX3_run 24 = .ok (.invokevirtual 49, 3) := by decide +kernel
theorem dX3_run_27 : decode cX3_run 27 = .ok (.istore 5, 2) := by decide +kernel
theorem dX3_run_29 : decode cX3_run 29 = .ok (.iload 5, 2) := by decide +kernel
theorem dX3_run_31 : decode cX3_run 31 = .ok (.ifCond .eq 42, 3) := by decide +kernel
theorem dX3_run_34 : decode cX3_run 34 = .ok (.aload_n 0, 1) := by decide +kernel
theorem dX3_run_35 : decode cX3_run 35 = .ok (.getfield 18, 3) := by decide +kernel
theorem dX3_run_38 : decode cX3_run 38 = .ok (.invokevirtual 53, 3) := by decide +kernel
theorem dX3_run_41 : decode cX3_run 41 = .ok (.ifCond .eq 32, 3) := by decide +kernel
theorem dX3_run_44 : decode cX3_run 44 = .ok (.aload_n 0, 1) := by decide +kernel
theorem dX3_run_45 : decode cX3_run 45 = .ok (.dup, 1) := by decide +kernel
theorem dX3_run_46 : decode cX3_run 46 = .ok (.getfield 42, 3) := by decide +kernel
theorem dX3_run_49 : decode cX3_run 49 = .ok (.iconst 1, 1) := by decide +kernel
theorem dX3_run_50 : decode cX3_run 50 = .ok (.iadd, 1) := by decide +kernel
theorem dX3_run_51 : decode cX3_run 51 = .ok (.putfield 42, 3) := by decide +kernel
theorem dX3_run_54 : decode cX3_run 54 = .ok (.aload_n 0, 1) := by decide +kernel
theorem dX3_run_55 : decode cX3_run 55 = .ok (.aload_n 0, 1) := by decide +kernel
theorem dX3_run_56 : decode cX3_run 56 = .ok (.getfield 18, 3) := by decide +kernel
theorem dX3_run_59 : decode cX3_run 59 = .ok (.getfield 57, 3) := by decide +kernel
theorem dX3_run_62 : decode cX3_run 62 = .ok (.putfield 61, 3) := by decide +kernel
theorem dX3_run_65 : decode cX3_run 65 = .ok (.iload_n 3, 1) := by decide +kernel
theorem dX3_run_66 : decode cX3_run 66 = .ok (.ifCond .eq 4, 3) := by decide +kernel
theorem dX3_run_69 : decode cX3_run 69 = .ok (.return_, 1) := by decide +kernel
theorem dX3_run_70 : decode cX3_run 70 = .ok (.iconst 0, 1) := by decide +kernel
theorem dX3_run_71 : decode cX3_run 71 = .ok (.istore 5, 2) := by decide +kernel
theorem dX3_run_73 : decode cX3_run 73 = .ok (.iload 5, 2) := by decide +kernel
theorem dX3_run_75 : decode cX3_run 75 = .ok (.ifCond .eq 25, 3) := by decide +kernel
theorem dX3_run_78 : decode cX3_run 78 = .ok (.aload_n 0, 1) := by decide +kernel
theorem dX3_run_79 : decode cX3_run 79 = .ok (.invokevirtual 64, 3) := by decide +kernel
theorem dX3_run_82 : decode cX3_run 82 = .ok (.aload_n 0, 1) := by decide +kernel
theorem dX3_run_83 : decode cX3_run 83 = .ok (.getfield 18, 3) := by decide +kernel
theorem dX3_run_86 : decode cX3_run 86 = .ok (.aload_n 0, 1) := by decide +kernel
theorem dX3_run_87 : decode cX3_run 87 = .ok (.getfield 18, 3) := by decide +kernel
theorem dX3_run_90 : decode cX3_run 90 = .ok (.invokevirtual 67, 3) := by decide +kernel
theorem dX3_run_93 : decode cX3_run 93 = .ok (.iconst 0, 1) := by decide +kernel
theorem dX3_run_94 : decode cX3_run 94 = .ok (.invokevirtual 71, 3) := by decide +kernel
theorem dX3_run_97 : decode cX3_run 97 = .ok (.goto 29, 3) := by decide +kernel
theorem dX3_run_100 : decode cX3_run 100 = .ok (.aload_n 0, 1) := by decide +kernel
theorem dX3_run_101 : decode cX3_run 101 = .ok (.invokevirtual 75, 3) := by decide +kernel
theorem dX3_run_104 : decode cX3_run 104 = .ok (.ifCond .eq 21, 3) := by decide +kernel
theorem dX3_run_107 : decode cX3_run 107 = .ok (.aload_n 0, 1) := by decide +kernel
theorem dX3_run_108 : decode cX3_run 108 = .ok (.getfield 18, 3) := by decide +kernel
theorem dX3_run_111 : decode cX3_run 111 = .ok (.aload_n 0, 1) := by decide +kernel
theorem dX3_run_112 : decode cX3_run 112 = .ok (.getfield 18, 3) := by decide +kernel
theorem dX3_run_115 : decode cX3_run 115 = .ok (.invokevirtual 67, 3) := by decide +kernel
theorem dX3_run_118 : decode cX3_run 118 = .ok (.iconst 1, 1) := by decide +kernel
theorem dX3_run_119 : decode cX3_run 119 = .ok (.invokevirtual 71, 3) := by decide +kernel
theorem dX3_run_122 : decode cX3_run 122 = .ok (.goto 4, 3) := by decide +kernel
theorem dX3_run_125 : decode cX3_run 125 = .ok (.return_, 1) := by decide +kernel
theorem dX3_run_126 : decode cX3_run 126 = .ok (.iinc 4 1, 3) := by decide +kernel
theorem dX3_run_129 : decode cX3_run 129 = .ok (.goto (-126), 3) := by decide +kernel
theorem dX3_run_132 : decode cX3_run 132 = .ok (.aload_n 0, 1) := by decide +kernel
theorem dX3_run_133 : decode cX3_run 133 = .ok (.iconst 1, 1) := by decide +kernel
theorem dX3_run_134 : decode cX3_run 134 = .ok (.putfield 45, 3) := by decide +kernel
theorem dX3_run_137 : decode cX3_run 137 = .ok (.return_, 1) := by decide +kernel
theorem dX3_pile_0 : decode cX3_pile 0 = .ok (.aload_n 0, 1) := by decide +kernel
theorem dX3_pile_1 : decode cX3_pile 1 = .ok (.getfield 36, 3) := by decide +kernel
theorem dX3_pile_4 : decode cX3_pile 4 = .ok (.aload_n 0, 1) := by decide +kernel
theorem dX3_pile_5 : decode cX3_pile 5 = .ok (.getfield 7, 3) := by decide +kernel
theorem dX3_pile_8 : decode cX3_pile 8 = .ok (.if_icmp .ge 76, 3) := by decide +kernel
theorem dX3_pile_11 : decode cX3_pile 11 = .ok (.aload_n 0, 1) := by decide +kernel
theorem dX3_pile_12 : decode cX3_pile 12 = .ok (.getfield 18, 3) := by decide +kernel
theorem dX3_pile_15 : decode cX3_pile 15 = .ok (.getfield 78, 3) := by decide +kernel
theorem dX3_pile_18 : decode cX3_pile 18 = .ok (.getfield 82, 3) := by decide +kernel
theorem dX3_pile_21 : decode cX3_pile 21 = .ok (.iconst 0, 1) := by decide +kernel
theorem dX3_pile_22 : decode cX3_pile 22 = .ok (.aload_n 0, 1) := by decide +kernel
theorem dX3_pile_23 : decode cX3_pile 23 = .ok (.getfield 22, 3) := by decide +kernel
theorem dX3_pile_26 : decode cX3_pile 26 = .ok (.aload_n 0, 1) := by decide +kernel
theorem dX3_pile_27 : decode cX3_pile 27 = .ok (.getfield 36, 3) := by decide +kernel
theorem dX3_pile_30 : decode cX3_pile 30 = .ok (.aload_n 0, 1) := by decide +kernel
theorem dX3_pile_31 : decode cX3_pile 31 = .ok (.getfield 7, 3) := by decide +kernel
theorem dX3_pile_34 : decode cX3_pile 34 = .ok (.imul, 1) := by decide +kernel
theorem dX3_pile_35 : decode cX3_pile 35 = .ok (.aload_n 0, 1) := by decide +kernel
theorem dX3_pile_36 : decode cX3_pile 36 = .ok (.getfield 7, 3) := by decide +kernel
theorem dX3_pile_39 : decode cX3_pile 39 = .ok (.invokestatic 87, 3) := by decide +kernel
theorem dX3_pile_42 : decode cX3_pile 42 = .ok (.aload_n 0, 1) := by decide +kernel
theorem dX3_pile_43 : decode cX3_pile 43 = .ok (.getfield 26, 3) := by decide +kernel
theorem dX3_pile_46 : decode cX3_pile 46 = .ok (.aload_n 0, 1) := by decide +kernel
theorem dX3_pile_47 : decode cX3_pile 47 = .ok (.getfield 36, 3) := by decide +kernel
theorem dX3_pile_50 : decode cX3_pile 50 = .ok (.aload_n 0, 1) := by decide +kernel
theorem dX3_pile_51 : decode cX3_pile 51 = .ok (.getfield 18, 3) := by decide +kernel
theorem dX3_pile_54 : decode cX3_pile 54 = .ok (.getfield 93, 3) := by decide +kernel
theorem dX3_pile_57 : decode cX3_pile 57 = .ok (.lastore, 1) := by decide +kernel
theorem dX3_pile_58 : decode cX3_pile 58 = .ok (.aload_n 0, 1) := by decide +kernel
theorem dX3_pile_59 : decode cX3_pile 59 = .ok (.getfield 29, 3) := by decide +kernel
theorem dX3_pile_62 : decode cX3_pile 62 = .ok (.aload_n 0, 1) := by decide +kernel
theorem dX3_pile_63 : decode cX3_pile 63 = .ok (.getfield 36, 3) := by decide +kernel
theorem dX3_pile_66 : decode cX3_pile 66 = .ok (.aload_n 0, 1) := by decide +kernel
theorem dX3_pile_67 : decode cX3_pile 67 = .ok (.getfield 18, 3) := by decide +kernel
theorem dX3_pile_70 : decode cX3_pile 70 = .ok (.getfield 57, 3) := by decide +kernel
theorem dX3_pile_73 : decode cX3_pile 73 = .ok (.lastore, 1) := by decide +kernel
theorem dX3_pile_74 : decode cX3_pile 74 = .ok (.aload_n 0, 1) := by decide +kernel
theorem dX3_pile_75 : decode cX3_pile 75 = .ok (.dup, 1) := by decide +kernel
theorem dX3_pile_76 : decode cX3_pile 76 = .ok (.getfield 36, 3) := by decide +kernel
theorem dX3_pile_79 : decode cX3_pile 79 = .ok (.iconst 1, 1) := by decide +kernel
theorem dX3_pile_80 : decode cX3_pile 80 = .ok (.iadd, 1) := by decide +kernel
theorem dX3_pile_81 : decode cX3_pile 81 = .ok (.putfield 36, 3) := by decide +kernel
theorem dX3_pile_84 : decode cX3_pile 84 = .ok (.return_, 1) := by decide +kernel
theorem dX3_unpile_0 : decode cX3_unpile 0 = .ok (.aload_n 0, 1) := by decide +kernel
theorem dX3_unpile_1 : decode cX3_unpile 1 = .ok (.getfield 36, 3) := by decide +kernel
theorem dX3_unpile_4 : decode cX3_unpile 4 = .ok (.ifCond .gt 5, 3) := by decide +kernel
theorem dX3_unpile_7 : decode cX3_unpile 7 = .ok (.iconst 0, 1) := by decide +kernel
theorem dX3_unpile_8 : decode cX3_unpile 8 = .ok (.ireturn, 1) := by decide +kernel
theorem dX3_unpile_9 : decode cX3_unpile 9 = .ok (.aload_n 0, 1) := by decide +kernel
theorem dX3_unpile_10 : decode cX3_unpile 10 = .ok (.dup, 1) := by decide +kernel
theorem dX3_unpile_11 : decode cX3_unpile 11 = .ok (.getfield 36, 3) := by decide +kernel
theorem dX3_unpile_14 : decode cX3_unpile 14 = .ok (.iconst 1, 1) := by decide +kernel
theorem dX3_unpile_15 : decode cX3_unpile 15 = .ok (.isub, 1) := by decide +kernel
theorem dX3_unpile_16 : decode cX3_unpile 16 = .ok (.putfield 36, 3) := by decide +kernel
theorem dX3_unpile_19 : decode cX3_unpile 19 = .ok (.aload_n 0, 1) := by decide +kernel
theorem dX3_unpile_20 : decode cX3_unpile 20 = .ok (.getfield 22, 3) := by decide +kernel
theorem dX3_unpile_23 : decode cX3_unpile 23 = .ok (.aload_n 0, 1) := by decide +kernel
theorem dX3_unpile_24 : decode cX3_unpile 24 = .ok (.getfield 36, 3) := by decide +kernel
theorem dX3_unpile_27 : decode cX3_unpile 27 = .ok (.aload_n 0, 1) := by decide +kernel
theorem dX3_unpile_28 : decode cX3_unpile 28 = .ok (.getfield 7, 3) := by decide +kernel
theorem dX3_unpile_31 : decode cX3_unpile 31 = .ok (.imul, 1) := by decide +kernel
theorem dX3_unpile_32 : decode cX3_unpile 32 = .ok (.aload_n 0, 1) := by decide +kernel
theorem dX3_unpile_33 : decode cX3_unpile 33 = .ok (.getfield 18, 3) := by decide +kernel
theorem dX3_unpile_36 : decode cX3_unpile 36 = .ok (.getfield 78, 3) := by decide +kernel
theorem dX3_unpile_39 : decode cX3_unpile 39 = .ok (.getfield 82, 3) := by decide +kernel
theorem dX3_unpile_42 : decode cX3_unpile 42 = .ok (.iconst 0, 1) := by decide +kernel
theorem dX3_unpile_43 : decode cX3_unpile 43 = .ok (.aload_n 0, 1) := by decide +kernel
theorem dX3_unpile_44 : decode cX3_unpile 44 = .ok (.getfield 7, 3) := by decide +kernel
theorem dX3_unpile_47 : decode cX3_unpile 47 = .ok (.invokestatic 87, 3) := by decide +kernel
theorem dX3_unpile_50 : decode cX3_unpile 50 = .ok (.aload_n 0, 1) := by decide +kernel
theorem dX3_unpile_51 : decode cX3_unpile 51 = .ok (.getfield 18, 3) := by decide +kernel
theorem dX3_unpile_54 : decode cX3_unpile 54 = .ok (.getfield 78, 3) := by decide +kernel
theorem dX3_unpile_57 : decode cX3_unpile 57 = .ok (.iconst 0, 1) := by decide +kernel
theorem dX3_unpile_58 : decode cX3_unpile 58 = .ok (.putfield 96, 3) := by decide +kernel
theorem dX3_unpile_61 : decode cX3_unpile 61 = .ok (.aload_n 0, 1) := by decide +kernel
theorem dX3_unpile_62 : decode cX3_unpile 62 = .ok (.getfield 18, 3) := by decide +kernel
theorem dX3_unpile_65 : decode cX3_unpile 65 = .ok (.aload_n 0, 1) := by decide +kernel
theorem dX3_unpile_66 : decode cX3_unpile 66 = .ok (.getfield 26, 3) := by decide +kernel
theorem dX3_unpile_69 : decode cX3_unpile 69 = .ok (.aload_n 0, 1) := by decide +kernel
theorem dX3_unpile_70 : decode cX3_unpile 70 = .ok (.getfield 36, 3) := by decide +kernel
theorem dX3_unpile_73 : decode cX3_unpile 73 = .ok (.laload, 1) := by decide +kernel
theorem dX3_unpile_74 : decode cX3_unpile 74 = .ok (.putfield 93, 3) := by decide +kernel
theorem dX3_unpile_77 : decode cX3_unpile 77 = .ok (.aload_n 0, 1) := by decide +kernel
theorem dX3_unpile_78 : decode cX3_unpile 78 = .ok (.getfield 18, 3) := by decide +kernel
theorem dX3_unpile_81 : decode cX3_unpile 81 = .ok (.aload_n 0, 1) := by decide +kernel
theorem dX3_unpile_82 : decode cX3_unpile 82 = .ok (.getfield 29, 3) := by decide +kernel
theorem dX3_unpile_85 : decode cX3_unpile 85 = .ok (.aload_n 0, 1) := by decide +kernel
theorem dX3_unpile_86 : decode cX3_unpile 86 = .ok (.getfield 36, 3) := by decide +kernel
theorem dX3_unpile_89 : decode cX3_unpile 89 = .ok (.laload, 1) := by decide +kernel
theorem dX3_unpile_90 : decode cX3_unpile 90 = .ok (.putfield 57, 3) := by decide +kernel
