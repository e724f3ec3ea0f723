theorem dX3_unpile_93 : decode cX3_unpile 93 = .ok (.iconst 1, 1) := by decide +kernel
theorem dX3_unpile_94 : decode cX3_unpile 94 = .ok (.ireturn, 1) := by decide +kernel
theorem dX4_init_0 : decode cX4_init 0 = .ok (.aload_n 0, 1) := by decide +kernel
theorem dX4_init_1 : decode cX4_init 1 = .ok (.invokespecial 3, 3) := by decide +kernel
theorem dX4_init_4 : decode cX4_init 4 = .ok (.aload_n 0, 1) := by decide +kernel
theorem dX4_init_5 : decode cX4_init 5 = .ok (.bipush 60, 2) := by decide +kernel
theorem dX4_init_7 : decode cX4_init 7 = .ok (.newarray .long, 2) := by decide +kernel
theorem dX4_init_9 : decode cX4_init 9 = .ok (.putfield 9, 3) := by decide +kernel
theorem dX4_init_12 : decode cX4_init 12 = .ok (.aload_n 0, 1) := by decide +kernel
theorem dX4_init_13 : decode cX4_init 13 = .ok (.bipush 60, 2) := by decide +kernel
theorem dX4_init_15 : decode cX4_init 15 = .ok (.newarray .long, 2) := by decide +kernel
theorem dX4_init_17 : decode cX4_init 17 = .ok (.putfield 15, 3) := by decide +kernel
theorem dX4_init_20 : decode cX4_init 20 = .ok (.aload_n 0, 1) := by decide +kernel
theorem dX4_init_21 : decode cX4_init 21 = .ok (.bipush 60, 2) := by decide +kernel
theorem dX4_init_23 : decode cX4_init 23 = .ok (.newarray .long, 2) := by decide +kernel
theorem dX4_init_25 : decode cX4_init 25 = .ok (.putfield 18, 3) := by decide +kernel
theorem dX4_init_28 : decode cX4_init 28 = .ok (.aload_n 0, 1) := by decide +kernel
theorem dX4_init_29 : decode cX4_init 29 = .ok (.bipush 20, 2) := by decide +kernel
theorem dX4_init_31 : decode cX4_init 31 = .ok (.newarray .int, 2) := by decide +kernel
theorem dX4_init_33 : decode cX4_init 33 = .ok (.putfield 21, 3) := by decide +kernel
theorem dX4_init_36 : decode cX4_init 36 = .ok (.aload_n 0, 1) := by decide +kernel
theorem dX4_init_37 : decode cX4_init 37 = .ok (.bipush 20, 2) := by decide +kernel
theorem dX4_init_39 : decode cX4_init 39 = .ok (.newarray .int, 2) := by decide +kernel
theorem dX4_init_41 : decode cX4_init 41 = .ok (.putfield 25, 3) := by decide +kernel
theorem dX4_init_44 : decode cX4_init 44 = .ok (.return_, 1) := by decide +kernel
theorem dX4_addEquation_0 : decode cX4_addEquation 0 = .ok (.aload_n 0, 1) := by decide +kernel
theorem dX4_addEquation_1 : decode cX4_addEquation 1 = .ok (.getfield 28, 3) := by decide +kernel
theorem dX4_addEquation_4 : decode cX4_addEquation 4 = .ok (.bipush 60, 2) := by decide +kernel
theorem dX4_addEquation_6 : decode cX4_addEquation 6 = .ok (.if_icmp .lt 5, 3) := by decide +kernel
theorem dX4_addEquation_9 : decode cX4_addEquation 9 = .ok (.iconst 0, 1) := by decide +kernel
theorem dX4_addEquation_10 : decode cX4_addEquation 10 = .ok (.ireturn, 1) := by decide +kernel
theorem dX4_addEquation_11 : decode cX4_addEquation 11 = .ok (.aload_n 0, 1) := by decide +kernel
theorem dX4_addEquation_12 : decode cX4_addEquation 12 = .ok (.getfield 9, 3) := by decide +kernel
theorem dX4_addEquation_15 : decode cX4_addEquation 15 = .ok (.aload_n 0, 1) := by decide +kernel
theorem dX4_addEquation_16 : decode cX4_addEquation 16 = .ok (.getfield 28, 3) := by decide +kernel
theorem dX4_addEquation_19 : decode cX4_addEquation 19 = .ok (.lload_n 1, 1) := by decide +kernel
theorem dX4_addEquation_20 : decode cX4_addEquation 20 = .ok (.lastore, 1) := by decide +kernel
theorem dX4_addEquation_21 : decode cX4_addEquation 21 = .ok (.aload_n 0, 1) := by decide +kernel
theorem dX4_addEquation_22 : decode cX4_addEquation 22 = .ok (.dup, 1) := by decide +kernel
theorem dX4_addEquation_23 : decode cX4_addEquation 23 = .ok (.getfield 28, 3) := by decide +kernel
theorem dX4_addEquation_26 : decode cX4_addEquation 26 = .ok (.iconst 1, 1) := by decide +kernel
theorem dX4_addEquation_27 : decode cX4_addEquation 27 = .ok (.iadd, 1) := by decide +kernel
theorem dX4_addEquation_28 : decode cX4_addEquation 28 = .ok (.putfield 28, 3) := by decide +kernel
theorem dX4_addEquation_31 : decode cX4_addEquation 31 = .ok (.iconst 1, 1) := by decide +kernel
theorem dX4_addEquation_32 : decode cX4_addEquation 32 = .ok (.ireturn, 1) := by decide +kernel
theorem dX4_addClause_0 : decode cX4_addClause 0 = .ok (.aload_n 0, 1) := by decide +kernel
theorem dX4_addClause_1 : decode cX4_addClause 1 = .ok (.getfield 32, 3) := by decide +kernel
theorem dX4_addClause_4 : decode cX4_addClause 4 = .ok (.bipush 60, 2) := by decide +kernel
theorem dX4_addClause_6 : decode cX4_addClause 6 = .ok (.if_icmp .lt 5, 3) := by decide +kernel
theorem dX4_addClause_9 : decode cX4_addClause 9 = .ok (.iconst 0, 1) := by decide +kernel
theorem dX4_addClause_10 : decode cX4_addClause 10 = .ok (.ireturn, 1) := by decide +kernel
theorem dX4_addClause_11 : decode cX4_addClause 11 = .ok (.aload_n 0, 1) := by decide +kernel
theorem dX4_addClause_12 : decode cX4_addClause 12 = .ok (.getfield 15, 3) := by decide +kernel
theorem dX4_addClause_15 : decode cX4_addClause 15 = .ok (.aload_n 0, 1) := by decide +kernel
theorem dX4_addClause_16 : decode cX4_addClause 16 = .ok (.getfield 32, 3) := by decide +kernel
theorem dX4_addClause_19 : decode cX4_addClause 19 = .ok (.lload_n 1, 1) := by decide +kernel
theorem dX4_addClause_20 : decode cX4_addClause 20 = .ok (.lastore, 1) := by decide +kernel
theorem dX4_addClause_21 : decode cX4_addClause 21 = .ok (.aload_n 0, 1) := by decide +kernel
theorem dX4_addClause_22 : decode cX4_addClause 22 = .ok (.getfield 18, 3) := by decide +kernel
theorem dX4_addClause_25 : decode cX4_addClause 25 = .ok (.aload_n 0, 1) := by decide +kernel
theorem dX4_addClause_26 : decode cX4_addClause 26 = .ok (.getfield 32, 3) := by decide +kernel
theorem dX4_addClause_29 : decode cX4_addClause 29 = .ok (.lload_n 3, 1) := by decide +kernel
theorem dX4_addClause_30 : decode cX4_addClause 30 = .ok (.lastore, 1) := by decide +kernel
theorem dX4_addClause_31 : decode cX4_addClause 31 = .ok (.aload_n 0, 1) := by decide +kernel
theorem dX4_addClause_32 : decode cX4_addClause 32 = .ok (.dup, 1) := by decide +kernel
theorem dX4_addClause_33 : decode cX4_addClause 33 = .ok (.getfield 32, 3) := by decide +kernel
theorem dX4_addClause_36 : decode cX4_addClause 36 = .ok (.iconst 1, 1) := by decide +kernel
theorem dX4_addClause_37 : decode cX4_addClause 37 = .ok (.iadd, 1) := by decide +kernel
theorem dX4_addClause_38 : decode cX4_addClause 38 = .ok (.putfield 32, 3) := by decide +kernel
theorem dX4_addClause_41 : decode cX4_addClause 41 = .ok (.iconst 1, 1) := by decide +kernel
theorem dX4_addClause_42 : decode cX4_addClause 42 = .ok (.ireturn, 1) := by decide +kernel
theorem dX4_addLevel_0 : decode cX4_addLevel 0 = .ok (.aload_n 0, 1) := by decide +kernel
theorem dX4_addLevel_1 : decode cX4_addLevel 1 = .ok (.getfield 35, 3) := by decide +kernel
theorem dX4_addLevel_4 : decode cX4_addLevel 4 = .ok (.bipush 20, 2) := by decide +kernel
theorem dX4_addLevel_6 : decode cX4_addLevel 6 = .ok (.if_icmp .ge 39, 3) := by decide +kernel
theorem dX4_addLevel_9 : decode cX4_addLevel 9 = .ok (.aload_n 0, 1) := by decide +kernel
theorem dX4_addLevel_10 : decode cX4_addLevel 10 = .ok (.getfield 21, 3) := by decide +kernel
theorem dX4_addLevel_13 : decode cX4_addLevel 13 = .ok (.aload_n 0, 1) := by decide +kernel
theorem dX4_addLevel_14 : decode cX4_addLevel 14 = .ok (.getfield 35, 3) := by decide +kernel
theorem dX4_addLevel_17 : decode cX4_addLevel 17 = .ok (.aload_n 0, 1) := by decide +kernel
theorem dX4_addLevel_18 : decode cX4_addLevel 18 = .ok (.getfield 28, 3) := by decide +kernel
theorem dX4_addLevel_21 : decode cX4_addLevel 21 = .ok (.iastore, 1) := by decide +kernel
theorem dX4_addLevel_22 : decode cX4_addLevel 22 = .ok (.aload_n 0, 1) := by decide +kernel
theorem dX4_addLevel_23 : decode cX4_addLevel 23 = .ok (.getfield 25, 3) := by decide +kernel
theorem dX4_addLevel_26 : decode cX4_addLevel 26 = .ok (.aload_n 0, 1) := by decide +kernel
theorem dX4_addLevel_27 : decode cX4_addLevel 27 = .ok (.getfield 35, 3) := by decide +kernel
theorem dX4_addLevel_30 : decode cX4_addLevel 30 = .ok (.aload_n 0, 1) := by decide +kernel
theorem dX4_addLevel_31 : decode cX4_addLevel 31 = .ok (.getfield 32, 3) := by decide +kernel
theorem dX4_addLevel_34 : decode cX4_addLevel 34 = .ok (.iastore, 1) := by decide +kernel
theorem dX4_addLevel_35 : decode cX4_addLevel 35 = .ok (.aload_n 0, 1) := by decide +kernel
theorem dX4_addLevel_36 : decode cX4_addLevel 36 = .ok (.dup, 1) := by decide +kernel
theorem dX4_addLevel_37 : decode cX4_addLevel 37 = .ok (.getfield 35, 3) := by decide +kernel
theorem dX4_addLevel_40 : decode cX4_addLevel 40 = .ok (.iconst 1, 1) := by decide +kernel
theorem dX4_addLevel_41 : decode cX4_addLevel 41 = .ok (.iadd, 1) := by decide +kernel
theorem dX4_addLevel_42 : decode cX4_addLevel 42 = .ok (.putfield 35, 3) := by decide +kernel
theorem dX4_addLevel_45 : decode cX4_addLevel 45 = .ok (.return_, 1) := by decide +kernel
set_option maxRecDepth 20000 in
theorem ggX4_takeBackTo_X4_cutTo : GoodIn wsX4_takeBackTo wsX4_cutTo := goodIn_r _ [8, 9, 10, 11, 12, 13, 14, 15, 16, 17, 18] (by decide +kernel) (by decide +kernel)
set_option maxRecDepth 20000 in
theorem gX4_takeBackTo_X4_cutTo : GoodIn wsX4_takeBackTo (wsV RX4 38 RX4 yX4_cutTo wsX4_cutTo) := goodIn_app (goodIn_of _ (by decide +kernel)) ggX4_takeBackTo_X4_cutTo
theorem dX4_takeBackTo_0 : decode cX4_takeBackTo 0 = .ok (.iload_n 1, 1) := by decide +kernel
theorem dX4_takeBackTo_1 : decode cX4_takeBackTo 1 = .ok (.ifCond .lt 32, 3) := by decide +kernel
theorem dX4_takeBackTo_4 : decode cX4_takeBackTo 4 = .ok (.iload_n 1, 1) := by decide +kernel
theorem dX4_takeBackTo_5 : decode cX4_takeBackTo 5 = .ok (.aload_n 0, 1) := by decide +kernel
theorem dX4_takeBackTo_6 : decode cX4_takeBackTo 6 = .ok (.getfield 35, 3) := by decide +kernel
theorem dX4_takeBackTo_9 : decode cX4_takeBackTo 9 = .ok (.if_icmp .ge 24, 3) := by decide +kernel
theorem dX4_takeBackTo_12 : decode cX4_takeBackTo 12 = .ok (.aload_n 0, 1) := by decide +kernel
theorem dX4_takeBackTo_13 : decode cX4_takeBackTo 13 = .ok (.aload_n 0, 1) := by decide +kernel
theorem dX4_takeBackTo_14 : decode cX4_takeBackTo 14 = .ok (.getfield 21, 3) := by decide +kernel
theorem dX4_takeBackTo_17 : decode cX4_takeBackTo 17 = .ok (.iload_n 1, 1) := by decide +kernel
theorem dX4_takeBackTo_18 : decode cX4_takeBackTo 18 = .ok (.iaload, 1) := by decide +kernel
theorem dX4_takeBackTo_19 : decode cX4_takeBackTo 19 = .ok (.aload_n 0, 1) := by decide +kernel
theorem dX4_takeBackTo_20 : decode cX4_takeBackTo 20 = .ok (.getfield 25, 3) := by decide +kernel
theorem dX4_takeBackTo_23 : decode cX4_takeBackTo 23 = .ok (.iload_n 1, 1) := by decide +kernel
theorem dX4_takeBackTo_24 : decode cX4_takeBackTo 24 = .ok (.iaload, 1) := by decide +kernel
theorem dX4_takeBackTo_25 : decode cX4_takeBackTo 25 = .ok (.invokevirtual 38, 3) := by decide +kernel
theorem dX4_takeBackTo_28 : decode cX4_takeBackTo 28 = .ok (.aload_n 0, 1) := by decide +kernel
theorem dX4_takeBackTo_29 : decode cX4_takeBackTo 29 = .ok (.iload_n 1, 1) := by decide +kernel
theorem dX4_takeBackTo_30 : decode cX4_takeBackTo 30 = .ok (.putfield 35, 3) := by decide +kernel
theorem dX4_takeBackTo_33 : decode cX4_takeBackTo 33 = .ok (.return_, 1) := by decide +kernel
theorem dX4_cutTo_0 : decode cX4_cutTo 0 = .ok (.aload_n 0, 1) := by decide +kernel
theorem dX4_cutTo_1 : decode cX4_cutTo 1 = .ok (.iload_n 1, 1) := by decide +kernel
theorem dX4_cutTo_2 : decode cX4_cutTo 2 = .ok (.putfield 28, 3) := by decide +kernel
theorem dX4_cutTo_5 : decode cX4_cutTo 5 = .ok (.aload_n 0, 1) := by decide +kernel
theorem dX4_cutTo_6 : decode cX4_cutTo 6 = .ok (.iload_n 2, 1) := by decide +kernel
theorem dX4_cutTo_7 : decode cX4_cutTo 7 = .ok (.putfield 32, 3) := by decide +kernel
theorem dX4_cutTo_10 : decode cX4_cutTo 10 = .ok (.return_, 1) := by decide +kernel
set_option maxRecDepth 20000 in
theorem ggX5_init_X2_init : GoodIn wsX5_init wsX2_init := goodIn_r _ [11, 12, 2, 3, 13, 14, 15, 20, 21, 22] (by decide +kernel) (by decide +kernel)
set_option maxRecDepth 20000 in
theorem gX5_init_X2_init : GoodIn wsX5_init (wsX2_init) := ggX5_init_X2_init
theorem dX5_init_0 : decode cX5_init 0 = .ok (.aload_n 0, 1) := by decide +kernel
theorem dX5_init_1 : decode cX5_init 1 = .ok (.invokespecial 3, 3) := by decide +kernel
theorem dX5_init_4 : decode cX5_init 4 = .ok (.aload_n 0, 1) := by decide +kernel
theorem dX5_init_5 : decode cX5_init 5 = .ok (.iload_n 1, 1) := by decide +kernel
theorem dX5_init_6 : decode cX5_init 6 = .ok (.putfield 9, 3) := by decide +kernel
theorem dX5_init_9 : decode cX5_init 9 = .ok (.aload_n 0, 1) := by decide +kernel
theorem dX5_init_10 : decode cX5_init 10 = .ok (.new 15, 3) := by decide +kernel
theorem dX5_init_13 : decode cX5_init 13 = .ok (.dup, 1) := by decide +kernel
theorem dX5_init_14 : decode cX5_init 14 = .ok (.iload_n 1, 1) := by decide +kernel
theorem dX5_init_15 : decode cX5_init 15 = .ok (.invokespecial 17, 3) := by decide +kernel
theorem dX5_init_18 : decode cX5_init 18 = .ok (.putfield 20, 3) := by decide +kernel
theorem dX5_init_21 : decode cX5_init 21 = .ok (.return_, 1) := by decide +kernel
set_option maxRecDepth 20000 in
theorem ggX5_begin_X2_copyFrom : GoodIn wsX5_begin wsX2_copyFrom := goodIn_r _ [8, 9, 10, 11, 12, 13, 14, 15, 16, 17, 18, 19, 24, 25, 26] (by decide +kernel) (by decide +kernel)
set_option maxRecDepth 20000 in
theorem gX5_begin_X2_copyFrom : GoodIn wsX5_begin (wsV RX5 24 RX2 yX2_copyFrom wsX2_copyFrom) := goodIn_app (goodIn_of _ (by decide +kernel)) ggX5_begin_X2_copyFrom
theorem dX5_begin_0 : decode cX5_begin 0 = .ok (.aload_n 0, 1) := by decide +kernel
theorem dX5_begin_1 : decode cX5_begin 1 = .ok (.getfield 20, 3) := by decide +kernel
theorem dX5_begin_4 : decode cX5_begin 4 = .ok (.aload_n 1, 1) := by decide +kernel
theorem dX5_begin_5 : decode cX5_begin 5 = .ok (.invokevirtual 24, 3) := by decide +kernel
theorem dX5_begin_8 : decode cX5_begin 8 = .ok (.aload_n 0, 1) := by decide +kernel
theorem dX5_begin_9 : decode cX5_begin 9 = .ok (.lconst 0, 1) := by decide +kernel
theorem dX5_begin_10 : decode cX5_begin 10 = .ok (.putfield 28, 3) := by decide +kernel
theorem dX5_begin_13 : decode cX5_begin 13 = .ok (.aload_n 0, 1) := by decide +kernel
theorem dX5_begin_14 : decode cX5_begin 14 = .ok (.lconst 0, 1) := by decide +kernel
theorem dX5_begin_15 : decode cX5_begin 15 = .ok (.putfield 32, 3) := by decide +kernel
theorem dX5_begin_18 : decode cX5_begin 18 = .ok (.return_, 1) := by decide +kernel
set_option maxRecDepth 20000 in
theorem ggX5_take_X2_settle : GoodIn wsX5_take wsX2_settle := goodIn_r _ [8, 9, 10, 11, 12, 13, 14, 7, 15, 16, 17, 18, 19, 20, 21, 22, 23, 24, 29, 30, 31] (by decide +kernel) (by decide +kernel)
set_option maxRecDepth 20000 in
theorem gX5_take_X2_settle : GoodIn wsX5_take (wsV RX5 35 RX2 yX2_settle wsX2_settle) := goodIn_app (goodIn_of _ (by decide +kernel)) ggX5_take_X2_settle
theorem dX5_take_0 : decode cX5_take 0 = .ok (.lconst 1, 1) := by decide +kernel
theorem dX5_take_1 : decode cX5_take 1 = .ok (.iload_n 1, 1) := by decide +kernel
theorem dX5_take_2 : decode cX5_take 2 = .ok (.lshl, 1) := by decide +kernel
theorem dX5_take_3 : decode cX5_take 3 = .ok (.lstore_n 3, 1) := by decide +kernel
theorem dX5_take_4 : decode cX5_take 4 = .ok (.aload_n 0, 1) := by decide +kernel
theorem dX5_take_5 : decode cX5_take 5 = .ok (.dup, 1) := by decide +kernel
theorem dX5_take_6 : decode cX5_take 6 = .ok (.getfield 28, 3) := by decide +kernel
theorem dX5_take_9 : decode cX5_take 9 = .ok (.lload_n 3, 1) := by decide +kernel
theorem dX5_take_10 : decode cX5_take 10 = .ok (.lor, 1) := by decide +kernel
theorem dX5_take_11 : decode cX5_take 11 = .ok (.putfield 28, 3) := by decide +kernel
theorem dX5_take_14 : decode cX5_take 14 = .ok (.iload_n 2, 1) := by decide +kernel
theorem dX5_take_15 : decode cX5_take 15 = .ok (.ifCond .eq 13, 3) := by decide +kernel
theorem dX5_take_18 : decode cX5_take 18 = .ok (.aload_n 0, 1) := by decide +kernel
theorem dX5_take_19 : decode cX5_take 19 = .ok (.dup, 1) := by decide +kernel
theorem dX5_take_20 : decode cX5_take 20 = .ok (.getfield 32, 3) := by decide +kernel
theorem dX5_take_23 : decode cX5_take 23 = .ok (.lload_n 3, 1) := by decide +kernel
theorem dX5_take_24 : decode cX5_take 24 = .ok (.lor, 1) := by decide +kernel
theorem dX5_take_25 : decode cX5_take 25 = .ok (.putfield 32, 3) := by decide +kernel
theorem dX5_take_28 : decode cX5_take 28 = .ok (.aload_n 0, 1) := by decide +kernel
theorem dX5_take_29 : decode cX5_take 29 = .ok (.getfield 20, 3) := by decide +kernel
theorem dX5_take_32 : decode cX5_take 32 = .ok (.iload_n 1, 1) := by decide +kernel
theorem dX5_take_33 : decode cX5_take 33 = .ok (.iload_n 2, 1) := by decide +kernel
theorem dX5_take_34 : decode cX5_take 34 = .ok (.invokevirtual 35, 3) := by decide +kernel
theorem dX5_take_37 : decode cX5_take 37 = .ok (.return_, 1) := by decide +kernel
set_option maxRecDepth 20000 in
theorem ggX5_takeAll_X5_take : GoodIn wsX5_takeAll wsX5_take := goodIn_r _ [6, 7, 8, 9, 10, 11, 12, 13, 14, 15, 16, 17, 18, 19, 20, 21, 22, 23, 24, 25, 26, 27, 28, 29, 30, 31, 32, 33, 34, 35, 36, 37] (by decide +kernel) (by decide +kernel)
set_option maxRecDepth 20000 in
theorem gX5_takeAll_X5_take : GoodIn wsX5_takeAll (wsV RX5 39 RX5 yX5_take wsX5_take) := goodIn_app (goodIn_of _ (by decide +kernel)) ggX5_takeAll_X5_take
theorem dX5_takeAll_0 : decode cX5_takeAll 0 = .ok (.iconst 0, 1) := by decide +kernel
theorem dX5_takeAll_1 : decode cX5_takeAll 1 = .ok (.istore 5, 2) := by decide +kernel
theorem dX5_takeAll_3 : decode cX5_takeAll 3 = .ok (.iload 5, 2) := by decide +kernel
theorem dX5_takeAll_5 : decode cX5_takeAll 5 = .ok (.aload_n 0, 1) := by decide +kernel
theorem dX5_takeAll_6 : decode cX5_takeAll 6 = .ok (.getfield 9, 3) := by decide +kernel
theorem dX5_takeAll_9 : decode cX5_takeAll 9 = .ok (.if_icmp .ge 44, 3) := by decide +kernel
theorem dX5_takeAll_12 : decode cX5_takeAll 12 = .ok (.lload_n 1, 1) := by decide +kernel
theorem dX5_takeAll_13 : decode cX5_takeAll 13 = .ok (.lload_n 3, 1) := by decide +kernel
theorem dX5_takeAll_14 : decode cX5_takeAll 14 = .ok (.lor, 1) := by decide +kernel
theorem dX5_takeAll_15 : decode cX5_takeAll 15 = .ok (.iload 5, 2) := by decide +kernel
theorem dX5_takeAll_17 : decode cX5_takeAll 17 = .ok (.lushr, 1) := by decide +kernel
theorem dX5_takeAll_18 : decode cX5_takeAll 18 = .ok (.lconst 1, 1) := by decide +kernel
theorem dX5_takeAll_19 : decode cX5_takeAll 19 = .ok (.land, 1) := by decide +kernel
theorem dX5_takeAll_20 : decode cX5_takeAll 20 = .ok (.lconst 0, 1) := by decide +kernel
theorem dX5_takeAll_21 : decode cX5_takeAll 21 = .ok (.lcmp, 1) := by decide +kernel
theorem dX5_takeAll_22 : decode cX5_takeAll 22 = .ok (.ifCond .eq 25, 3) := by decide +kernel
theorem dX5_takeAll_25 : decode cX5_takeAll 25 = .ok (.aload_n 0, 1) := by decide +kernel
theorem dX5_takeAll_26 : decode cX5_takeAll 26 = .ok (.iload 5, 2) := by decide +kernel
theorem dX5_takeAll_28 : decode cX5_takeAll 28 = .ok (.lload_n 1, 1) := by decide +kernel
theorem dX5_takeAll_29 : decode cX5_takeAll 29 = .ok (.iload 5, 2) := by decide +kernel
theorem dX5_takeAll_31 : decode cX5_takeAll 31 = .ok (.lushr, 1) := by decide +kernel
theorem dX5_takeAll_32 : decode cX5_takeAll 32 = .ok (.lconst 1, 1) := by decide +kernel
theorem dX5_takeAll_33 : decode cX5_takeAll 33 = .ok (.land, 1) := by decide +kernel
theorem dX5_takeAll_34 : decode cX5_takeAll 34 = .ok (.lconst 0, 1) := by decide +kernel
theorem dX5_takeAll_35 : decode cX5_takeAll 35 = .ok (.lcmp, 1) := by decide +kernel
theorem dX5_takeAll_36 : decode cX5_takeAll 36 = .ok (.ifCond .eq 7, 3) := by decide +kernel
theorem dX5_takeAll_39 : decode cX5_takeAll 39 = .ok (.iconst 1, 1) := by decide +kernel
theorem dX5_takeAll_40 : decode cX5_takeAll 40 = .ok (.goto 4, 3) := by decide +kernel
theorem dX5_takeAll_43 : decode cX5_takeAll 43 = .ok (.iconst 0, 1) := by decide +kernel
theorem dX5_takeAll_44 : decode cX5_takeAll 44 = .ok (.invokevirtual 39, 3) := by decide +kernel
theorem dX5_takeAll_47 : decode cX5_takeAll 47 = .ok (.iinc 5 1, 3) := by decide +kernel
theorem dX5_takeAll_50 : decode cX5_takeAll 50 = .ok (.goto (-47), 3) := by decide +kernel
theorem dX5_takeAll_53 : decode cX5_takeAll 53 = .ok (.return_, 1) := by decide +kernel
set_option maxRecDepth 20000 in
theorem ggX5_takeByNumber_X5_hasOneValue : GoodIn wsX5_takeByNumber wsX5_hasOneValue := goodIn_r _ [9, 2, 3, 10, 37, 38, 39, 40, 41, 42, 43] (by decide +kernel) (by decide +kernel)
set_option maxRecDepth 20000 in
theorem gX5_takeByNumber_X5_hasOneValue : GoodIn wsX5_takeByNumber (wsV RX5 42 RX5 yX5_hasOneValue wsX5_hasOneValue) := goodIn_app (goodIn_of _ (by decide +kernel)) ggX5_takeByNumber_X5_hasOneValue
set_option maxRecDepth 20000 in
theorem ggX5_takeByNumber_X5_take : GoodIn wsX5_takeByNumber wsX5_take := goodIn_r _ [14, 15, 4, 2, 16, 17, 18, 19, 20, 21, 22, 23, 24, 25, 26, 27, 28, 29, 30, 31, 32, 33, 34, 35, 36, 37, 38, 39, 40, 41, 42, 43] (by decide +kernel) (by decide +kernel)
set_option maxRecDepth 20000 in
theorem gX5_takeByNumber_X5_take : GoodIn wsX5_takeByNumber (wsV RX5 39 RX5 yX5_take wsX5_take) := goodIn_app (goodIn_of _ (by decide +kernel)) ggX5_takeByNumber_X5_take
theorem dX5_takeByNumber_0 : decode cX5_takeByNumber 0 = .ok (.iload_n 3, 1) := by decide +kernel
theorem dX5_takeByNumber_1 : decode cX5_takeByNumber 1 = .ok (.istore 4, 2) := by decide +kernel
theorem dX5_takeByNumber_3 : decode cX5_takeByNumber 3 = .ok (.iconst 0, 1) := by decide +kernel
theorem dX5_takeByNumber_4 : decode cX5_takeByNumber 4 = .ok (.istore 5, 2) := by decide +kernel
theorem dX5_takeByNumber_6 : decode cX5_takeByNumber 6 = .ok (.iload 5, 2) := by decide +kernel
theorem dX5_takeByNumber_8 : decode cX5_takeByNumber 8 = .ok (.aload_n 0, 1) := by decide +kernel
theorem dX5_takeByNumber_9 : decode cX5_takeByNumber 9 = .ok (.getfield 9, 3) := by decide +kernel
theorem dX5_takeByNumber_12 : decode cX5_takeByNumber 12 = .ok (.if_icmp .ge 75, 3) := by decide +kernel
theorem dX5_takeByNumber_15 : decode cX5_takeByNumber 15 = .ok (.aload_n 0, 1) := by decide +kernel
theorem dX5_takeByNumber_16 : decode cX5_takeByNumber 16 = .ok (.iload 5, 2) := by decide +kernel
theorem dX5_takeByNumber_18 : decode cX5_takeByNumber 18 = .ok (.invokevirtual 42, 3) := by decide +kernel
theorem dX5_takeByNumber_21 : decode cX5_takeByNumber 21 = .ok (.ifCond .eq 35, 3) := by decide +kernel
theorem dX5_takeByNumber_24 : decode cX5_takeByNumber 24 = .ok (.aload_n 0, 1) := by decide +kernel
theorem dX5_takeByNumber_25 : decode cX5_takeByNumber 25 = .ok (.iload 5, 2) := by decide +kernel
theorem dX5_takeByNumber_27 : decode cX5_takeByNumber 27 = .ok (.aload_n 0, 1) := by decide +kernel
theorem dX5_takeByNumber_28 : decode cX5_takeByNumber 28 = .ok (.getfield 20, 3) := by decide +kernel
theorem dX5_takeByNumber_31 : decode cX5_takeByNumber 31 = .ok (.getfield 46, 3) := by decide +kernel
theorem dX5_takeByNumber_34 : decode cX5_takeByNumber 34 = .ok (.iload 5, 2) := by decide +kernel
theorem dX5_takeByNumber_36 : decode cX5_takeByNumber 36 = .ok (.laload, 1) := by decide +kernel
theorem dX5_takeByNumber_37 : decode cX5_takeByNumber 37 = .ok (.lconst 1, 1) := by decide +kernel
theorem dX5_takeByNumber_38 : decode cX5_takeByNumber 38 = .ok (.iload 5, 2) := by decide +kernel
theorem dX5_takeByNumber_40 : decode cX5_takeByNumber 40 = .ok (.lshl, 1) := by decide +kernel
theorem dX5_takeByNumber_41 : decode cX5_takeByNumber 41 = .ok (.lcmp, 1) := by decide +kernel
theorem dX5_takeByNumber_42 : decode cX5_takeByNumber 42 = .ok (.ifCond .eq 7, 3) := by decide +kernel
theorem dX5_takeByNumber_45 : decode cX5_takeByNumber 45 = .ok (.iconst 1, 1) := by decide +kernel
theorem dX5_takeByNumber_46 : decode cX5_takeByNumber 46 = .ok (.goto 4, 3) := by decide +kernel
theorem dX5_takeByNumber_49 : decode cX5_takeByNumber 49 = .ok (.iconst 0, 1) := by decide +kernel
theorem dX5_takeByNumber_50 : decode cX5_takeByNumber 50 = .ok (.invokevirtual 39, 3) := by decide +kernel
theorem dX5_takeByNumber_53 : decode cX5_takeByNumber 53 = .ok (.goto 28, 3) := by decide +kernel
theorem dX5_takeByNumber_56 : decode cX5_takeByNumber 56 = .ok (.iinc 4 (-1), 3) := by decide +kernel
theorem dX5_takeByNumber_59 : decode cX5_takeByNumber 59 = .ok (.aload_n 0, 1) := by decide +kernel
theorem dX5_takeByNumber_60 : decode cX5_takeByNumber 60 = .ok (.iload 5, 2) := by decide +kernel
theorem dX5_takeByNumber_62 : decode cX5_takeByNumber 62 = .ok (.lload_n 1, 1) := by decide +kernel
theorem dX5_takeByNumber_63 : decode cX5_takeByNumber 63 = .ok (.iload 4, 2) := by decide +kernel
theorem dX5_takeByNumber_65 : decode cX5_takeByNumber 65 = .ok (.lushr, 1) := by decide +kernel
theorem dX5_takeByNumber_66 : decode cX5_takeByNumber 66 = .ok (.lconst 1, 1) := by decide +kernel
theorem dX5_takeByNumber_67 : decode cX5_takeByNumber 67 = .ok (.land, 1) := by decide +kernel
theorem dX5_takeByNumber_68 : decode cX5_takeByNumber 68 = .ok (.lconst 0, 1) := by decide +kernel
theorem dX5_takeByNumber_69 : decode cX5_takeByNumber 69 = .ok (.lcmp, 1) := by decide +kernel
theorem dX5_takeByNumber_70 : decode cX5_takeByNumber 70 = .ok (.ifCond .eq 7, 3) := by decide +kernel
theorem dX5_takeByNumber_73 : decode cX5_takeByNumber 73 = .ok (.iconst 1, 1) := by decide +kernel
theorem dX5_takeByNumber_74 : decode cX5_takeByNumber 74 = .ok (.goto 4, 3) := by decide +kernel
theorem dX5_takeByNumber_77 : decode cX5_takeByNumber 77 = .ok (.iconst 0, 1) := by decide +kernel
theorem dX5_takeByNumber_78 : decode cX5_takeByNumber 78 = .ok (.invokevirtual 39, 3) := by decide +kernel
theorem dX5_takeByNumber_81 : decode cX5_takeByNumber 81 = .ok (.iinc 5 1, 3) := by decide +kernel
theorem dX5_takeByNumber_84 : decode cX5_takeByNumber 84 = .ok (.goto (-78), 3) := by decide +kernel
theorem dX5_takeByNumber_87 : decode cX5_takeByNumber 87 = .ok (.aload_n 0, 1) := by decide +kernel
theorem dX5_takeByNumber_88 : decode cX5_takeByNumber 88 = .ok (.getfield 32, 3) := by decide +kernel
theorem dX5_takeByNumber_91 : decode cX5_takeByNumber 91 = .ok (.lreturn, 1) := by decide +kernel
set_option maxRecDepth 20000 in
theorem ggX5_spread_X5_takeFromRows : GoodIn wsX5_spread wsX5_takeFromRows := goodIn_r _ [8, 9, 1, 10, 11, 12, 13, 7, 14, 15, 16, 17, 18, 19, 3, 20, 21, 22, 23, 24, 25, 26, 27, 28, 29, 30, 31, 32, 33, 34, 35, 36, 37, 38, 39, 40, 41, 54, 55, 56, 57, 58, 59, 60] (by decide +kernel) (by decide +kernel)
set_option maxRecDepth 20000 in
theorem gX5_spread_X5_takeFromRows : GoodIn wsX5_spread (wsV RX5 54 RX5 yX5_takeFromRows wsX5_takeFromRows) := goodIn_app (goodIn_of _ (by decide +kernel)) ggX5_spread_X5_takeFromRows
set_option maxRecDepth 20000 in
theorem ggX5_spread_X5_takeFromClauses : GoodIn wsX5_spread wsX5_takeFromClauses := goodIn_r _ [45, 46, 47, 48, 20, 3, 49, 1, 2, 50, 51, 52, 53, 36, 37, 38, 39, 40, 41, 16, 17, 18, 7, 19, 21, 22, 23, 24, 25, 26, 27, 28, 29, 30, 31, 32, 33, 34, 35, 61, 62, 63, 64, 65, 66, 67, 68, 54, 55, 56, 57, 58, 59, 60] (by decide +kernel) (by decide +kernel)
set_option maxRecDepth 20000 in
theorem gX5_spread_X5_takeFromClauses : GoodIn wsX5_spread (wsV RX5 57 RX5 yX5_takeFromClauses wsX5_takeFromClauses) := goodIn_app (goodIn_of _ (by decide +kernel)) ggX5_spread_X5_takeFromClauses
theorem dX5_spread_0 : decode cX5_spread 0 = .ok (.iconst 1, 1) := by decide +kernel
theorem dX5_spread_1 : decode cX5_spread 1 = .ok (.istore_n 2, 1) := by decide +kernel
theorem dX5_spread_2 : decode cX5_spread 2 = .ok (.iconst 0, 1) := by decide +kernel
theorem dX5_spread_3 : decode cX5_spread 3 = .ok (.istore_n 3, 1) := by decide +kernel
theorem dX5_spread_4 : decode cX5_spread 4 = .ok (.iload_n 2, 1) := by decide +kernel
theorem dX5_spread_5 : decode cX5_spread 5 = .ok (.ifCond .eq 61, 3) := by decide +kernel
theorem dX5_spread_8 : decode cX5_spread 8 = .ok (.aload_n 0, 1) := by decide +kernel
theorem dX5_spread_9 : decode cX5_spread 9 = .ok (.getfield 20, 3) := by decide +kernel
theorem dX5_spread_12 : decode cX5_spread 12 = .ok (.getfield 50, 3) := by decide +kernel
theorem dX5_spread_15 : decode cX5_spread 15 = .ok (.ifCond .ne 51, 3) := by decide +kernel
theorem dX5_spread_18 : decode cX5_spread 18 = .ok (.iload_n 3, 1) := by decide +kernel
theorem dX5_spread_19 : decode cX5_spread 19 = .ok (.bipush 40, 2) := by decide +kernel
theorem dX5_spread_21 : decode cX5_spread 21 = .ok (.if_icmp .gt 45, 3) := by decide +kernel
theorem dX5_spread_24 : decode cX5_spread 24 = .ok (.aload_n 0, 1) := by decide +kernel
theorem dX5_spread_25 : decode cX5_spread 25 = .ok (.invokevirtual 54, 3) := by decide +kernel
theorem dX5_spread_28 : decode cX5_spread 28 = .ok (.aload_n 0, 1) := by decide +kernel
theorem dX5_spread_29 : decode cX5_spread 29 = .ok (.getfield 28, 3) := by decide +kernel
theorem dX5_spread_32 : decode cX5_spread 32 = .ok (.lstore 4, 2) := by decide +kernel
theorem dX5_spread_34 : decode cX5_spread 34 = .ok (.aload_n 0, 1) := by decide +kernel
theorem dX5_spread_35 : decode cX5_spread 35 = .ok (.aload_n 1, 1) := by decide +kernel
theorem dX5_spread_36 : decode cX5_spread 36 = .ok (.invokevirtual 57, 3) := by decide +kernel
theorem dX5_spread_39 : decode cX5_spread 39 = .ok (.ifCond .ne 5, 3) := by decide +kernel
theorem dX5_spread_42 : decode cX5_spread 42 = .ok (.iconst 0, 1) := by decide +kernel
theorem dX5_spread_43 : decode cX5_spread 43 = .ok (.ireturn, 1) := by decide +kernel
theorem dX5_spread_44 : decode cX5_spread 44 = .ok (.aload_n 0, 1) := by decide +kernel
theorem dX5_spread_45 : decode cX5_spread 45 = .ok (.getfield 28, 3) := by decide +kernel
theorem dX5_spread_48 : decode cX5_spread 48 = .ok (.lload 4, 2) := by decide +kernel
theorem dX5_spread_50 : decode cX5_spread 50 = .ok (.lcmp, 1) := by decide +kernel
theorem dX5_spread_51 : decode cX5_spread 51 = .ok (.ifCond .eq 7, 3) := by decide +kernel
theorem dX5_spread_54 : decode cX5_spread 54 = .ok (.iconst 1, 1) := by decide +kernel
theorem dX5_spread_55 : decode cX5_spread 55 = .ok (.goto 4, 3) := by decide +kernel
theorem dX5_spread_58 : decode cX5_spread 58 = .ok (.iconst 0, 1) := by decide +kernel
theorem dX5_spread_59 : decode cX5_spread 59 = .ok (.istore_n 2, 1) := by decide +kernel
theorem dX5_spread_60 : decode cX5_spread 60 = .ok (.iinc 3 1, 3) := by decide +kernel
theorem dX5_spread_63 : decode cX5_spread 63 = .ok (.goto (-59), 3) := by decide +kernel
theorem dX5_spread_66 : decode cX5_spread 66 = .ok (.aload_n 0, 1) := by decide +kernel
theorem dX5_spread_67 : decode cX5_spread 67 = .ok (.getfield 20, 3) := by decide +kernel
theorem dX5_spread_70 : decode cX5_spread 70 = .ok (.getfield 50, 3) := by decide +kernel
theorem dX5_spread_73 : decode cX5_spread 73 = .ok (.ifCond .ne 7, 3) := by decide +kernel
theorem dX5_spread_76 : decode cX5_spread 76 = .ok (.iconst 1, 1) := by decide +kernel
theorem dX5_spread_77 : decode cX5_spread 77 = .ok (.goto 4, 3) := by decide +kernel
theorem dX5_spread_80 : decode cX5_spread 80 = .ok (.iconst 0, 1) := by decide +kernel
theorem dX5_spread_81 : decode cX5_spread 81 = .ok (.ireturn, 1) := by decide +kernel
set_option maxRecDepth 20000 in
theorem ggX5_isFull_X5_leastOpen : GoodIn wsX5_isFull wsX5_leastOpen := goodIn_r _ [6, 7, 8, 9, 10, 11, 12, 13, 14, 15, 16, 17, 18, 19, 20, 21, 22] (by decide +kernel) (by decide +kernel)
set_option maxRecDepth 20000 in
theorem gX5_isFull_X5_leastOpen : GoodIn wsX5_isFull (wsV RX5 61 RX5 yX5_leastOpen wsX5_leastOpen) := goodIn_app (goodIn_of _ (by decide +kernel)) ggX5_isFull_X5_leastOpen
theorem dX5_isFull_0 : decode cX5_isFull 0 = .ok (.aload_n 0, 1) := by decide +kernel
theorem dX5_isFull_1 : decode cX5_isFull 1 = .ok (.invokevirtual 61, 3) := by decide +kernel
theorem dX5_isFull_4 : decode cX5_isFull 4 = .ok (.aload_n 0, 1) := by decide +kernel
theorem dX5_isFull_5 : decode cX5_isFull 5 = .ok (.getfield 9, 3) := by decide +kernel
theorem dX5_isFull_8 : decode cX5_isFull 8 = .ok (.if_icmp .lt 7, 3) := by decide +kernel
theorem dX5_isFull_11 : decode cX5_isFull 11 = .ok (.iconst 1, 1) := by decide +kernel
theorem dX5_isFull_12 : decode cX5_isFull 12 = .ok (.goto 4, 3) := by decide +kernel
theorem dX5_isFull_15 : decode cX5_isFull 15 = .ok (.iconst 0, 1) := by decide +kernel
theorem dX5_isFull_16 : decode cX5_isFull 16 = .ok (.ireturn, 1) := by decide +kernel
set_option maxRecDepth 20000 in
theorem ggX5_leastOpen_X7_leastPlace : GoodIn wsX5_leastOpen wsX7_leastPlace := goodIn_r _ [5, 6, 7, 8, 9, 10, 11, 12] (by decide +kernel) (by decide +kernel)
set_option maxRecDepth 20000 in
theorem gX5_leastOpen_X7_leastPlace_n67 : GoodIn wsX5_leastOpen (wsX7_leastPlace) := ggX5_leastOpen_X7_leastPlace
theorem dX5_leastOpen_0 : decode cX5_leastOpen 0 = .ok (.aload_n 0, 1) := by decide +kernel
theorem dX5_leastOpen_1 : decode cX5_leastOpen 1 = .ok (.getfield 28, 3) := by decide +kernel
theorem dX5_leastOpen_4 : decode cX5_leastOpen 4 = .ok (.ldc2_w 65, 3) := by decide +kernel
theorem dX5_leastOpen_7 : decode cX5_leastOpen 7 = .ok (.lxor, 1) := by decide +kernel
theorem dX5_leastOpen_8 : decode cX5_leastOpen 8 = .ok (.invokestatic 67, 3) := by decide +kernel
theorem dX5_leastOpen_11 : decode cX5_leastOpen 11 = .ok (.ireturn, 1) := by decide +kernel
theorem dX5_hasOneValue_0 : decode cX5_hasOneValue 0 = .ok (.aload_n 0, 1) := by decide +kernel
theorem dX5_hasOneValue_1 : decode cX5_hasOneValue 1 = .ok (.getfield 20, 3) := by decide +kernel
theorem dX5_hasOneValue_4 : decode cX5_hasOneValue 4 = .ok (.getfield 46, 3) := by decide +kernel
theorem dX5_hasOneValue_7 : decode cX5_hasOneValue 7 = .ok (.iload_n 1, 1) := by decide +kernel
theorem dX5_hasOneValue_8 : decode cX5_hasOneValue 8 = .ok (.laload, 1) := by decide +kernel
theorem dX5_hasOneValue_9 : decode cX5_hasOneValue 9 = .ok (.ldc2_w 71, 3) := by decide +kernel
theorem dX5_hasOneValue_12 : decode cX5_hasOneValue 12 = .ok (.land, 1) := by decide +kernel
theorem dX5_hasOneValue_13 : decode cX5_hasOneValue 13 = .ok (.lconst 1, 1) := by decide +kernel
theorem dX5_hasOneValue_14 : decode cX5_hasOneValue 14 = .ok (.iload_n 1, 1) := by decide +kernel
theorem dX5_hasOneValue_15 : decode cX5_hasOneValue 15 = .ok (.lshl, 1) := by decide +kernel
theorem dX5_hasOneValue_16 : decode cX5_hasOneValue 16 = .ok (.lcmp, 1) := by decide +kernel
theorem dX5_hasOneValue_17 : decode cX5_hasOneValue 17 = .ok (.ifCond .ne 7, 3) := by decide +kernel
theorem dX5_hasOneValue_20 : decode cX5_hasOneValue 20 = .ok (.iconst 1, 1) := by decide +kernel
theorem dX5_hasOneValue_21 : decode cX5_hasOneValue 21 = .ok (.goto 4, 3) := by decide +kernel
theorem dX5_hasOneValue_24 : decode cX5_hasOneValue 24 = .ok (.iconst 0, 1) := by decide +kernel
theorem dX5_hasOneValue_25 : decode cX5_hasOneValue 25 = .ok (.ireturn, 1) := by decide +kernel
set_option maxRecDepth 20000 in
theorem ggX5_takeFromRows_X5_hasOneValue : GoodIn wsX5_takeFromRows wsX5_hasOneValue := goodIn_r _ [8, 2, 3, 9, 37, 38, 39, 40, 41, 42, 43] (by decide +kernel) (by decide +kernel)
set_option maxRecDepth 20000 in
theorem gX5_takeFromRows_X5_hasOneValue : GoodIn wsX5_takeFromRows (wsV RX5 42 RX5 yX5_hasOneValue wsX5_hasOneValue) := goodIn_app (goodIn_of _ (by decide +kernel)) ggX5_takeFromRows_X5_hasOneValue
set_option maxRecDepth 20000 in
theorem ggX5_takeFromRows_X5_take : GoodIn wsX5_takeFromRows wsX5_take := goodIn_r _ [13, 14, 15, 2, 16, 17, 18, 19, 20, 21, 22, 23, 24, 25, 26, 27, 28, 29, 30, 31, 32, 33, 34, 35, 36, 37, 38, 39, 40, 41, 42, 43] (by decide +kernel) (by decide +kernel)
set_option maxRecDepth 20000 in
theorem gX5_takeFromRows_X5_take : GoodIn wsX5_takeFromRows (wsV RX5 39 RX5 yX5_take wsX5_take) := goodIn_app (goodIn_of _ (by decide +kernel)) ggX5_takeFromRows_X5_take
theorem dX5_takeFromRows_0 : decode cX5_takeFromRows 0 = .ok (.iconst 0, 1) := by decide +kernel
theorem dX5_takeFromRows_1 : decode cX5_takeFromRows 1 = .ok (.istore_n 1, 1) := by decide +kernel
theorem dX5_takeFromRows_2 : decode cX5_takeFromRows 2 = .ok (.iload_n 1, 1) := by decide +kernel
theorem dX5_takeFromRows_3 : decode cX5_takeFromRows 3 = .ok (.aload_n 0, 1) := by decide +kernel
theorem dX5_takeFromRows_4 : decode cX5_takeFromRows 4 = .ok (.getfield 9, 3) := by decide +kernel
theorem dX5_takeFromRows_7 : decode cX5_takeFromRows 7 = .ok (.if_icmp .ge 43, 3) := by decide +kernel
theorem dX5_takeFromRows_10 : decode cX5_takeFromRows 10 = .ok (.aload_n 0, 1) := by decide +kernel
theorem dX5_takeFromRows_11 : decode cX5_takeFromRows 11 = .ok (.iload_n 1, 1) := by decide +kernel
theorem dX5_takeFromRows_12 : decode cX5_takeFromRows 12 = .ok (.invokevirtual 42, 3) := by decide +kernel
theorem dX5_takeFromRows_15 : decode cX5_takeFromRows 15 = .ok (.ifCond .eq 29, 3) := by decide +kernel
theorem dX5_takeFromRows_18 : decode cX5_takeFromRows 18 = .ok (.aload_n 0, 1) := by decide +kernel
theorem dX5_takeFromRows_19 : decode cX5_takeFromRows 19 = .ok (.iload_n 1, 1) := by decide +kernel
theorem dX5_takeFromRows_20 : decode cX5_takeFromRows 20 = .ok (.aload_n 0, 1) := by decide +kernel
theorem dX5_takeFromRows_21 : decode cX5_takeFromRows 21 = .ok (.getfield 20, 3) := by decide +kernel
theorem dX5_takeFromRows_24 : decode cX5_takeFromRows 24 = .ok (.getfield 46, 3) := by decide +kernel
theorem dX5_takeFromRows_27 : decode cX5_takeFromRows 27 = .ok (.iload_n 1, 1) := by decide +kernel
theorem dX5_takeFromRows_28 : decode cX5_takeFromRows 28 = .ok (.laload, 1) := by decide +kernel
theorem dX5_takeFromRows_29 : decode cX5_takeFromRows 29 = .ok (.lconst 1, 1) := by decide +kernel
theorem dX5_takeFromRows_30 : decode cX5_takeFromRows 30 = .ok (.iload_n 1, 1) := by decide +kernel
theorem dX5_takeFromRows_31 : decode cX5_takeFromRows 31 = .ok (.lshl, 1) := by decide +kernel
theorem dX5_takeFromRows_32 : decode cX5_takeFromRows 32 = .ok (.lcmp, 1) := by decide +kernel
theorem dX5_takeFromRows_33 : decode cX5_takeFromRows 33 = .ok (.ifCond .eq 7, 3) := by decide +kernel
theorem dX5_takeFromRows_36 : decode cX5_takeFromRows 36 = .ok (.iconst 1, 1) := by decide +kernel
theorem dX5_takeFromRows_37 : decode cX5_takeFromRows 37 = .ok (.goto 4, 3) := by decide +kernel
theorem dX5_takeFromRows_40 : decode cX5_takeFromRows 40 = .ok (.iconst 0, 1) := by decide +kernel
theorem dX5_takeFromRows_41 : decode cX5_takeFromRows 41 = .ok (.invokevirtual 39, 3) := by decide +kernel
theorem dX5_takeFromRows_44 : decode cX5_takeFromRows 44 = .ok (.iinc 1 1, 3) := by decide +kernel
theorem dX5_takeFromRows_47 : decode cX5_takeFromRows 47 = .ok (.goto (-45), 3) := by decide +kernel
theorem dX5_takeFromRows_50 : decode cX5_takeFromRows 50 = .ok (.return_, 1) := by decide +kernel
set_option maxRecDepth 20000 in
theorem ggX5_takeFromClauses_X7_leastPlace : GoodIn wsX5_takeFromClauses wsX7_leastPlace := goodIn_r _ [11, 12, 13, 14, 15, 16, 17, 18] (by decide +kernel) (by decide +kernel)
set_option maxRecDepth 20000 in
theorem gX5_takeFromClauses_X7_leastPlace_n67 : GoodIn wsX5_takeFromClauses (wsX7_leastPlace) := ggX5_takeFromClauses_X7_leastPlace
set_option maxRecDepth 20000 in
theorem ggX5_takeFromClauses_X5_take : GoodIn wsX5_takeFromClauses wsX5_take := goodIn_r _ [23, 5, 4, 7, 24, 25, 26, 27, 28, 29, 30, 31, 32, 33, 34, 35, 36, 37, 38, 13, 14, 15, 16, 17, 18, 47, 48, 49, 50, 51, 52, 53] (by decide +kernel) (by decide +kernel)
set_option maxRecDepth 20000 in
theorem gX5_takeFromClauses_X5_take : GoodIn wsX5_takeFromClauses (wsV RX5 39 RX5 yX5_take wsX5_take) := goodIn_app (goodIn_of _ (by decide +kernel)) ggX5_takeFromClauses_X5_take
theorem dX5_takeFromClauses_0 : decode cX5_takeFromClauses 0 = .ok (.iconst 0, 1) := by decide +kernel
theorem dX5_takeFromClauses_1 : decode cX5_takeFromClauses 1 = .ok (.istore_n 2, 1) := by decide +kernel
theorem dX5_takeFromClauses_2 : decode cX5_takeFromClauses 2 = .ok (.iload_n 2, 1) := by decide +kernel
theorem dX5_takeFromClauses_3 : decode cX5_takeFromClauses 3 = .ok (.aload_n 1, 1) := by decide +kernel
theorem dX5_takeFromClauses_4 : decode cX5_takeFromClauses 4 = .ok (.getfield 73, 3) := by decide +kernel
theorem dX5_takeFromClauses_7 : decode cX5_takeFromClauses 7 = .ok (.if_icmp .ge 130, 3) := by decide +kernel
theorem dX5_takeFromClauses_10 : decode cX5_takeFromClauses 10 = .ok (.aload_n 1, 1) := by decide +kernel
theorem dX5_takeFromClauses_11 : decode cX5_takeFromClauses 11 = .ok (.getfield 78, 3) := by decide +kernel
theorem dX5_takeFromClauses_14 : decode cX5_takeFromClauses 14 = .ok (.iload_n 2, 1) := by decide +kernel
theorem dX5_takeFromClauses_15 : decode cX5_takeFromClauses 15 = .ok (.laload, 1) := by decide +kernel
theorem dX5_takeFromClauses_16 : decode cX5_takeFromClauses 16 = .ok (.lstore_n 3, 1) := by decide +kernel
theorem dX5_takeFromClauses_17 : decode cX5_takeFromClauses 17 = .ok (.aload_n 1, 1) := by decide +kernel
theorem dX5_takeFromClauses_18 : decode cX5_takeFromClauses 18 = .ok (.getfield 81, 3) := by decide +kernel
theorem dX5_takeFromClauses_21 : decode cX5_takeFromClauses 21 = .ok (.iload_n 2, 1) := by decide +kernel
theorem dX5_takeFromClauses_22 : decode cX5_takeFromClauses 22 = .ok (.laload, 1) := by decide +kernel
theorem dX5_takeFromClauses_23 : decode cX5_takeFromClauses 23 = .ok (.lstore 5, 2) := by decide +kernel
theorem dX5_takeFromClauses_25 : decode cX5_takeFromClauses 25 = .ok (.lload_n 3, 1) := by decide +kernel
theorem dX5_takeFromClauses_26 : decode cX5_takeFromClauses 26 = .ok (.aload_n 0, 1) := by decide +kernel
theorem dX5_takeFromClauses_27 : decode cX5_takeFromClauses 27 = .ok (.getfield 32, 3) := by decide +kernel
theorem dX5_takeFromClauses_30 : decode cX5_takeFromClauses 30 = .ok (.land, 1) := by decide +kernel
theorem dX5_takeFromClauses_31 : decode cX5_takeFromClauses 31 = .ok (.lconst 0, 1) := by decide +kernel
theorem dX5_takeFromClauses_32 : decode cX5_takeFromClauses 32 = .ok (.lcmp, 1) := by decide +kernel
theorem dX5_takeFromClauses_33 : decode cX5_takeFromClauses 33 = .ok (.ifCond .ne 98, 3) := by decide +kernel
theorem dX5_takeFromClauses_36 : decode cX5_takeFromClauses 36 = .ok (.lload 5, 2) := by decide +kernel
theorem dX5_takeFromClauses_38 : decode cX5_takeFromClauses 38 = .ok (.aload_n 0, 1) := by decide +kernel
theorem dX5_takeFromClauses_39 : decode cX5_takeFromClauses 39 = .ok (.getfield 28, 3) := by decide +kernel
theorem dX5_takeFromClauses_42 : decode cX5_takeFromClauses 42 = .ok (.land, 1) := by decide +kernel
theorem dX5_takeFromClauses_43 : decode cX5_takeFromClauses 43 = .ok (.aload_n 0, 1) := by decide +kernel
theorem dX5_takeFromClauses_44 : decode cX5_takeFromClauses 44 = .ok (.getfield 32, 3) := by decide +kernel
theorem dX5_takeFromClauses_47 : decode cX5_takeFromClauses 47 = .ok (.ldc2_w 65, 3) := by decide +kernel
theorem dX5_takeFromClauses_50 : decode cX5_takeFromClauses 50 = .ok (.lxor, 1) := by decide +kernel
theorem dX5_takeFromClauses_51 : decode cX5_takeFromClauses 51 = .ok (.land, 1) := by decide +kernel
theorem dX5_takeFromClauses_52 : decode cX5_takeFromClauses 52 = .ok (.lconst 0, 1) := by decide +kernel
theorem dX5_takeFromClauses_53 : decode cX5_takeFromClauses 53 = .ok (.lcmp, 1) := by decide +kernel
theorem dX5_takeFromClauses_54 : decode cX5_takeFromClauses 54 = .ok (.ifCond .eq 6, 3) := by decide +kernel
theorem dX5_takeFromClauses_57 : decode cX5_takeFromClauses 57 = .ok (.goto 74, 3) := by decide +kernel
theorem dX5_takeFromClauses_60 : decode cX5_takeFromClauses 60 = .ok (.lload_n 3, 1) := by decide +kernel
theorem dX5_takeFromClauses_61 : decode cX5_takeFromClauses 61 = .ok (.lload 5, 2) := by decide +kernel
theorem dX5_takeFromClauses_63 : decode cX5_takeFromClauses 63 = .ok (.lor, 1) := by decide +kernel
theorem dX5_takeFromClauses_64 : decode cX5_takeFromClauses 64 = .ok (.aload_n 0, 1) := by decide +kernel
theorem dX5_takeFromClauses_65 : decode cX5_takeFromClauses 65 = .ok (.getfield 28, 3) := by decide +kernel
theorem dX5_takeFromClauses_68 : decode cX5_takeFromClauses 68 = .ok (.ldc2_w 65, 3) := by decide +kernel
theorem dX5_takeFromClauses_71 : decode cX5_takeFromClauses 71 = .ok (.lxor, 1) := by decide +kernel
theorem dX5_takeFromClauses_72 : decode cX5_takeFromClauses 72 = .ok (.land, 1) := by decide +kernel
theorem dX5_takeFromClauses_73 : decode cX5_takeFromClauses 73 = .ok (.lstore 7, 2) := by decide +kernel
theorem dX5_takeFromClauses_75 : decode cX5_takeFromClauses 75 = .ok (.lload 7, 2) := by decide +kernel
theorem dX5_takeFromClauses_77 : decode cX5_takeFromClauses 77 = .ok (.lconst 0, 1) := by decide +kernel
theorem dX5_takeFromClauses_78 : decode cX5_takeFromClauses 78 = .ok (.lcmp, 1) := by decide +kernel
theorem dX5_takeFromClauses_79 : decode cX5_takeFromClauses 79 = .ok (.ifCond .ne 5, 3) := by decide +kernel
theorem dX5_takeFromClauses_82 : decode cX5_takeFromClauses 82 = .ok (.iconst 0, 1) := by decide +kernel
theorem dX5_takeFromClauses_83 : decode cX5_takeFromClauses 83 = .ok (.ireturn, 1) := by decide +kernel
theorem dX5_takeFromClauses_84 : decode cX5_takeFromClauses 84 = .ok (.lload 7, 2) := by decide +kernel
theorem dX5_takeFromClauses_86 : decode cX5_takeFromClauses 86 = .ok (.lload 7, 2) := by decide +kernel
theorem dX5_takeFromClauses_88 : decode cX5_takeFromClauses 88 = .ok (.lconst 1, 1) := by decide +kernel
theorem dX5_takeFromClauses_89 : decode cX5_takeFromClauses 89 = .ok (.lsub, 1) := by decide +kernel
theorem dX5_takeFromClauses_90 : decode cX5_takeFromClauses 90 = .ok (.land, 1) := by decide +kernel
theorem dX5_takeFromClauses_91 : decode cX5_takeFromClauses 91 = .ok (.lconst 0, 1) := by decide +kernel
theorem dX5_takeFromClauses_92 : decode cX5_takeFromClauses 92 = .ok (.lcmp, 1) := by decide +kernel
theorem dX5_takeFromClauses_93 : decode cX5_takeFromClauses 93 = .ok (.ifCond .ne 26, 3) := by decide +kernel
theorem dX5_takeFromClauses_96 : decode cX5_takeFromClauses 96 = .ok (.aload_n 0, 1) := by decide +kernel
theorem dX5_takeFromClauses_97 : decode cX5_takeFromClauses 97 = .ok (.lload 7, 2) := by decide +kernel
theorem dX5_takeFromClauses_99 : decode cX5_takeFromClauses 99 = .ok (.invokestatic 67, 3) := by decide +kernel
theorem dX5_takeFromClauses_102 : decode cX5_takeFromClauses 102 = .ok (.lload_n 3, 1) := by decide +kernel
theorem dX5_takeFromClauses_103 : decode cX5_takeFromClauses 103 = .ok (.lload 7, 2) := by decide +kernel
theorem dX5_takeFromClauses_105 : decode cX5_takeFromClauses 105 = .ok (.land, 1) := by decide +kernel
theorem dX5_takeFromClauses_106 : decode cX5_takeFromClauses 106 = .ok (.lconst 0, 1) := by decide +kernel
theorem dX5_takeFromClauses_107 : decode cX5_takeFromClauses 107 = .ok (.lcmp, 1) := by decide +kernel
theorem dX5_takeFromClauses_108 : decode cX5_takeFromClauses 108 = .ok (.ifCond .eq 7, 3) := by decide +kernel
theorem dX5_takeFromClauses_111 : decode cX5_takeFromClauses 111 = .ok (.iconst 1, 1) := by decide +kernel
theorem dX5_takeFromClauses_112 : decode cX5_takeFromClauses 112 = .ok (.goto 4, 3) := by decide +kernel
theorem dX5_takeFromClauses_115 : decode cX5_takeFromClauses 115 = .ok (.iconst 0, 1) := by decide +kernel
theorem dX5_takeFromClauses_116 : decode cX5_takeFromClauses 116 = .ok (.invokevirtual 39, 3) := by decide +kernel
theorem dX5_takeFromClauses_119 : decode cX5_takeFromClauses 119 = .ok (.aload_n 0, 1) := by decide +kernel
theorem dX5_takeFromClauses_120 : decode cX5_takeFromClauses 120 = .ok (.getfield 20, 3) := by decide +kernel
theorem dX5_takeFromClauses_123 : decode cX5_takeFromClauses 123 = .ok (.getfield 50, 3) := by decide +kernel
theorem dX5_takeFromClauses_126 : decode cX5_takeFromClauses 126 = .ok (.ifCond .eq 5, 3) := by decide +kernel
theorem dX5_takeFromClauses_129 : decode cX5_takeFromClauses 129 = .ok (.iconst 0, 1) := by decide +kernel
theorem dX5_takeFromClauses_130 : decode cX5_takeFromClauses 130 = .ok (.ireturn, 1) := by decide +kernel
theorem dX5_takeFromClauses_131 : decode cX5_takeFromClauses 131 = .ok (.iinc 2 1, 3) := by decide +kernel
theorem dX5_takeFromClauses_134 : decode cX5_takeFromClauses 134 = .ok (.goto (-132), 3) := by decide +kernel
theorem dX5_takeFromClauses_137 : decode cX5_takeFromClauses 137 = .ok (.iconst 1, 1) := by decide +kernel
theorem dX5_takeFromClauses_138 : decode cX5_takeFromClauses 138 = .ok (.ireturn, 1) := by decide +kernel
theorem dX6_init_0 : decode cX6_init 0 = .ok (.aload_n 0, 1) := by decide +kernel
theorem dX6_init_1 : decode cX6_init 1 = .ok (.invokespecial 3, 3) := by decide +kernel
theorem dX6_init_4 : decode cX6_init 4 = .ok (.aload_n 0, 1) := by decide +kernel
theorem dX6_init_5 : decode cX6_init 5 = .ok (.sipush 500, 3) := by decide +kernel
theorem dX6_init_8 : decode cX6_init 8 = .ok (.newarray .int, 2) := by decide +kernel
theorem dX6_init_10 : decode cX6_init 10 = .ok (.putfield 9, 3) := by decide +kernel
theorem dX6_init_13 : decode cX6_init 13 = .ok (.return_, 1) := by decide +kernel
theorem dX6_put_0 : decode cX6_put 0 = .ok (.aload_n 0, 1) := by decide +kernel
theorem dX6_put_1 : decode cX6_put 1 = .ok (.getfield 15, 3) := by decide +kernel
theorem dX6_put_4 : decode cX6_put 4 = .ok (.sipush 500, 3) := by decide +kernel
theorem dX6_put_7 : decode cX6_put 7 = .ok (.if_icmp .ge 23, 3) := by decide +kernel
theorem dX6_put_10 : decode cX6_put 10 = .ok (.aload_n 0, 1) := by decide +kernel
theorem dX6_put_11 : decode cX6_put 11 = .ok (.getfield 9, 3) := by decide +kernel
theorem dX6_put_14 : decode cX6_put 14 = .ok (.aload_n 0, 1) := by decide +kernel
theorem dX6_put_15 : decode cX6_put 15 = .ok (.getfield 15, 3) := by decide +kernel
theorem dX6_put_18 : decode cX6_put 18 = .ok (.iload_n 1, 1) := by decide +kernel
theorem dX6_put_19 : decode cX6_put 19 = .ok (.iastore, 1) := by decide +kernel
theorem dX6_put_20 : decode cX6_put 20 = .ok (.aload_n 0, 1) := by decide +kernel
theorem dX6_put_21 : decode cX6_put 21 = .ok (.dup, 1) := by decide +kernel
theorem dX6_put_22 : decode cX6_put 22 = .ok (.getfield 15, 3) := by decide +kernel
theorem dX6_put_25 : decode cX6_put 25 = .ok (.iconst 1, 1) := by decide +kernel
theorem dX6_put_26 : decode cX6_put 26 = .ok (.iadd, 1) := by decide +kernel
theorem dX6_put_27 : decode cX6_put 27 = .ok (.putfield 15, 3) := by decide +kernel
theorem dX6_put_30 : decode cX6_put 30 = .ok (.return_, 1) := by decide +kernel
set_option maxRecDepth 20000 in
theorem ggX6_readLines_X6_skipBlanks : GoodIn wsX6_readLines wsX6_skipBlanks := goodIn_r _ [8, 2, 9, 10, 11, 7, 12, 3, 13, 14, 15, 16, 71, 72, 73, 74, 75, 76, 77, 78] (by decide +kernel) (by decide +kernel)
set_option maxRecDepth 20000 in
theorem gX6_readLines_X6_skipBlanks : GoodIn wsX6_readLines (wsV RX6 25 RX6 yX6_skipBlanks wsX6_skipBlanks) := goodIn_app (goodIn_of _ (by decide +kernel)) ggX6_readLines_X6_skipBlanks
set_option maxRecDepth 20000 in
theorem ggX6_readLines_X6_readLine : GoodIn wsX6_readLines wsX6_readLine := goodIn_r _ [20, 2, 21, 22, 23, 24, 9, 10, 11, 7, 12, 3, 13, 14, 15, 16, 25, 26, 27, 28, 1, 4, 5, 6, 8, 29, 30, 31, 32, 33, 34, 35, 36, 37, 38, 39, 40, 41, 42, 43, 44, 45, 46, 47, 71, 72, 73, 74, 75, 76, 77, 78] (by decide +kernel) (by decide +kernel)
set_option maxRecDepth 20000 in
theorem gX6_readLines_X6_readLine : GoodIn wsX6_readLines (wsV RX6 28 RX6 yX6_readLine wsX6_readLine) := goodIn_app (goodIn_of _ (by decide +kernel)) ggX6_readLines_X6_readLine
set_option maxRecDepth 20000 in
theorem ggX6_readLines_X6_keepLine : GoodIn wsX6_readLines wsX6_keepLine := goodIn_r _ [51, 21, 24, 22, 52, 23, 2, 53, 54, 55, 56, 57, 58, 59, 60, 61, 62, 63, 64, 65, 66, 25, 26, 27, 7, 28, 1, 71, 72, 73, 74, 75, 76, 77, 78, 79, 80, 81, 82, 83, 84, 85, 86] (by decide +kernel) (by decide +kernel)
set_option maxRecDepth 20000 in
theorem gX6_readLines_X6_keepLine : GoodIn wsX6_readLines (wsV RX6 32 RX6 yX6_keepLine wsX6_keepLine) := goodIn_app (goodIn_of _ (by decide +kernel)) ggX6_readLines_X6_keepLine
set_option maxRecDepth 20000 in
theorem ggX6_readLines_X6_passZero : GoodIn wsX6_readLines wsX6_passZero := goodIn_r _ [70, 2, 9, 10, 11, 7, 12, 3, 13, 14, 15, 16, 25, 26, 27, 28, 1, 71, 72, 73, 74, 75, 76, 77, 78] (by decide +kernel) (by decide +kernel)
set_option maxRecDepth 20000 in
theorem gX6_readLines_X6_passZero : GoodIn wsX6_readLines (wsV RX6 36 RX6 yX6_passZero wsX6_passZero) := goodIn_app (goodIn_of _ (by decide +kernel)) ggX6_readLines_X6_passZero
theorem dX6_readLines_0 : decode cX6_readLines 0 = .ok (.aload_n 0, 1) := by decide +kernel
theorem dX6_readLines_1 : decode cX6_readLines 1 = .ok (.iconst 0, 1) := by decide +kernel
theorem dX6_readLines_2 : decode cX6_readLines 2 = .ok (.putfield 19, 3) := by decide +kernel
theorem dX6_readLines_5 : decode cX6_readLines 5 = .ok (.aload_n 0, 1) := by decide +kernel
theorem dX6_readLines_6 : decode cX6_readLines 6 = .ok (.iconst 0, 1) := by decide +kernel
theorem dX6_readLines_7 : decode cX6_readLines 7 = .ok (.putfield 22, 3) := by decide +kernel
theorem dX6_readLines_10 : decode cX6_readLines 10 = .ok (.iconst 0, 1) := by decide +kernel
theorem dX6_readLines_11 : decode cX6_readLines 11 = .ok (.istore_n 3, 1) := by decide +kernel
theorem dX6_readLines_12 : decode cX6_readLines 12 = .ok (.iconst 0, 1) := by decide +kernel
theorem dX6_readLines_13 : decode cX6_readLines 13 = .ok (.istore 4, 2) := by decide +kernel
theorem dX6_readLines_15 : decode cX6_readLines 15 = .ok (.iload 4, 2) := by decide +kernel
theorem dX6_readLines_17 : decode cX6_readLines 17 = .ok (.sipush 500, 3) := by decide +kernel
theorem dX6_readLines_20 : decode cX6_readLines 20 = .ok (.if_icmp .gt 59, 3) := by decide +kernel
theorem dX6_readLines_23 : decode cX6_readLines 23 = .ok (.aload_n 0, 1) := by decide +kernel
theorem dX6_readLines_24 : decode cX6_readLines 24 = .ok (.invokevirtual 25, 3) := by decide +kernel
theorem dX6_readLines_27 : decode cX6_readLines 27 = .ok (.aload_n 0, 1) := by decide +kernel
theorem dX6_readLines_28 : decode cX6_readLines 28 = .ok (.getfield 22, 3) := by decide +kernel
theorem dX6_readLines_31 : decode cX6_readLines 31 = .ok (.aload_n 0, 1) := by decide +kernel
theorem dX6_readLines_32 : decode cX6_readLines 32 = .ok (.getfield 15, 3) := by decide +kernel
theorem dX6_readLines_35 : decode cX6_readLines 35 = .ok (.if_icmp .lt 5, 3) := by decide +kernel
theorem dX6_readLines_38 : decode cX6_readLines 38 = .ok (.iload_n 3, 1) := by decide +kernel
theorem dX6_readLines_39 : decode cX6_readLines 39 = .ok (.ireturn, 1) := by decide +kernel
theorem dX6_readLines_40 : decode cX6_readLines 40 = .ok (.aload_n 0, 1) := by decide +kernel
theorem dX6_readLines_41 : decode cX6_readLines 41 = .ok (.iload_n 2, 1) := by decide +kernel
theorem dX6_readLines_42 : decode cX6_readLines 42 = .ok (.invokevirtual 28, 3) := by decide +kernel
theorem dX6_readLines_45 : decode cX6_readLines 45 = .ok (.ifCond .eq 18, 3) := by decide +kernel
theorem dX6_readLines_48 : decode cX6_readLines 48 = .ok (.aload_n 0, 1) := by decide +kernel
theorem dX6_readLines_49 : decode cX6_readLines 49 = .ok (.aload_n 1, 1) := by decide +kernel
theorem dX6_readLines_50 : decode cX6_readLines 50 = .ok (.invokevirtual 32, 3) := by decide +kernel
theorem dX6_readLines_53 : decode cX6_readLines 53 = .ok (.ifCond .eq 10, 3) := by decide +kernel
theorem dX6_readLines_56 : decode cX6_readLines 56 = .ok (.aload_n 0, 1) := by decide +kernel
theorem dX6_readLines_57 : decode cX6_readLines 57 = .ok (.invokevirtual 36, 3) := by decide +kernel
theorem dX6_readLines_60 : decode cX6_readLines 60 = .ok (.ifCond .ne 10, 3) := by decide +kernel
theorem dX6_readLines_63 : decode cX6_readLines 63 = .ok (.iconst (-1), 1) := by decide +kernel
theorem dX6_readLines_64 : decode cX6_readLines 64 = .ok (.aload_n 0, 1) := by decide +kernel
theorem dX6_readLines_65 : decode cX6_readLines 65 = .ok (.getfield 22, 3) := by decide +kernel
theorem dX6_readLines_68 : decode cX6_readLines 68 = .ok (.isub, 1) := by decide +kernel
theorem dX6_readLines_69 : decode cX6_readLines 69 = .ok (.ireturn, 1) := by decide +kernel
theorem dX6_readLines_70 : decode cX6_readLines 70 = .ok (.iinc 3 1, 3) := by decide +kernel
theorem dX6_readLines_73 : decode cX6_readLines 73 = .ok (.iinc 4 1, 3) := by decide +kernel
theorem dX6_readLines_76 : decode cX6_readLines 76 = .ok (.goto (-61), 3) := by decide +kernel
theorem dX6_readLines_79 : decode cX6_readLines 79 = .ok (.iload_n 3, 1) := by decide +kernel
theorem dX6_readLines_80 : decode cX6_readLines 80 = .ok (.ireturn, 1) := by decide +kernel
set_option maxRecDepth 20000 in
theorem ggX6_readLine_X6_byteAt : GoodIn wsX6_readLine wsX6_byteAt := goodIn_r _ [10, 11, 12, 44, 45, 46, 47, 48, 49, 50, 51] (by decide +kernel) (by decide +kernel)
set_option maxRecDepth 20000 in
theorem gX6_readLine_X6_byteAt : GoodIn wsX6_readLine (wsV RX6 40 RX6 yX6_byteAt wsX6_byteAt) := goodIn_app (goodIn_of _ (by decide +kernel)) ggX6_readLine_X6_byteAt
set_option maxRecDepth 20000 in
theorem ggX6_readLine_X6_isBlank : GoodIn wsX6_readLine wsX6_isBlank := goodIn_r _ [15] (by decide +kernel) (by decide +kernel)
set_option maxRecDepth 20000 in
theorem gX6_readLine_X6_isBlank : GoodIn wsX6_readLine (va_wsS RX6 58 yX6_isBlank wsX6_isBlank) := goodIn_app (goodIn_of _ (by decide +kernel)) ggX6_readLine_X6_isBlank
set_option maxRecDepth 20000 in
theorem ggX6_readLine_X6_fail : GoodIn wsX6_readLine wsX6_fail := goodIn_r _ [19, 20, 1, 44, 45, 46, 47, 48, 49, 50, 51] (by decide +kernel) (by decide +kernel)
set_option maxRecDepth 20000 in
theorem gX6_readLine_X6_fail : GoodIn wsX6_readLine (wsV RX6 61 RX6 yX6_fail wsX6_fail) := goodIn_app (goodIn_of _ (by decide +kernel)) ggX6_readLine_X6_fail
set_option maxRecDepth 20000 in
theorem ggX6_readLine_X6_skipBlanks : GoodIn wsX6_readLine wsX6_skipBlanks := goodIn_r _ [24, 1, 6, 7, 8, 9, 10, 11, 12, 13, 14, 15, 44, 45, 46, 47, 48, 49, 50, 51] (by decide +kernel) (by decide +kernel)
set_option maxRecDepth 20000 in
theorem gX6_readLine_X6_skipBlanks : GoodIn wsX6_readLine (wsV RX6 25 RX6 yX6_skipBlanks wsX6_skipBlanks) := goodIn_app (goodIn_of _ (by decide +kernel)) ggX6_readLine_X6_skipBlanks
set_option maxRecDepth 20000 in
theorem ggX6_readLine_X6_readLiteral : GoodIn wsX6_readLine wsX6_readLiteral := goodIn_r _ [28, 1, 6, 7, 8, 9, 10, 11, 12, 29, 30, 31, 16, 17, 18, 19, 20, 32, 33, 34, 35, 36, 37, 38, 39, 13, 14, 15, 40, 41, 42, 43, 2, 3, 5, 4, 44, 45, 46, 47, 48, 49, 50, 51] (by decide +kernel) (by decide +kernel)
set_option maxRecDepth 20000 in
theorem gX6_readLine_X6_readLiteral : GoodIn wsX6_readLine (wsV RX6 65 RX6 yX6_readLiteral wsX6_readLiteral) := goodIn_app (goodIn_of _ (by decide +kernel)) ggX6_readLine_X6_readLiteral
theorem dX6_readLine_0 : decode cX6_readLine 0 = .ok (.aload_n 0, 1) := by decide +kernel
theorem dX6_readLine_1 : decode cX6_readLine 1 = .ok (.aload_n 0, 1) := by decide +kernel
theorem dX6_readLine_2 : decode cX6_readLine 2 = .ok (.aload_n 0, 1) := by decide +kernel
theorem dX6_readLine_3 : decode cX6_readLine 3 = .ok (.getfield 22, 3) := by decide +kernel
theorem dX6_readLine_6 : decode cX6_readLine 6 = .ok (.invokevirtual 40, 3) := by decide +kernel
theorem dX6_readLine_9 : decode cX6_readLine 9 = .ok (.bipush 120, 2) := by decide +kernel
theorem dX6_readLine_11 : decode cX6_readLine 11 = .ok (.if_icmp .ne 7, 3) := by decide +kernel
theorem dX6_readLine_14 : decode cX6_readLine 14 = .ok (.iconst 1, 1) := by decide +kernel
theorem dX6_readLine_15 : decode cX6_readLine 15 = .ok (.goto 4, 3) := by decide +kernel
theorem dX6_readLine_18 : decode cX6_readLine 18 = .ok (.iconst 0, 1) := by decide +kernel
theorem dX6_readLine_19 : decode cX6_readLine 19 = .ok (.putfield 44, 3) := by decide +kernel
theorem dX6_readLine_22 : decode cX6_readLine 22 = .ok (.aload_n 0, 1) := by decide +kernel
theorem dX6_readLine_23 : decode cX6_readLine 23 = .ok (.lconst 0, 1) := by decide +kernel
theorem dX6_readLine_24 : decode cX6_readLine 24 = .ok (.putfield 48, 3) := by decide +kernel
theorem dX6_readLine_27 : decode cX6_readLine 27 = .ok (.aload_n 0, 1) := by decide +kernel
theorem dX6_readLine_28 : decode cX6_readLine 28 = .ok (.lconst 0, 1) := by decide +kernel
theorem dX6_readLine_29 : decode cX6_readLine 29 = .ok (.putfield 52, 3) := by decide +kernel
theorem dX6_readLine_32 : decode cX6_readLine 32 = .ok (.aload_n 0, 1) := by decide +kernel
theorem dX6_readLine_33 : decode cX6_readLine 33 = .ok (.iconst 1, 1) := by decide +kernel
theorem dX6_readLine_34 : decode cX6_readLine 34 = .ok (.putfield 55, 3) := by decide +kernel
theorem dX6_readLine_37 : decode cX6_readLine 37 = .ok (.aload_n 0, 1) := by decide +kernel
theorem dX6_readLine_38 : decode cX6_readLine 38 = .ok (.getfield 44, 3) := by decide +kernel
theorem dX6_readLine_41 : decode cX6_readLine 41 = .ok (.ifCond .eq 37, 3) := by decide +kernel
theorem dX6_readLine_44 : decode cX6_readLine 44 = .ok (.aload_n 0, 1) := by decide +kernel
theorem dX6_readLine_45 : decode cX6_readLine 45 = .ok (.dup, 1) := by decide +kernel
theorem dX6_readLine_46 : decode cX6_readLine 46 = .ok (.getfield 22, 3) := by decide +kernel
theorem dX6_readLine_49 : decode cX6_readLine 49 = .ok (.iconst 1, 1) := by decide +kernel
theorem dX6_readLine_50 : decode cX6_readLine 50 = .ok (.iadd, 1) := by decide +kernel
theorem dX6_readLine_51 : decode cX6_readLine 51 = .ok (.putfield 22, 3) := by decide +kernel
theorem dX6_readLine_54 : decode cX6_readLine 54 = .ok (.aload_n 0, 1) := by decide +kernel
theorem dX6_readLine_55 : decode cX6_readLine 55 = .ok (.aload_n 0, 1) := by decide +kernel
theorem dX6_readLine_56 : decode cX6_readLine 56 = .ok (.getfield 22, 3) := by decide +kernel
theorem dX6_readLine_59 : decode cX6_readLine 59 = .ok (.invokevirtual 40, 3) := by decide +kernel
theorem dX6_readLine_62 : decode cX6_readLine 62 = .ok (.invokestatic 58, 3) := by decide +kernel
theorem dX6_readLine_65 : decode cX6_readLine 65 = .ok (.ifCond .ne 13, 3) := by decide +kernel
theorem dX6_readLine_68 : decode cX6_readLine 68 = .ok (.aload_n 0, 1) := by decide +kernel
theorem dX6_readLine_69 : decode cX6_readLine 69 = .ok (.iconst 1, 1) := by decide +kernel
theorem dX6_readLine_70 : decode cX6_readLine 70 = .ok (.aload_n 0, 1) := by decide +kernel
theorem dX6_readLine_71 : decode cX6_readLine 71 = .ok (.getfield 22, 3) := by decide +kernel
theorem dX6_readLine_74 : decode cX6_readLine 74 = .ok (.invokevirtual 61, 3) := by decide +kernel
theorem dX6_readLine_77 : decode cX6_readLine 77 = .ok (.ireturn, 1) := by decide +kernel
theorem dX6_readLine_78 : decode cX6_readLine 78 = .ok (.iconst 0, 1) := by decide +kernel
theorem dX6_readLine_79 : decode cX6_readLine 79 = .ok (.istore_n 2, 1) := by decide +kernel
theorem dX6_readLine_80 : decode cX6_readLine 80 = .ok (.iload_n 2, 1) := by decide +kernel
theorem dX6_readLine_81 : decode cX6_readLine 81 = .ok (.sipush 500, 3) := by decide +kernel
theorem dX6_readLine_84 : decode cX6_readLine 84 = .ok (.if_icmp .gt 38, 3) := by decide +kernel
theorem dX6_readLine_87 : decode cX6_readLine 87 = .ok (.aload_n 0, 1) := by decide +kernel
theorem dX6_readLine_88 : decode cX6_readLine 88 = .ok (.invokevirtual 25, 3) := by decide +kernel
theorem dX6_readLine_91 : decode cX6_readLine 91 = .ok (.aload_n 0, 1) := by decide +kernel
theorem dX6_readLine_92 : decode cX6_readLine 92 = .ok (.aload_n 0, 1) := by decide +kernel
theorem dX6_readLine_93 : decode cX6_readLine 93 = .ok (.getfield 22, 3) := by decide +kernel
theorem dX6_readLine_96 : decode cX6_readLine 96 = .ok (.invokevirtual 40, 3) := by decide +kernel
theorem dX6_readLine_99 : decode cX6_readLine 99 = .ok (.bipush 48, 2) := by decide +kernel
theorem dX6_readLine_101 : decode cX6_readLine 101 = .ok (.if_icmp .ne 5, 3) := by decide +kernel
theorem dX6_readLine_104 : decode cX6_readLine 104 = .ok (.iconst 1, 1) := by decide +kernel
theorem dX6_readLine_105 : decode cX6_readLine 105 = .ok (.ireturn, 1) := by decide +kernel
theorem dX6_readLine_106 : decode cX6_readLine 106 = .ok (.aload_n 0, 1) := by decide +kernel
theorem dX6_readLine_107 : decode cX6_readLine 107 = .ok (.iload_n 1, 1) := by decide +kernel
theorem dX6_readLine_108 : decode cX6_readLine 108 = .ok (.invokevirtual 65, 3) := by decide +kernel
theorem dX6_readLine_111 : decode cX6_readLine 111 = .ok (.ifCond .ne 5, 3) := by decide +kernel
theorem dX6_readLine_114 : decode cX6_readLine 114 = .ok (.iconst 0, 1) := by decide +kernel
theorem dX6_readLine_115 : decode cX6_readLine 115 = .ok (.ireturn, 1) := by decide +kernel
theorem dX6_readLine_116 : decode cX6_readLine 116 = .ok (.iinc 2 1, 3) := by decide +kernel
theorem dX6_readLine_119 : decode cX6_readLine 119 = .ok (.goto (-39), 3) := by decide +kernel
theorem dX6_readLine_122 : decode cX6_readLine 122 = .ok (.aload_n 0, 1) := by decide +kernel
theorem dX6_readLine_123 : decode cX6_readLine 123 = .ok (.iconst 1, 1) := by decide +kernel
theorem dX6_readLine_124 : decode cX6_readLine 124 = .ok (.aload_n 0, 1) := by decide +kernel
theorem dX6_readLine_125 : decode cX6_readLine 125 = .ok (.getfield 22, 3) := by decide +kernel
theorem dX6_readLine_128 : decode cX6_readLine 128 = .ok (.invokevirtual 61, 3) := by decide +kernel
theorem dX6_readLine_131 : decode cX6_readLine 131 = .ok (.ireturn, 1) := by decide +kernel
set_option maxRecDepth 20000 in
theorem ggX6_readLiteral_X6_byteAt : GoodIn wsX6_readLiteral wsX6_byteAt := goodIn_r _ [6, 7, 8, 36, 37, 38, 39, 40, 41, 42, 43] (by decide +kernel) (by decide +kernel)
set_option maxRecDepth 20000 in
theorem gX6_readLiteral_X6_byteAt : GoodIn wsX6_readLiteral (wsV RX6 40 RX6 yX6_byteAt wsX6_byteAt) := goodIn_app (goodIn_of _ (by decide +kernel)) ggX6_readLiteral_X6_byteAt
set_option maxRecDepth 20000 in
theorem ggX6_readLiteral_X6_isFigure : GoodIn wsX6_readLiteral wsX6_isFigure := goodIn_r _ [11] (by decide +kernel) (by decide +kernel)
set_option maxRecDepth 20000 in
theorem gX6_readLiteral_X6_isFigure : GoodIn wsX6_readLiteral (va_wsS RX6 68 yX6_isFigure wsX6_isFigure) := goodIn_app (goodIn_of _ (by decide +kernel)) ggX6_readLiteral_X6_isFigure
set_option maxRecDepth 20000 in
theorem ggX6_readLiteral_X6_fail : GoodIn wsX6_readLiteral wsX6_fail := goodIn_r _ [15, 16, 1, 36, 37, 38, 39, 40, 41, 42, 43] (by decide +kernel) (by decide +kernel)
set_option maxRecDepth 20000 in
theorem gX6_readLiteral_X6_fail : GoodIn wsX6_readLiteral (wsV RX6 61 RX6 yX6_fail wsX6_fail) := goodIn_app (goodIn_of _ (by decide +kernel)) ggX6_readLiteral_X6_fail
set_option maxRecDepth 20000 in
theorem ggX6_readLiteral_X6_readNumber : GoodIn wsX6_readLiteral wsX6_readNumber := goodIn_r _ [20, 1, 21, 22, 23, 24, 2, 3, 4, 5, 6, 7, 8, 9, 10, 11, 36, 37, 38, 39, 40, 41, 42, 43] (by decide +kernel) (by decide +kernel)
set_option maxRecDepth 20000 in
theorem gX6_readLiteral_X6_readNumber : GoodIn wsX6_readLiteral (wsV RX6 71 RX6 yX6_readNumber wsX6_readNumber) := goodIn_app (goodIn_of _ (by decide +kernel)) ggX6_readLiteral_X6_readNumber
set_option maxRecDepth 20000 in
theorem ggX6_readLiteral_X6_isBlank : GoodIn wsX6_readLiteral wsX6_isBlank := goodIn_r _ [27] (by decide +kernel) (by decide +kernel)
set_option maxRecDepth 20000 in
theorem gX6_readLiteral_X6_isBlank : GoodIn wsX6_readLiteral (va_wsS RX6 58 yX6_isBlank wsX6_isBlank) := goodIn_app (goodIn_of _ (by decide +kernel)) ggX6_readLiteral_X6_isBlank
set_option maxRecDepth 20000 in
theorem ggX6_readLiteral_X6_addLiteral : GoodIn wsX6_readLiteral wsX6_addLiteral := goodIn_r _ [31, 32, 33, 34, 35, 36, 37, 38, 39, 40, 41, 42, 43] (by decide +kernel) (by decide +kernel)
set_option maxRecDepth 20000 in
theorem gX6_readLiteral_X6_addLiteral : GoodIn wsX6_readLiteral (wsV RX6 75 RX6 yX6_addLiteral wsX6_addLiteral) := goodIn_app (goodIn_of _ (by decide +kernel)) ggX6_readLiteral_X6_addLiteral
theorem dX6_readLiteral_0 : decode cX6_readLiteral 0 = .ok (.aload_n 0, 1) := by decide +kernel
theorem dX6_readLiteral_1 : decode cX6_readLiteral 1 = .ok (.aload_n 0, 1) := by decide +kernel
theorem dX6_readLiteral_2 : decode cX6_readLiteral 2 = .ok (.getfield 22, 3) := by decide +kernel
theorem dX6_readLiteral_5 : decode cX6_readLiteral 5 = .ok (.invokevirtual 40, 3) := by decide +kernel
theorem dX6_readLiteral_8 : decode cX6_readLiteral 8 = .ok (.bipush 45, 2) := by decide +kernel
theorem dX6_readLiteral_10 : decode cX6_readLiteral 10 = .ok (.if_icmp .ne 7, 3) := by decide +kernel
theorem dX6_readLiteral_13 : decode cX6_readLiteral 13 = .ok (.iconst 1, 1) := by decide +kernel
theorem dX6_readLiteral_14 : decode cX6_readLiteral 14 = .ok (.goto 4, 3) := by decide +kernel
theorem dX6_readLiteral_17 : decode cX6_readLiteral 17 = .ok (.iconst 0, 1) := by decide +kernel
theorem dX6_readLiteral_18 : decode cX6_readLiteral 18 = .ok (.istore_n 2, 1) := by decide +kernel
theorem dX6_readLiteral_19 : decode cX6_readLiteral 19 = .ok (.iload_n 2, 1) := by decide +kernel
theorem dX6_readLiteral_20 : decode cX6_readLiteral 20 = .ok (.ifCond .eq 13, 3) := by decide +kernel
theorem dX6_readLiteral_23 : decode cX6_readLiteral 23 = .ok (.aload_n 0, 1) := by decide +kernel
theorem dX6_readLiteral_24 : decode cX6_readLiteral 24 = .ok (.dup, 1) := by decide +kernel
theorem dX6_readLiteral_25 : decode cX6_readLiteral 25 = .ok (.getfield 22, 3) := by decide +kernel
theorem dX6_readLiteral_28 : decode cX6_readLiteral 28 = .ok (.iconst 1, 1) := by decide +kernel
theorem dX6_readLiteral_29 : decode cX6_readLiteral 29 = .ok (.iadd, 1) := by decide +kernel
theorem dX6_readLiteral_30 : decode cX6_readLiteral 30 = .ok (.putfield 22, 3) := by decide +kernel
theorem dX6_readLiteral_33 : decode cX6_readLiteral 33 = .ok (.aload_n 0, 1) := by decide +kernel
theorem dX6_readLiteral_34 : decode cX6_readLiteral 34 = .ok (.aload_n 0, 1) := by decide +kernel
theorem dX6_readLiteral_35 : decode cX6_readLiteral 35 = .ok (.getfield 22, 3) := by decide +kernel
theorem dX6_readLiteral_38 : decode cX6_readLiteral 38 = .ok (.invokevirtual 40, 3) := by decide +kernel
theorem dX6_readLiteral_41 : decode cX6_readLiteral 41 = .ok (.bipush 48, 2) := by decide +kernel
theorem dX6_readLiteral_43 : decode cX6_readLiteral 43 = .ok (.if_icmp .eq 17, 3) := by decide +kernel
theorem dX6_readLiteral_46 : decode cX6_readLiteral 46 = .ok (.aload_n 0, 1) := by decide +kernel
theorem dX6_readLiteral_47 : decode cX6_readLiteral 47 = .ok (.aload_n 0, 1) := by decide +kernel
theorem dX6_readLiteral_48 : decode cX6_readLiteral 48 = .ok (.getfield 22, 3) := by decide +kernel
theorem dX6_readLiteral_51 : decode cX6_readLiteral 51 = .ok (.invokevirtual 40, 3) := by decide +kernel
theorem dX6_readLiteral_54 : decode cX6_readLiteral 54 = .ok (.invokestatic 68, 3) := by decide +kernel
theorem dX6_readLiteral_57 : decode cX6_readLiteral 57 = .ok (.ifCond .ne 13, 3) := by decide +kernel
theorem dX6_readLiteral_60 : decode cX6_readLiteral 60 = .ok (.aload_n 0, 1) := by decide +kernel
theorem dX6_readLiteral_61 : decode cX6_readLiteral 61 = .ok (.iconst 1, 1) := by decide +kernel
theorem dX6_readLiteral_62 : decode cX6_readLiteral 62 = .ok (.aload_n 0, 1) := by decide +kernel
theorem dX6_readLiteral_63 : decode cX6_readLiteral 63 = .ok (.getfield 22, 3) := by decide +kernel
theorem dX6_readLiteral_66 : decode cX6_readLiteral 66 = .ok (.invokevirtual 61, 3) := by decide +kernel
theorem dX6_readLiteral_69 : decode cX6_readLiteral 69 = .ok (.ireturn, 1) := by decide +kernel
theorem dX6_readLiteral_70 : decode cX6_readLiteral 70 = .ok (.aload_n 0, 1) := by decide +kernel
theorem dX6_readLiteral_71 : decode cX6_readLiteral 71 = .ok (.getfield 22, 3) := by decide +kernel
theorem dX6_readLiteral_74 : decode cX6_readLiteral 74 = .ok (.istore_n 3, 1) := by decide +kernel
theorem dX6_readLiteral_75 : decode cX6_readLiteral 75 = .ok (.aload_n 0, 1) := by decide +kernel
theorem dX6_readLiteral_76 : decode cX6_readLiteral 76 = .ok (.invokevirtual 71, 3) := by decide +kernel
theorem dX6_readLiteral_79 : decode cX6_readLiteral 79 = .ok (.istore 4, 2) := by decide +kernel
theorem dX6_readLiteral_81 : decode cX6_readLiteral 81 = .ok (.iload 4, 2) := by decide +kernel
theorem dX6_readLiteral_83 : decode cX6_readLiteral 83 = .ok (.iload_n 1, 1) := by decide +kernel
theorem dX6_readLiteral_84 : decode cX6_readLiteral 84 = .ok (.if_icmp .le 10, 3) := by decide +kernel
theorem dX6_readLiteral_87 : decode cX6_readLiteral 87 = .ok (.aload_n 0, 1) := by decide +kernel
theorem dX6_readLiteral_88 : decode cX6_readLiteral 88 = .ok (.iconst 2, 1) := by decide +kernel
theorem dX6_readLiteral_89 : decode cX6_readLiteral 89 = .ok (.iload_n 3, 1) := by decide +kernel
theorem dX6_readLiteral_90 : decode cX6_readLiteral 90 = .ok (.invokevirtual 61, 3) := by decide +kernel
theorem dX6_readLiteral_93 : decode cX6_readLiteral 93 = .ok (.ireturn, 1) := by decide +kernel
theorem dX6_readLiteral_94 : decode cX6_readLiteral 94 = .ok (.aload_n 0, 1) := by decide +kernel
theorem dX6_readLiteral_95 : decode cX6_readLiteral 95 = .ok (.aload_n 0, 1) := by decide +kernel
theorem dX6_readLiteral_96 : decode cX6_readLiteral 96 = .ok (.getfield 22, 3) := by decide +kernel
theorem dX6_readLiteral_99 : decode cX6_readLiteral 99 = .ok (.invokevirtual 40, 3) := by decide +kernel
theorem dX6_readLiteral_102 : decode cX6_readLiteral 102 = .ok (.invokestatic 58, 3) := by decide +kernel
theorem dX6_readLiteral_105 : decode cX6_readLiteral 105 = .ok (.ifCond .ne 13, 3) := by decide +kernel
theorem dX6_readLiteral_108 : decode cX6_readLiteral 108 = .ok (.aload_n 0, 1) := by decide +kernel
theorem dX6_readLiteral_109 : decode cX6_readLiteral 109 = .ok (.iconst 1, 1) := by decide +kernel
theorem dX6_readLiteral_110 : decode cX6_readLiteral 110 = .ok (.aload_n 0, 1) := by decide +kernel
theorem dX6_readLiteral_111 : decode cX6_readLiteral 111 = .ok (.getfield 22, 3) := by decide +kernel
theorem dX6_readLiteral_114 : decode cX6_readLiteral 114 = .ok (.invokevirtual 61, 3) := by decide +kernel
theorem dX6_readLiteral_117 : decode cX6_readLiteral 117 = .ok (.ireturn, 1) := by decide +kernel
theorem dX6_readLiteral_118 : decode cX6_readLiteral 118 = .ok (.aload_n 0, 1) := by decide +kernel
theorem dX6_readLiteral_119 : decode cX6_readLiteral 119 = .ok (.lconst 1, 1) := by decide +kernel
theorem dX6_readLiteral_120 : decode cX6_readLiteral 120 = .ok (.iload 4, 2) := by decide +kernel
theorem dX6_readLiteral_122 : decode cX6_readLiteral 122 = .ok (.iconst 1, 1) := by decide +kernel
theorem dX6_readLiteral_123 : decode cX6_readLiteral 123 = .ok (.isub, 1) := by decide +kernel
theorem dX6_readLiteral_124 : decode cX6_readLiteral 124 = .ok (.lshl, 1) := by decide +kernel
theorem dX6_readLiteral_125 : decode cX6_readLiteral 125 = .ok (.iload_n 2, 1) := by decide +kernel
theorem dX6_readLiteral_126 : decode cX6_readLiteral 126 = .ok (.invokevirtual 75, 3) := by decide +kernel
theorem dX6_readLiteral_129 : decode cX6_readLiteral 129 = .ok (.iconst 1, 1) := by decide +kernel
theorem dX6_readLiteral_130 : decode cX6_readLiteral 130 = .ok (.ireturn, 1) := by decide +kernel
set_option maxRecDepth 20000 in
theorem ggX6_readNumber_X6_byteAt : GoodIn wsX6_readNumber wsX6_byteAt := goodIn_r _ [10, 11, 12, 16, 17, 18, 19, 20, 21, 22, 23] (by decide +kernel) (by decide +kernel)
set_option maxRecDepth 20000 in
theorem gX6_readNumber_X6_byteAt : GoodIn wsX6_readNumber (wsV RX6 40 RX6 yX6_byteAt wsX6_byteAt) := goodIn_app (goodIn_of _ (by decide +kernel)) ggX6_readNumber_X6_byteAt
set_option maxRecDepth 20000 in
theorem ggX6_readNumber_X6_isFigure : GoodIn wsX6_readNumber wsX6_isFigure := goodIn_r _ [15] (by decide +kernel) (by decide +kernel)
set_option maxRecDepth 20000 in
theorem gX6_readNumber_X6_isFigure : GoodIn wsX6_readNumber (va_wsS RX6 68 yX6_isFigure wsX6_isFigure) := goodIn_app (goodIn_of _ (by decide +kernel)) ggX6_readNumber_X6_isFigure
theorem dX6_readNumber_0 : decode cX6_readNumber 0 = .ok (.iconst 0, 1) := by decide +kernel
theorem dX6_readNumber_1 : decode cX6_readNumber 1 = .ok (.istore_n 1, 1) := by decide +kernel
theorem dX6_readNumber_2 : decode cX6_readNumber 2 = .ok (.iconst 0, 1) := by decide +kernel
theorem dX6_readNumber_3 : decode cX6_readNumber 3 = .ok (.istore_n 2, 1) := by decide +kernel
theorem dX6_readNumber_4 : decode cX6_readNumber 4 = .ok (.iload_n 2, 1) := by decide +kernel
theorem dX6_readNumber_5 : decode cX6_readNumber 5 = .ok (.sipush 500, 3) := by decide +kernel
theorem dX6_readNumber_8 : decode cX6_readNumber 8 = .ok (.if_icmp .ge 55, 3) := by decide +kernel
theorem dX6_readNumber_11 : decode cX6_readNumber 11 = .ok (.aload_n 0, 1) := by decide +kernel
theorem dX6_readNumber_12 : decode cX6_readNumber 12 = .ok (.aload_n 0, 1) := by decide +kernel
theorem dX6_readNumber_13 : decode cX6_readNumber 13 = .ok (.getfield 22, 3) := by decide +kernel
theorem dX6_readNumber_16 : decode cX6_readNumber 16 = .ok (.invokevirtual 40, 3) := by decide +kernel
theorem dX6_readNumber_19 : decode cX6_readNumber 19 = .ok (.invokestatic 68, 3) := by decide +kernel
theorem dX6_readNumber_22 : decode cX6_readNumber 22 = .ok (.ifCond .eq 41, 3) := by decide +kernel
theorem dX6_readNumber_25 : decode cX6_readNumber 25 = .ok (.iload_n 1, 1) := by decide +kernel
theorem dX6_readNumber_26 : decode cX6_readNumber 26 = .ok (.bipush 10, 2) := by decide +kernel
theorem dX6_readNumber_28 : decode cX6_readNumber 28 = .ok (.imul, 1) := by decide +kernel
theorem dX6_readNumber_29 : decode cX6_readNumber 29 = .ok (.aload_n 0, 1) := by decide +kernel
theorem dX6_readNumber_30 : decode cX6_readNumber 30 = .ok (.aload_n 0, 1) := by decide +kernel
theorem dX6_readNumber_31 : decode cX6_readNumber 31 = .ok (.getfield 22, 3) := by decide +kernel
theorem dX6_readNumber_34 : decode cX6_readNumber 34 = .ok (.invokevirtual 40, 3) := by decide +kernel
theorem dX6_readNumber_37 : decode cX6_readNumber 37 = .ok (.iadd, 1) := by decide +kernel
theorem dX6_readNumber_38 : decode cX6_readNumber 38 = .ok (.bipush 48, 2) := by decide +kernel
theorem dX6_readNumber_40 : decode cX6_readNumber 40 = .ok (.isub, 1) := by decide +kernel
theorem dX6_readNumber_41 : decode cX6_readNumber 41 = .ok (.bipush 41, 2) := by decide +kernel
theorem dX6_readNumber_43 : decode cX6_readNumber 43 = .ok (.invokestatic 79, 3) := by decide +kernel
theorem dX6_readNumber_46 : decode cX6_readNumber 46 = .ok (.istore_n 1, 1) := by decide +kernel
theorem dX6_readNumber_47 : decode cX6_readNumber 47 = .ok (.aload_n 0, 1) := by decide +kernel
theorem dX6_readNumber_48 : decode cX6_readNumber 48 = .ok (.dup, 1) := by decide +kernel
theorem dX6_readNumber_49 : decode cX6_readNumber 49 = .ok (.getfield 22, 3) := by decide +kernel
theorem dX6_readNumber_52 : decode cX6_readNumber 52 = .ok (.iconst 1, 1) := by decide +kernel
theorem dX6_readNumber_53 : decode cX6_readNumber 53 = .ok (.iadd, 1) := by decide +kernel
theorem dX6_readNumber_54 : decode cX6_readNumber 54 = .ok (.putfield 22, 3) := by decide +kernel
theorem dX6_readNumber_57 : decode cX6_readNumber 57 = .ok (.iinc 2 1, 3) := by decide +kernel
theorem dX6_readNumber_60 : decode cX6_readNumber 60 = .ok (.goto (-56), 3) := by decide +kernel
theorem dX6_readNumber_63 : decode cX6_readNumber 63 = .ok (.iload_n 1, 1) := by decide +kernel
theorem dX6_readNumber_64 : decode cX6_readNumber 64 = .ok (.ireturn, 1) := by decide +kernel
theorem dX6_addLiteral_0 : decode cX6_addLiteral 0 = .ok (.aload_n 0, 1) := by decide +kernel
theorem dX6_addLiteral_1 : decode cX6_addLiteral 1 = .ok (.getfield 44, 3) := by decide +kernel
theorem dX6_addLiteral_4 : decode cX6_addLiteral 4 = .ok (.ifCond .eq 33, 3) := by decide +kernel
theorem dX6_addLiteral_7 : decode cX6_addLiteral 7 = .ok (.aload_n 0, 1) := by decide +kernel
theorem dX6_addLiteral_8 : decode cX6_addLiteral 8 = .ok (.dup, 1) := by decide +kernel
theorem dX6_addLiteral_9 : decode cX6_addLiteral 9 = .ok (.getfield 48, 3) := by decide +kernel
theorem dX6_addLiteral_12 : decode cX6_addLiteral 12 = .ok (.lload_n 1, 1) := by decide +kernel
theorem dX6_addLiteral_13 : decode cX6_addLiteral 13 = .ok (.lxor, 1) := by decide +kernel
theorem dX6_addLiteral_14 : decode cX6_addLiteral 14 = .ok (.putfield 48, 3) := by decide +kernel
theorem dX6_addLiteral_17 : decode cX6_addLiteral 17 = .ok (.aload_n 0, 1) := by decide +kernel
theorem dX6_addLiteral_18 : decode cX6_addLiteral 18 = .ok (.aload_n 0, 1) := by decide +kernel
theorem dX6_addLiteral_19 : decode cX6_addLiteral 19 = .ok (.getfield 55, 3) := by decide +kernel
theorem dX6_addLiteral_22 : decode cX6_addLiteral 22 = .ok (.iload_n 3, 1) := by decide +kernel
theorem dX6_addLiteral_23 : decode cX6_addLiteral 23 = .ok (.if_icmp .eq 7, 3) := by decide +kernel
theorem dX6_addLiteral_26 : decode cX6_addLiteral 26 = .ok (.iconst 1, 1) := by decide +kernel
theorem dX6_addLiteral_27 : decode cX6_addLiteral 27 = .ok (.goto 4, 3) := by decide +kernel
theorem dX6_addLiteral_30 : decode cX6_addLiteral 30 = .ok (.iconst 0, 1) := by decide +kernel
theorem dX6_addLiteral_31 : decode cX6_addLiteral 31 = .ok (.putfield 55, 3) := by decide +kernel
theorem dX6_addLiteral_34 : decode cX6_addLiteral 34 = .ok (.goto 30, 3) := by decide +kernel
theorem dX6_addLiteral_37 : decode cX6_addLiteral 37 = .ok (.iload_n 3, 1) := by decide +kernel
theorem dX6_addLiteral_38 : decode cX6_addLiteral 38 = .ok (.ifCond .eq 16, 3) := by decide +kernel
theorem dX6_addLiteral_41 : decode cX6_addLiteral 41 = .ok (.aload_n 0, 1) := by decide +kernel
theorem dX6_addLiteral_42 : decode cX6_addLiteral 42 = .ok (.dup, 1) := by decide +kernel
theorem dX6_addLiteral_43 : decode cX6_addLiteral 43 = .ok (.getfield 52, 3) := by decide +kernel
theorem dX6_addLiteral_46 : decode cX6_addLiteral 46 = .ok (.lload_n 1, 1) := by decide +kernel
theorem dX6_addLiteral_47 : decode cX6_addLiteral 47 = .ok (.lor, 1) := by decide +kernel
theorem dX6_addLiteral_48 : decode cX6_addLiteral 48 = .ok (.putfield 52, 3) := by decide +kernel
theorem dX6_addLiteral_51 : decode cX6_addLiteral 51 = .ok (.goto 13, 3) := by decide +kernel
theorem dX6_addLiteral_54 : decode cX6_addLiteral 54 = .ok (.aload_n 0, 1) := by decide +kernel
theorem dX6_addLiteral_55 : decode cX6_addLiteral 55 = .ok (.dup, 1) := by decide +kernel
theorem dX6_addLiteral_56 : decode cX6_addLiteral 56 = .ok (.getfield 48, 3) := by decide +kernel
theorem dX6_addLiteral_59 : decode cX6_addLiteral 59 = .ok (.lload_n 1, 1) := by decide +kernel
theorem dX6_addLiteral_60 : decode cX6_addLiteral 60 = .ok (.lor, 1) := by decide +kernel
theorem dX6_addLiteral_61 : decode cX6_addLiteral 61 = .ok (.putfield 48, 3) := by decide +kernel
theorem dX6_addLiteral_64 : decode cX6_addLiteral 64 = .ok (.return_, 1) := by decide +kernel
set_option maxRecDepth 20000 in
theorem ggX6_keepLine_X4_addEquation : GoodIn wsX6_keepLine wsX4_addEquation := goodIn_r _ [11, 12, 13, 35, 36, 37, 38, 39, 40, 41, 42] (by decide +kernel) (by decide +kernel)
set_option maxRecDepth 20000 in
theorem gX6_keepLine_X4_addEquation : GoodIn wsX6_keepLine (wsV RX6 87 RX4 yX4_addEquation wsX4_addEquation) := goodIn_app (goodIn_of _ (by decide +kernel)) ggX6_keepLine_X4_addEquation
set_option maxRecDepth 20000 in
theorem ggX6_keepLine_X4_addClause : GoodIn wsX6_keepLine wsX4_addClause := goodIn_r _ [17, 18, 19, 20, 35, 36, 37, 38, 39, 40, 41, 42] (by decide +kernel) (by decide +kernel)
set_option maxRecDepth 20000 in
theorem gX6_keepLine_X4_addClause : GoodIn wsX6_keepLine (wsV RX6 93 RX4 yX4_addClause wsX4_addClause) := goodIn_app (goodIn_of _ (by decide +kernel)) ggX6_keepLine_X4_addClause
set_option maxRecDepth 20000 in
theorem ggX6_keepLine_X6_fail : GoodIn wsX6_keepLine wsX6_fail := goodIn_r _ [25, 26, 6, 27, 28, 29, 30, 31, 32, 33, 34] (by decide +kernel) (by decide +kernel)
set_option maxRecDepth 20000 in
theorem gX6_keepLine_X6_fail : GoodIn wsX6_keepLine (wsV RX6 61 RX6 yX6_fail wsX6_fail) := goodIn_app (goodIn_of _ (by decide +kernel)) ggX6_keepLine_X6_fail
theorem dX6_keepLine_0 : decode cX6_keepLine 0 = .ok (.iconst 1, 1) := by decide +kernel
theorem dX6_keepLine_1 : decode cX6_keepLine 1 = .ok (.istore_n 2, 1) := by decide +kernel
theorem dX6_keepLine_2 : decode cX6_keepLine 2 = .ok (.aload_n 0, 1) := by decide +kernel
theorem dX6_keepLine_3 : decode cX6_keepLine 3 = .ok (.getfield 44, 3) := by decide +kernel
theorem dX6_keepLine_6 : decode cX6_keepLine 6 = .ok (.ifCond .eq 33, 3) := by decide +kernel
theorem dX6_keepLine_9 : decode cX6_keepLine 9 = .ok (.aload_n 1, 1) := by decide +kernel
theorem dX6_keepLine_10 : decode cX6_keepLine 10 = .ok (.aload_n 0, 1) := by decide +kernel
theorem dX6_keepLine_11 : decode cX6_keepLine 11 = .ok (.getfield 55, 3) := by decide +kernel
theorem dX6_keepLine_14 : decode cX6_keepLine 14 = .ok (.ifCond .eq 14, 3) := by decide +kernel
theorem dX6_keepLine_17 : decode cX6_keepLine 17 = .ok (.aload_n 0, 1) := by decide +kernel
theorem dX6_keepLine_18 : decode cX6_keepLine 18 = .ok (.getfield 48, 3) := by decide +kernel
theorem dX6_keepLine_21 : decode cX6_keepLine 21 = .ok (.ldc2_w 85, 3) := by decide +kernel
theorem dX6_keepLine_24 : decode cX6_keepLine 24 = .ok (.lor, 1) := by decide +kernel
