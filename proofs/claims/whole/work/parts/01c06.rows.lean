theorem dX8_models_11 : decode cX8_models 11 = .ok (.invokevirtual 101, 3) := by decide +kernel
theorem dX8_models_14 : decode cX8_models 14 = .ok (.ifCond .ne 5, 3) := by decide +kernel
theorem dX8_models_17 : decode cX8_models 17 = .ok (.lconst 0, 1) := by decide +kernel
theorem dX8_models_18 : decode cX8_models 18 = .ok (.lreturn, 1) := by decide +kernel
theorem dX8_models_19 : decode cX8_models 19 = .ok (.aload_n 0, 1) := by decide +kernel
theorem dX8_models_20 : decode cX8_models 20 = .ok (.iconst 0, 1) := by decide +kernel
theorem dX8_models_21 : decode cX8_models 21 = .ok (.putfield 229, 3) := by decide +kernel
theorem dX8_models_24 : decode cX8_models 24 = .ok (.aload_n 0, 1) := by decide +kernel
theorem dX8_models_25 : decode cX8_models 25 = .ok (.lconst 0, 1) := by decide +kernel
theorem dX8_models_26 : decode cX8_models 26 = .ok (.lconst 0, 1) := by decide +kernel
theorem dX8_models_27 : decode cX8_models 27 = .ok (.iload_n 1, 1) := by decide +kernel
theorem dX8_models_28 : decode cX8_models 28 = .ok (.iconst 1, 1) := by decide +kernel
theorem dX8_models_29 : decode cX8_models 29 = .ok (.invokevirtual 237, 3) := by decide +kernel
theorem dX8_models_32 : decode cX8_models 32 = .ok (.bipush (-2), 2) := by decide +kernel
theorem dX8_models_34 : decode cX8_models 34 = .ok (.if_icmp .ne 9, 3) := by decide +kernel
theorem dX8_models_37 : decode cX8_models 37 = .ok (.ldc2_w 241, 3) := by decide +kernel
theorem dX8_models_40 : decode cX8_models 40 = .ok (.goto 7, 3) := by decide +kernel
theorem dX8_models_43 : decode cX8_models 43 = .ok (.aload_n 0, 1) := by decide +kernel
theorem dX8_models_44 : decode cX8_models 44 = .ok (.getfield 226, 3) := by decide +kernel
theorem dX8_models_47 : decode cX8_models 47 = .ok (.lreturn, 1) := by decide +kernel
theorem dX8_nodes_0 : decode cX8_nodes 0 = .ok (.aload_n 0, 1) := by decide +kernel
theorem dX8_nodes_1 : decode cX8_nodes 1 = .ok (.iconst 0, 1) := by decide +kernel
theorem dX8_nodes_2 : decode cX8_nodes 2 = .ok (.putfield 81, 3) := by decide +kernel
theorem dX8_nodes_5 : decode cX8_nodes 5 = .ok (.aload_n 0, 1) := by decide +kernel
theorem dX8_nodes_6 : decode cX8_nodes 6 = .ok (.getfield 229, 3) := by decide +kernel
theorem dX8_nodes_9 : decode cX8_nodes 9 = .ok (.ireturn, 1) := by decide +kernel
set_option maxRecDepth 20000 in
theorem ggX8_must_X8_isIn : GoodIn wsX8_must wsX8_isIn := goodIn_r _ [7] (by decide +kernel) (by decide +kernel)
set_option maxRecDepth 20000 in
theorem gX8_must_X8_isIn : GoodIn wsX8_must (va_wsS RX8 94 yX8_isIn wsX8_isIn) := goodIn_app (goodIn_of _ (by decide +kernel)) ggX8_must_X8_isIn
set_option maxRecDepth 20000 in
theorem ggX8_must_X8_may : GoodIn wsX8_must wsX8_may := goodIn_r _ [11, 12, 71, 72, 73, 74, 75, 76, 77, 78, 79, 80, 81, 82, 83, 84, 85, 86, 87, 88, 89, 90, 91, 92, 93, 94, 95, 96, 97, 98, 99, 100, 101, 102, 103, 104, 105, 106, 107, 108, 109, 110, 111, 112, 113] (by decide +kernel) (by decide +kernel)
set_option maxRecDepth 20000 in
theorem gX8_must_X8_may : GoodIn wsX8_must (wsV RX8 101 RX8 yX8_may wsX8_may) := goodIn_app (goodIn_of _ (by decide +kernel)) ggX8_must_X8_may
set_option maxRecDepth 20000 in
theorem ggX8_must_X8_search : GoodIn wsX8_must wsX8_search := goodIn_r _ [16, 17, 18, 19, 3, 20, 21, 1, 22, 23, 24, 25, 26, 6, 27, 28, 29, 30, 31, 32, 33, 34, 35, 36, 37, 38, 39, 40, 41, 42, 43, 44, 45, 46, 47, 48, 49, 50, 51, 52, 53, 54, 55, 56, 57, 58, 59, 60, 61, 62, 63, 64, 65, 66, 67, 68, 69, 70, 71, 72, 73, 74, 75, 76, 77, 78, 79, 80, 81, 82, 83, 84, 85, 86, 87, 88, 89, 90, 91, 92, 93, 94, 95, 96, 97, 98, 99, 100, 101, 102, 103, 104, 105, 106, 107, 108, 109, 110, 111, 112, 113] (by decide +kernel) (by decide +kernel)
set_option maxRecDepth 20000 in
theorem gX8_must_X8_search : GoodIn wsX8_must (wsV RX8 237 RX8 yX8_search wsX8_search) := goodIn_app (goodIn_of _ (by decide +kernel)) ggX8_must_X8_search
theorem dX8_must_0 : decode cX8_must 0 = .ok (.aload_n 0, 1) := by decide +kernel
theorem dX8_must_1 : decode cX8_must 1 = .ok (.iload_n 1, 1) := by decide +kernel
theorem dX8_must_2 : decode cX8_must 2 = .ok (.i2l, 1) := by decide +kernel
theorem dX8_must_3 : decode cX8_must 3 = .ok (.lconst 1, 1) := by decide +kernel
theorem dX8_must_4 : decode cX8_must 4 = .ok (.aload_n 0, 1) := by decide +kernel
theorem dX8_must_5 : decode cX8_must 5 = .ok (.getfield 77, 3) := by decide +kernel
theorem dX8_must_8 : decode cX8_must 8 = .ok (.i2l, 1) := by decide +kernel
theorem dX8_must_9 : decode cX8_must 9 = .ok (.invokestatic 94, 3) := by decide +kernel
theorem dX8_must_12 : decode cX8_must 12 = .ok (.iload_n 2, 1) := by decide +kernel
theorem dX8_must_13 : decode cX8_must 13 = .ok (.i2l, 1) := by decide +kernel
theorem dX8_must_14 : decode cX8_must 14 = .ok (.lconst 1, 1) := by decide +kernel
theorem dX8_must_15 : decode cX8_must 15 = .ok (.ldc2_w 235, 3) := by decide +kernel
theorem dX8_must_18 : decode cX8_must 18 = .ok (.invokestatic 94, 3) := by decide +kernel
theorem dX8_must_21 : decode cX8_must 21 = .ok (.invokevirtual 101, 3) := by decide +kernel
theorem dX8_must_24 : decode cX8_must 24 = .ok (.ifCond .ne 5, 3) := by decide +kernel
theorem dX8_must_27 : decode cX8_must 27 = .ok (.iconst 0, 1) := by decide +kernel
theorem dX8_must_28 : decode cX8_must 28 = .ok (.ireturn, 1) := by decide +kernel
theorem dX8_must_29 : decode cX8_must 29 = .ok (.aload_n 0, 1) := by decide +kernel
theorem dX8_must_30 : decode cX8_must 30 = .ok (.iconst 0, 1) := by decide +kernel
theorem dX8_must_31 : decode cX8_must 31 = .ok (.putfield 229, 3) := by decide +kernel
theorem dX8_must_34 : decode cX8_must 34 = .ok (.lconst 1, 1) := by decide +kernel
theorem dX8_must_35 : decode cX8_must 35 = .ok (.iload_n 1, 1) := by decide +kernel
theorem dX8_must_36 : decode cX8_must 36 = .ok (.iconst 1, 1) := by decide +kernel
theorem dX8_must_37 : decode cX8_must 37 = .ok (.isub, 1) := by decide +kernel
theorem dX8_must_38 : decode cX8_must 38 = .ok (.lshl, 1) := by decide +kernel
theorem dX8_must_39 : decode cX8_must 39 = .ok (.lstore_n 3, 1) := by decide +kernel
theorem dX8_must_40 : decode cX8_must 40 = .ok (.aload_n 0, 1) := by decide +kernel
theorem dX8_must_41 : decode cX8_must 41 = .ok (.lload_n 3, 1) := by decide +kernel
theorem dX8_must_42 : decode cX8_must 42 = .ok (.lconst 0, 1) := by decide +kernel
theorem dX8_must_43 : decode cX8_must 43 = .ok (.iload_n 2, 1) := by decide +kernel
theorem dX8_must_44 : decode cX8_must 44 = .ok (.iconst 0, 1) := by decide +kernel
theorem dX8_must_45 : decode cX8_must 45 = .ok (.invokevirtual 237, 3) := by decide +kernel
theorem dX8_must_48 : decode cX8_must 48 = .ok (.istore 5, 2) := by decide +kernel
theorem dX8_must_50 : decode cX8_must 50 = .ok (.iload 5, 2) := by decide +kernel
theorem dX8_must_52 : decode cX8_must 52 = .ok (.bipush (-2), 2) := by decide +kernel
theorem dX8_must_54 : decode cX8_must 54 = .ok (.if_icmp .ne 6, 3) := by decide +kernel
theorem dX8_must_57 : decode cX8_must 57 = .ok (.bipush (-2), 2) := by decide +kernel
theorem dX8_must_59 : decode cX8_must 59 = .ok (.ireturn, 1) := by decide +kernel
theorem dX8_must_60 : decode cX8_must 60 = .ok (.aload_n 0, 1) := by decide +kernel
theorem dX8_must_61 : decode cX8_must 61 = .ok (.lload_n 3, 1) := by decide +kernel
theorem dX8_must_62 : decode cX8_must 62 = .ok (.lload_n 3, 1) := by decide +kernel
theorem dX8_must_63 : decode cX8_must 63 = .ok (.iload_n 2, 1) := by decide +kernel
theorem dX8_must_64 : decode cX8_must 64 = .ok (.iconst 0, 1) := by decide +kernel
theorem dX8_must_65 : decode cX8_must 65 = .ok (.invokevirtual 237, 3) := by decide +kernel
theorem dX8_must_68 : decode cX8_must 68 = .ok (.istore 6, 2) := by decide +kernel
theorem dX8_must_70 : decode cX8_must 70 = .ok (.iload 6, 2) := by decide +kernel
theorem dX8_must_72 : decode cX8_must 72 = .ok (.bipush (-2), 2) := by decide +kernel
theorem dX8_must_74 : decode cX8_must 74 = .ok (.if_icmp .ne 8, 3) := by decide +kernel
theorem dX8_must_77 : decode cX8_must 77 = .ok (.bipush (-2), 2) := by decide +kernel
theorem dX8_must_79 : decode cX8_must 79 = .ok (.goto 16, 3) := by decide +kernel
theorem dX8_must_82 : decode cX8_must 82 = .ok (.iload 6, 2) := by decide +kernel
theorem dX8_must_84 : decode cX8_must 84 = .ok (.iload 5, 2) := by decide +kernel
theorem dX8_must_86 : decode cX8_must 86 = .ok (.if_icmp .ne 7, 3) := by decide +kernel
theorem dX8_must_89 : decode cX8_must 89 = .ok (.iconst (-1), 1) := by decide +kernel
theorem dX8_must_90 : decode cX8_must 90 = .ok (.goto 5, 3) := by decide +kernel
theorem dX8_must_93 : decode cX8_must 93 = .ok (.iload 6, 2) := by decide +kernel
theorem dX8_must_95 : decode cX8_must 95 = .ok (.ireturn, 1) := by decide +kernel
set_option maxRecDepth 20000 in
theorem ggX8_isGate_X8_parity : GoodIn wsX8_isGate wsX8_parity := goodIn_r _ [7, 8, 9, 6, 10] (by decide +kernel) (by decide +kernel)
set_option maxRecDepth 20000 in
theorem gX8_isGate_X8_parity : GoodIn wsX8_isGate (va_wsS RX8 179 yX8_parity wsX8_parity) := goodIn_app (goodIn_of _ (by decide +kernel)) ggX8_isGate_X8_parity
set_option maxRecDepth 20000 in
theorem ggX8_isGate_X8_bits : GoodIn wsX8_isGate wsX8_bits := goodIn_r _ [10] (by decide +kernel) (by decide +kernel)
set_option maxRecDepth 20000 in
theorem gX8_isGate_X8_bits : GoodIn wsX8_isGate (va_wsS RX8 84 yX8_bits wsX8_bits) := goodIn_app (goodIn_of _ (by decide +kernel)) ggX8_isGate_X8_bits
theorem dX8_isGate_0 : decode cX8_isGate 0 = .ok (.iconst 0, 1) := by decide +kernel
theorem dX8_isGate_1 : decode cX8_isGate 1 = .ok (.istore 4, 2) := by decide +kernel
theorem dX8_isGate_3 : decode cX8_isGate 3 = .ok (.iconst 0, 1) := by decide +kernel
theorem dX8_isGate_4 : decode cX8_isGate 4 = .ok (.istore 5, 2) := by decide +kernel
theorem dX8_isGate_6 : decode cX8_isGate 6 = .ok (.iload 5, 2) := by decide +kernel
theorem dX8_isGate_8 : decode cX8_isGate 8 = .ok (.aload_n 0, 1) := by decide +kernel
theorem dX8_isGate_9 : decode cX8_isGate 9 = .ok (.getfield 105, 3) := by decide +kernel
theorem dX8_isGate_12 : decode cX8_isGate 12 = .ok (.if_icmp .ge 129, 3) := by decide +kernel
theorem dX8_isGate_15 : decode cX8_isGate 15 = .ok (.aload_n 0, 1) := by decide +kernel
theorem dX8_isGate_16 : decode cX8_isGate 16 = .ok (.getfield 17, 3) := by decide +kernel
theorem dX8_isGate_19 : decode cX8_isGate 19 = .ok (.iload 5, 2) := by decide +kernel
theorem dX8_isGate_21 : decode cX8_isGate 21 = .ok (.laload, 1) := by decide +kernel
theorem dX8_isGate_22 : decode cX8_isGate 22 = .ok (.aload_n 0, 1) := by decide +kernel
theorem dX8_isGate_23 : decode cX8_isGate 23 = .ok (.getfield 20, 3) := by decide +kernel
theorem dX8_isGate_26 : decode cX8_isGate 26 = .ok (.iload 5, 2) := by decide +kernel
theorem dX8_isGate_28 : decode cX8_isGate 28 = .ok (.laload, 1) := by decide +kernel
theorem dX8_isGate_29 : decode cX8_isGate 29 = .ok (.lor, 1) := by decide +kernel
theorem dX8_isGate_30 : decode cX8_isGate 30 = .ok (.lload_n 1, 1) := by decide +kernel
theorem dX8_isGate_31 : decode cX8_isGate 31 = .ok (.lcmp, 1) := by decide +kernel
theorem dX8_isGate_32 : decode cX8_isGate 32 = .ok (.ifCond .ne 21, 3) := by decide +kernel
theorem dX8_isGate_35 : decode cX8_isGate 35 = .ok (.aload_n 0, 1) := by decide +kernel
theorem dX8_isGate_36 : decode cX8_isGate 36 = .ok (.getfield 20, 3) := by decide +kernel
theorem dX8_isGate_39 : decode cX8_isGate 39 = .ok (.iload 5, 2) := by decide +kernel
theorem dX8_isGate_41 : decode cX8_isGate 41 = .ok (.laload, 1) := by decide +kernel
theorem dX8_isGate_42 : decode cX8_isGate 42 = .ok (.invokestatic 179, 3) := by decide +kernel
theorem dX8_isGate_45 : decode cX8_isGate 45 = .ok (.iload_n 3, 1) := by decide +kernel
theorem dX8_isGate_46 : decode cX8_isGate 46 = .ok (.if_icmp .eq 7, 3) := by decide +kernel
theorem dX8_isGate_49 : decode cX8_isGate 49 = .ok (.iconst 1, 1) := by decide +kernel
theorem dX8_isGate_50 : decode cX8_isGate 50 = .ok (.goto 4, 3) := by decide +kernel
theorem dX8_isGate_53 : decode cX8_isGate 53 = .ok (.iconst 0, 1) := by decide +kernel
theorem dX8_isGate_54 : decode cX8_isGate 54 = .ok (.istore 6, 2) := by decide +kernel
theorem dX8_isGate_56 : decode cX8_isGate 56 = .ok (.iconst 0, 1) := by decide +kernel
theorem dX8_isGate_57 : decode cX8_isGate 57 = .ok (.istore 7, 2) := by decide +kernel
theorem dX8_isGate_59 : decode cX8_isGate 59 = .ok (.iload 7, 2) := by decide +kernel
theorem dX8_isGate_61 : decode cX8_isGate 61 = .ok (.iload 5, 2) := by decide +kernel
theorem dX8_isGate_63 : decode cX8_isGate 63 = .ok (.if_icmp .ge 57, 3) := by decide +kernel
theorem dX8_isGate_66 : decode cX8_isGate 66 = .ok (.iload 6, 2) := by decide +kernel
theorem dX8_isGate_68 : decode cX8_isGate 68 = .ok (.ifCond .eq 52, 3) := by decide +kernel
theorem dX8_isGate_71 : decode cX8_isGate 71 = .ok (.aload_n 0, 1) := by decide +kernel
theorem dX8_isGate_72 : decode cX8_isGate 72 = .ok (.getfield 17, 3) := by decide +kernel
theorem dX8_isGate_75 : decode cX8_isGate 75 = .ok (.iload 7, 2) := by decide +kernel
theorem dX8_isGate_77 : decode cX8_isGate 77 = .ok (.laload, 1) := by decide +kernel
theorem dX8_isGate_78 : decode cX8_isGate 78 = .ok (.aload_n 0, 1) := by decide +kernel
theorem dX8_isGate_79 : decode cX8_isGate 79 = .ok (.getfield 17, 3) := by decide +kernel
theorem dX8_isGate_82 : decode cX8_isGate 82 = .ok (.iload 5, 2) := by decide +kernel
theorem dX8_isGate_84 : decode cX8_isGate 84 = .ok (.laload, 1) := by decide +kernel
theorem dX8_isGate_85 : decode cX8_isGate 85 = .ok (.lcmp, 1) := by decide +kernel
theorem dX8_isGate_86 : decode cX8_isGate 86 = .ok (.ifCond .ne 21, 3) := by decide +kernel
theorem dX8_isGate_89 : decode cX8_isGate 89 = .ok (.aload_n 0, 1) := by decide +kernel
theorem dX8_isGate_90 : decode cX8_isGate 90 = .ok (.getfield 20, 3) := by decide +kernel
theorem dX8_isGate_93 : decode cX8_isGate 93 = .ok (.iload 7, 2) := by decide +kernel
theorem dX8_isGate_95 : decode cX8_isGate 95 = .ok (.laload, 1) := by decide +kernel
theorem dX8_isGate_96 : decode cX8_isGate 96 = .ok (.aload_n 0, 1) := by decide +kernel
theorem dX8_isGate_97 : decode cX8_isGate 97 = .ok (.getfield 20, 3) := by decide +kernel
theorem dX8_isGate_100 : decode cX8_isGate 100 = .ok (.iload 5, 2) := by decide +kernel
theorem dX8_isGate_102 : decode cX8_isGate 102 = .ok (.laload, 1) := by decide +kernel
theorem dX8_isGate_103 : decode cX8_isGate 103 = .ok (.lcmp, 1) := by decide +kernel
theorem dX8_isGate_104 : decode cX8_isGate 104 = .ok (.ifCond .eq 7, 3) := by decide +kernel
theorem dX8_isGate_107 : decode cX8_isGate 107 = .ok (.iconst 1, 1) := by decide +kernel
theorem dX8_isGate_108 : decode cX8_isGate 108 = .ok (.goto 4, 3) := by decide +kernel
theorem dX8_isGate_111 : decode cX8_isGate 111 = .ok (.iconst 0, 1) := by decide +kernel
theorem dX8_isGate_112 : decode cX8_isGate 112 = .ok (.istore 6, 2) := by decide +kernel
theorem dX8_isGate_114 : decode cX8_isGate 114 = .ok (.iinc 7 1, 3) := by decide +kernel
theorem dX8_isGate_117 : decode cX8_isGate 117 = .ok (.goto (-58), 3) := by decide +kernel
theorem dX8_isGate_120 : decode cX8_isGate 120 = .ok (.iload 4, 2) := by decide +kernel
theorem dX8_isGate_122 : decode cX8_isGate 122 = .ok (.iload 6, 2) := by decide +kernel
theorem dX8_isGate_124 : decode cX8_isGate 124 = .ok (.ifCond .eq 7, 3) := by decide +kernel
theorem dX8_isGate_127 : decode cX8_isGate 127 = .ok (.iconst 1, 1) := by decide +kernel
theorem dX8_isGate_128 : decode cX8_isGate 128 = .ok (.goto 4, 3) := by decide +kernel
theorem dX8_isGate_131 : decode cX8_isGate 131 = .ok (.iconst 0, 1) := by decide +kernel
theorem dX8_isGate_132 : decode cX8_isGate 132 = .ok (.iadd, 1) := by decide +kernel
theorem dX8_isGate_133 : decode cX8_isGate 133 = .ok (.istore 4, 2) := by decide +kernel
theorem dX8_isGate_135 : decode cX8_isGate 135 = .ok (.iinc 5 1, 3) := by decide +kernel
theorem dX8_isGate_138 : decode cX8_isGate 138 = .ok (.goto (-132), 3) := by decide +kernel
theorem dX8_isGate_141 : decode cX8_isGate 141 = .ok (.iload 4, 2) := by decide +kernel
theorem dX8_isGate_143 : decode cX8_isGate 143 = .ok (.iconst 1, 1) := by decide +kernel
theorem dX8_isGate_144 : decode cX8_isGate 144 = .ok (.lload_n 1, 1) := by decide +kernel
theorem dX8_isGate_145 : decode cX8_isGate 145 = .ok (.invokestatic 84, 3) := by decide +kernel
theorem dX8_isGate_148 : decode cX8_isGate 148 = .ok (.iconst 1, 1) := by decide +kernel
theorem dX8_isGate_149 : decode cX8_isGate 149 = .ok (.isub, 1) := by decide +kernel
theorem dX8_isGate_150 : decode cX8_isGate 150 = .ok (.ishl, 1) := by decide +kernel
theorem dX8_isGate_151 : decode cX8_isGate 151 = .ok (.if_icmp .ne 7, 3) := by decide +kernel
theorem dX8_isGate_154 : decode cX8_isGate 154 = .ok (.iconst 1, 1) := by decide +kernel
theorem dX8_isGate_155 : decode cX8_isGate 155 = .ok (.goto 4, 3) := by decide +kernel
theorem dX8_isGate_158 : decode cX8_isGate 158 = .ok (.iconst 0, 1) := by decide +kernel
theorem dX8_isGate_159 : decode cX8_isGate 159 = .ok (.ireturn, 1) := by decide +kernel
set_option maxRecDepth 20000 in
theorem ggX8_findGates_X8_bits : GoodIn wsX8_findGates wsX8_bits := goodIn_r _ [12] (by decide +kernel) (by decide +kernel)
set_option maxRecDepth 20000 in
theorem gX8_findGates_X8_bits : GoodIn wsX8_findGates (va_wsS RX8 84 yX8_bits wsX8_bits) := goodIn_app (goodIn_of _ (by decide +kernel)) ggX8_findGates_X8_bits
set_option maxRecDepth 20000 in
theorem ggX8_findGates_X8_isIn : GoodIn wsX8_findGates wsX8_isIn := goodIn_r _ [15] (by decide +kernel) (by decide +kernel)
set_option maxRecDepth 20000 in
theorem gX8_findGates_X8_isIn : GoodIn wsX8_findGates (va_wsS RX8 94 yX8_isIn wsX8_isIn) := goodIn_app (goodIn_of _ (by decide +kernel)) ggX8_findGates_X8_isIn
set_option maxRecDepth 20000 in
theorem ggX8_findGates_X8_isGate : GoodIn wsX8_findGates wsX8_isGate := goodIn_r _ [19, 3, 4, 5, 20, 21, 11, 22, 9, 10, 12, 23, 24, 25, 26, 27, 28, 29, 30, 31, 32, 33, 34, 35, 36, 37, 38, 39, 40, 41, 42, 43, 44, 45, 46, 47, 48, 49, 50, 51, 52, 53, 54, 55, 56, 57, 58, 59, 60, 61, 62, 63, 64, 65] (by decide +kernel) (by decide +kernel)
set_option maxRecDepth 20000 in
theorem gX8_findGates_X8_isGate : GoodIn wsX8_findGates (wsV RX8 250 RX8 yX8_isGate wsX8_isGate) := goodIn_app (goodIn_of _ (by decide +kernel)) ggX8_findGates_X8_isGate
theorem dX8_findGates_0 : decode cX8_findGates 0 = .ok (.aload_n 0, 1) := by decide +kernel
theorem dX8_findGates_1 : decode cX8_findGates 1 = .ok (.iconst 0, 1) := by decide +kernel
theorem dX8_findGates_2 : decode cX8_findGates 2 = .ok (.putfield 243, 3) := by decide +kernel
theorem dX8_findGates_5 : decode cX8_findGates 5 = .ok (.lconst 0, 1) := by decide +kernel
theorem dX8_findGates_6 : decode cX8_findGates 6 = .ok (.lstore_n 1, 1) := by decide +kernel
theorem dX8_findGates_7 : decode cX8_findGates 7 = .ok (.iconst 1, 1) := by decide +kernel
theorem dX8_findGates_8 : decode cX8_findGates 8 = .ok (.istore_n 3, 1) := by decide +kernel
theorem dX8_findGates_9 : decode cX8_findGates 9 = .ok (.iload_n 3, 1) := by decide +kernel
theorem dX8_findGates_10 : decode cX8_findGates 10 = .ok (.ifCond .eq 171, 3) := by decide +kernel
theorem dX8_findGates_13 : decode cX8_findGates 13 = .ok (.ldc2_w 88, 3) := by decide +kernel
theorem dX8_findGates_16 : decode cX8_findGates 16 = .ok (.lstore 4, 2) := by decide +kernel
theorem dX8_findGates_18 : decode cX8_findGates 18 = .ok (.iconst 0, 1) := by decide +kernel
theorem dX8_findGates_19 : decode cX8_findGates 19 = .ok (.istore 6, 2) := by decide +kernel
theorem dX8_findGates_21 : decode cX8_findGates 21 = .ok (.iload 6, 2) := by decide +kernel
theorem dX8_findGates_23 : decode cX8_findGates 23 = .ok (.aload_n 0, 1) := by decide +kernel
theorem dX8_findGates_24 : decode cX8_findGates 24 = .ok (.getfield 105, 3) := by decide +kernel
theorem dX8_findGates_27 : decode cX8_findGates 27 = .ok (.if_icmp .ge 68, 3) := by decide +kernel
theorem dX8_findGates_30 : decode cX8_findGates 30 = .ok (.aload_n 0, 1) := by decide +kernel
theorem dX8_findGates_31 : decode cX8_findGates 31 = .ok (.getfield 17, 3) := by decide +kernel
theorem dX8_findGates_34 : decode cX8_findGates 34 = .ok (.iload 6, 2) := by decide +kernel
theorem dX8_findGates_36 : decode cX8_findGates 36 = .ok (.laload, 1) := by decide +kernel
theorem dX8_findGates_37 : decode cX8_findGates 37 = .ok (.aload_n 0, 1) := by decide +kernel
theorem dX8_findGates_38 : decode cX8_findGates 38 = .ok (.getfield 20, 3) := by decide +kernel
theorem dX8_findGates_41 : decode cX8_findGates 41 = .ok (.iload 6, 2) := by decide +kernel
theorem dX8_findGates_43 : decode cX8_findGates 43 = .ok (.laload, 1) := by decide +kernel
theorem dX8_findGates_44 : decode cX8_findGates 44 = .ok (.lor, 1) := by decide +kernel
theorem dX8_findGates_45 : decode cX8_findGates 45 = .ok (.lstore 7, 2) := by decide +kernel
theorem dX8_findGates_47 : decode cX8_findGates 47 = .ok (.lload 7, 2) := by decide +kernel
theorem dX8_findGates_49 : decode cX8_findGates 49 = .ok (.lload_n 1, 1) := by decide +kernel
theorem dX8_findGates_50 : decode cX8_findGates 50 = .ok (.lcmp, 1) := by decide +kernel
theorem dX8_findGates_51 : decode cX8_findGates 51 = .ok (.ifCond .le 34, 3) := by decide +kernel
theorem dX8_findGates_54 : decode cX8_findGates 54 = .ok (.lload 7, 2) := by decide +kernel
theorem dX8_findGates_56 : decode cX8_findGates 56 = .ok (.lload 4, 2) := by decide +kernel
theorem dX8_findGates_58 : decode cX8_findGates 58 = .ok (.lcmp, 1) := by decide +kernel
theorem dX8_findGates_59 : decode cX8_findGates 59 = .ok (.ifCond .ge 26, 3) := by decide +kernel
theorem dX8_findGates_62 : decode cX8_findGates 62 = .ok (.lload 7, 2) := by decide +kernel
theorem dX8_findGates_64 : decode cX8_findGates 64 = .ok (.invokestatic 84, 3) := by decide +kernel
theorem dX8_findGates_67 : decode cX8_findGates 67 = .ok (.i2l, 1) := by decide +kernel
theorem dX8_findGates_68 : decode cX8_findGates 68 = .ok (.ldc2_w 246, 3) := by decide +kernel
theorem dX8_findGates_71 : decode cX8_findGates 71 = .ok (.ldc2_w 248, 3) := by decide +kernel
theorem dX8_findGates_74 : decode cX8_findGates 74 = .ok (.invokestatic 94, 3) := by decide +kernel
theorem dX8_findGates_77 : decode cX8_findGates 77 = .ok (.ifCond .eq 8, 3) := by decide +kernel
theorem dX8_findGates_80 : decode cX8_findGates 80 = .ok (.lload 7, 2) := by decide +kernel
theorem dX8_findGates_82 : decode cX8_findGates 82 = .ok (.goto 5, 3) := by decide +kernel
theorem dX8_findGates_85 : decode cX8_findGates 85 = .ok (.lload 4, 2) := by decide +kernel
theorem dX8_findGates_87 : decode cX8_findGates 87 = .ok (.lstore 4, 2) := by decide +kernel
theorem dX8_findGates_89 : decode cX8_findGates 89 = .ok (.iinc 6 1, 3) := by decide +kernel
theorem dX8_findGates_92 : decode cX8_findGates 92 = .ok (.goto (-71), 3) := by decide +kernel
theorem dX8_findGates_95 : decode cX8_findGates 95 = .ok (.lload 4, 2) := by decide +kernel
theorem dX8_findGates_97 : decode cX8_findGates 97 = .ok (.ldc2_w 88, 3) := by decide +kernel
theorem dX8_findGates_100 : decode cX8_findGates 100 = .ok (.lcmp, 1) := by decide +kernel
theorem dX8_findGates_101 : decode cX8_findGates 101 = .ok (.ifCond .eq 7, 3) := by decide +kernel
theorem dX8_findGates_104 : decode cX8_findGates 104 = .ok (.iconst 1, 1) := by decide +kernel
theorem dX8_findGates_105 : decode cX8_findGates 105 = .ok (.goto 4, 3) := by decide +kernel
theorem dX8_findGates_108 : decode cX8_findGates 108 = .ok (.iconst 0, 1) := by decide +kernel
theorem dX8_findGates_109 : decode cX8_findGates 109 = .ok (.istore_n 3, 1) := by decide +kernel
theorem dX8_findGates_110 : decode cX8_findGates 110 = .ok (.iconst 0, 1) := by decide +kernel
theorem dX8_findGates_111 : decode cX8_findGates 111 = .ok (.istore 6, 2) := by decide +kernel
theorem dX8_findGates_113 : decode cX8_findGates 113 = .ok (.iload 6, 2) := by decide +kernel
theorem dX8_findGates_115 : decode cX8_findGates 115 = .ok (.iconst 2, 1) := by decide +kernel
theorem dX8_findGates_116 : decode cX8_findGates 116 = .ok (.if_icmp .ge 59, 3) := by decide +kernel
theorem dX8_findGates_119 : decode cX8_findGates 119 = .ok (.iload_n 3, 1) := by decide +kernel
theorem dX8_findGates_120 : decode cX8_findGates 120 = .ok (.ifCond .eq 55, 3) := by decide +kernel
theorem dX8_findGates_123 : decode cX8_findGates 123 = .ok (.aload_n 0, 1) := by decide +kernel
theorem dX8_findGates_124 : decode cX8_findGates 124 = .ok (.lload 4, 2) := by decide +kernel
theorem dX8_findGates_126 : decode cX8_findGates 126 = .ok (.iload 6, 2) := by decide +kernel
theorem dX8_findGates_128 : decode cX8_findGates 128 = .ok (.invokevirtual 250, 3) := by decide +kernel
theorem dX8_findGates_131 : decode cX8_findGates 131 = .ok (.ifCond .eq 38, 3) := by decide +kernel
theorem dX8_findGates_134 : decode cX8_findGates 134 = .ok (.aload_n 0, 1) := by decide +kernel
theorem dX8_findGates_135 : decode cX8_findGates 135 = .ok (.getfield 74, 3) := by decide +kernel
theorem dX8_findGates_138 : decode cX8_findGates 138 = .ok (.aload_n 0, 1) := by decide +kernel
theorem dX8_findGates_139 : decode cX8_findGates 139 = .ok (.getfield 243, 3) := by decide +kernel
theorem dX8_findGates_142 : decode cX8_findGates 142 = .ok (.lload 4, 2) := by decide +kernel
theorem dX8_findGates_144 : decode cX8_findGates 144 = .ok (.iload 6, 2) := by decide +kernel
theorem dX8_findGates_146 : decode cX8_findGates 146 = .ok (.iconst 1, 1) := by decide +kernel
theorem dX8_findGates_147 : decode cX8_findGates 147 = .ok (.if_icmp .ne 9, 3) := by decide +kernel
theorem dX8_findGates_150 : decode cX8_findGates 150 = .ok (.ldc2_w 88, 3) := by decide +kernel
theorem dX8_findGates_153 : decode cX8_findGates 153 = .ok (.goto 4, 3) := by decide +kernel
theorem dX8_findGates_156 : decode cX8_findGates 156 = .ok (.lconst 0, 1) := by decide +kernel
theorem dX8_findGates_157 : decode cX8_findGates 157 = .ok (.lor, 1) := by decide +kernel
theorem dX8_findGates_158 : decode cX8_findGates 158 = .ok (.lastore, 1) := by decide +kernel
theorem dX8_findGates_159 : decode cX8_findGates 159 = .ok (.aload_n 0, 1) := by decide +kernel
theorem dX8_findGates_160 : decode cX8_findGates 160 = .ok (.dup, 1) := by decide +kernel
theorem dX8_findGates_161 : decode cX8_findGates 161 = .ok (.getfield 243, 3) := by decide +kernel
theorem dX8_findGates_164 : decode cX8_findGates 164 = .ok (.iconst 1, 1) := by decide +kernel
theorem dX8_findGates_165 : decode cX8_findGates 165 = .ok (.iadd, 1) := by decide +kernel
theorem dX8_findGates_166 : decode cX8_findGates 166 = .ok (.putfield 243, 3) := by decide +kernel
theorem dX8_findGates_169 : decode cX8_findGates 169 = .ok (.iinc 6 1, 3) := by decide +kernel
theorem dX8_findGates_172 : decode cX8_findGates 172 = .ok (.goto (-59), 3) := by decide +kernel
theorem dX8_findGates_175 : decode cX8_findGates 175 = .ok (.lload 4, 2) := by decide +kernel
theorem dX8_findGates_177 : decode cX8_findGates 177 = .ok (.lstore_n 1, 1) := by decide +kernel
theorem dX8_findGates_178 : decode cX8_findGates 178 = .ok (.goto (-169), 3) := by decide +kernel
theorem dX8_findGates_181 : decode cX8_findGates 181 = .ok (.return_, 1) := by decide +kernel
set_option maxRecDepth 20000 in
theorem ggX8_gates_X8_findGates : GoodIn wsX8_gates wsX8_findGates := goodIn_r _ [7, 2, 8, 9, 10, 11, 12, 13, 14, 15, 16, 6, 17, 18, 19, 20, 21, 22, 23, 24, 25, 26, 27, 28, 29, 30, 31, 32, 33, 34, 35, 36, 37, 38, 39, 40, 41, 42, 43, 44, 45, 46, 47, 48, 49, 50, 51, 52, 53, 54, 55, 56, 57, 58, 59, 60, 61, 62, 63, 64, 65, 66, 67, 68, 69, 70] (by decide +kernel) (by decide +kernel)
set_option maxRecDepth 20000 in
theorem gX8_gates_X8_findGates : GoodIn wsX8_gates (wsV RX8 254 RX8 yX8_findGates wsX8_findGates) := goodIn_app (goodIn_of _ (by decide +kernel)) ggX8_gates_X8_findGates
theorem dX8_gates_0 : decode cX8_gates 0 = .ok (.aload_n 0, 1) := by decide +kernel
theorem dX8_gates_1 : decode cX8_gates 1 = .ok (.iconst 0, 1) := by decide +kernel
theorem dX8_gates_2 : decode cX8_gates 2 = .ok (.putfield 81, 3) := by decide +kernel
theorem dX8_gates_5 : decode cX8_gates 5 = .ok (.aload_n 0, 1) := by decide +kernel
theorem dX8_gates_6 : decode cX8_gates 6 = .ok (.invokevirtual 254, 3) := by decide +kernel
theorem dX8_gates_9 : decode cX8_gates 9 = .ok (.aload_n 0, 1) := by decide +kernel
theorem dX8_gates_10 : decode cX8_gates 10 = .ok (.getfield 243, 3) := by decide +kernel
theorem dX8_gates_13 : decode cX8_gates 13 = .ok (.ireturn, 1) := by decide +kernel
set_option maxRecDepth 20000 in
theorem ggX8_gate_X8_findGates : GoodIn wsX8_gate wsX8_findGates := goodIn_r _ [7, 1, 8, 9, 10, 11, 12, 13, 2, 14, 15, 6, 16, 17, 18, 19, 20, 21, 22, 23, 24, 25, 26, 32, 33, 34, 35, 36, 37, 38, 39, 40, 41, 42, 43, 44, 45, 46, 47, 48, 49, 50, 51, 52, 53, 54, 55, 56, 57, 58, 59, 60, 61, 62, 63, 64, 65, 66, 67, 68, 69, 70, 71, 72, 73, 74] (by decide +kernel) (by decide +kernel)
set_option maxRecDepth 20000 in
theorem gX8_gate_X8_findGates : GoodIn wsX8_gate (wsV RX8 254 RX8 yX8_findGates wsX8_findGates) := goodIn_app (goodIn_of _ (by decide +kernel)) ggX8_gate_X8_findGates
set_option maxRecDepth 20000 in
theorem ggX8_gate_X8_isIn : GoodIn wsX8_gate wsX8_isIn := goodIn_r _ [19] (by decide +kernel) (by decide +kernel)
set_option maxRecDepth 20000 in
theorem gX8_gate_X8_isIn : GoodIn wsX8_gate (va_wsS RX8 94 yX8_isIn wsX8_isIn) := goodIn_app (goodIn_of _ (by decide +kernel)) ggX8_gate_X8_isIn
set_option maxRecDepth 20000 in
theorem ggX8_gate_X8_may : GoodIn wsX8_gate wsX8_may := goodIn_r _ [30, 31, 32, 33, 34, 35, 36, 37, 38, 39, 40, 41, 42, 43, 44, 45, 46, 47, 48, 49, 50, 51, 52, 53, 54, 55, 56, 57, 58, 59, 60, 61, 62, 63, 64, 65, 66, 67, 68, 69, 70, 71, 72, 73, 74] (by decide +kernel) (by decide +kernel)
set_option maxRecDepth 20000 in
theorem gX8_gate_X8_may : GoodIn wsX8_gate (wsV RX8 101 RX8 yX8_may wsX8_may) := goodIn_app (goodIn_of _ (by decide +kernel)) ggX8_gate_X8_may
theorem dX8_gate_0 : decode cX8_gate 0 = .ok (.aload_n 0, 1) := by decide +kernel
theorem dX8_gate_1 : decode cX8_gate 1 = .ok (.invokevirtual 254, 3) := by decide +kernel
theorem dX8_gate_4 : decode cX8_gate 4 = .ok (.aload_n 0, 1) := by decide +kernel
theorem dX8_gate_5 : decode cX8_gate 5 = .ok (.iload_n 1, 1) := by decide +kernel
theorem dX8_gate_6 : decode cX8_gate 6 = .ok (.i2l, 1) := by decide +kernel
theorem dX8_gate_7 : decode cX8_gate 7 = .ok (.lconst 0, 1) := by decide +kernel
theorem dX8_gate_8 : decode cX8_gate 8 = .ok (.aload_n 0, 1) := by decide +kernel
theorem dX8_gate_9 : decode cX8_gate 9 = .ok (.getfield 243, 3) := by decide +kernel
theorem dX8_gate_12 : decode cX8_gate 12 = .ok (.iconst 1, 1) := by decide +kernel
theorem dX8_gate_13 : decode cX8_gate 13 = .ok (.isub, 1) := by decide +kernel
theorem dX8_gate_14 : decode cX8_gate 14 = .ok (.i2l, 1) := by decide +kernel
theorem dX8_gate_15 : decode cX8_gate 15 = .ok (.invokestatic 94, 3) := by decide +kernel
theorem dX8_gate_18 : decode cX8_gate 18 = .ok (.iconst 1, 1) := by decide +kernel
theorem dX8_gate_19 : decode cX8_gate 19 = .ok (.invokevirtual 101, 3) := by decide +kernel
theorem dX8_gate_22 : decode cX8_gate 22 = .ok (.ifCond .eq 12, 3) := by decide +kernel
theorem dX8_gate_25 : decode cX8_gate 25 = .ok (.aload_n 0, 1) := by decide +kernel
theorem dX8_gate_26 : decode cX8_gate 26 = .ok (.getfield 74, 3) := by decide +kernel
theorem dX8_gate_29 : decode cX8_gate 29 = .ok (.iload_n 1, 1) := by decide +kernel
theorem dX8_gate_30 : decode cX8_gate 30 = .ok (.laload, 1) := by decide +kernel
theorem dX8_gate_31 : decode cX8_gate 31 = .ok (.goto 4, 3) := by decide +kernel
theorem dX8_gate_34 : decode cX8_gate 34 = .ok (.lconst 0, 1) := by decide +kernel
theorem dX8_gate_35 : decode cX8_gate 35 = .ok (.lreturn, 1) := by decide +kernel
set_option maxRecDepth 20000 in
theorem ggX8_count_X8_isIn : GoodIn wsX8_count wsX8_isIn := goodIn_r _ [10] (by decide +kernel) (by decide +kernel)
set_option maxRecDepth 20000 in
theorem gX8_count_X8_isIn : GoodIn wsX8_count (va_wsS RX8 94 yX8_isIn wsX8_isIn) := goodIn_app (goodIn_of _ (by decide +kernel)) ggX8_count_X8_isIn
set_option maxRecDepth 20000 in
theorem ggX8_count_X8_may : GoodIn wsX8_count wsX8_may := goodIn_r _ [14, 15, 16, 17, 18, 19, 20, 21, 22, 23, 24, 25, 26, 27, 28, 29, 30, 31, 32, 33, 34, 35, 36, 37, 38, 39, 40, 41, 42, 43, 44, 45, 46, 47, 48, 49, 50, 51, 52, 53, 54, 55, 56, 57, 58] (by decide +kernel) (by decide +kernel)
set_option maxRecDepth 20000 in
theorem gX8_count_X8_may : GoodIn wsX8_count (wsV RX8 101 RX8 yX8_may wsX8_may) := goodIn_app (goodIn_of _ (by decide +kernel)) ggX8_count_X8_may
theorem dX8_count_0 : decode cX8_count 0 = .ok (.aload_n 0, 1) := by decide +kernel
theorem dX8_count_1 : decode cX8_count 1 = .ok (.iload_n 1, 1) := by decide +kernel
theorem dX8_count_2 : decode cX8_count 2 = .ok (.i2l, 1) := by decide +kernel
theorem dX8_count_3 : decode cX8_count 3 = .ok (.lconst 0, 1) := by decide +kernel
theorem dX8_count_4 : decode cX8_count 4 = .ok (.ldc2_w 248, 3) := by decide +kernel
theorem dX8_count_7 : decode cX8_count 7 = .ok (.invokestatic 94, 3) := by decide +kernel
theorem dX8_count_10 : decode cX8_count 10 = .ok (.iconst 1, 1) := by decide +kernel
theorem dX8_count_11 : decode cX8_count 11 = .ok (.invokevirtual 101, 3) := by decide +kernel
theorem dX8_count_14 : decode cX8_count 14 = .ok (.ifCond .ne 5, 3) := by decide +kernel
theorem dX8_count_17 : decode cX8_count 17 = .ok (.iconst 0, 1) := by decide +kernel
theorem dX8_count_18 : decode cX8_count 18 = .ok (.ireturn, 1) := by decide +kernel
theorem dX8_count_19 : decode cX8_count 19 = .ok (.iload_n 1, 1) := by decide +kernel
theorem dX8_count_20 : decode cX8_count 20 = .ok (.ifCond .ne 10, 3) := by decide +kernel
theorem dX8_count_23 : decode cX8_count 23 = .ok (.aload_n 0, 1) := by decide +kernel
theorem dX8_count_24 : decode cX8_count 24 = .ok (.getfield 77, 3) := by decide +kernel
theorem dX8_count_27 : decode cX8_count 27 = .ok (.goto 43, 3) := by decide +kernel
theorem dX8_count_30 : decode cX8_count 30 = .ok (.iload_n 1, 1) := by decide +kernel
theorem dX8_count_31 : decode cX8_count 31 = .ok (.iconst 1, 1) := by decide +kernel
theorem dX8_count_32 : decode cX8_count 32 = .ok (.if_icmp .ne 10, 3) := by decide +kernel
theorem dX8_count_35 : decode cX8_count 35 = .ok (.aload_n 0, 1) := by decide +kernel
theorem dX8_count_36 : decode cX8_count 36 = .ok (.getfield 98, 3) := by decide +kernel
theorem dX8_count_39 : decode cX8_count 39 = .ok (.goto 31, 3) := by decide +kernel
theorem dX8_count_42 : decode cX8_count 42 = .ok (.iload_n 1, 1) := by decide +kernel
theorem dX8_count_43 : decode cX8_count 43 = .ok (.iconst 2, 1) := by decide +kernel
theorem dX8_count_44 : decode cX8_count 44 = .ok (.if_icmp .ne 10, 3) := by decide +kernel
theorem dX8_count_47 : decode cX8_count 47 = .ok (.aload_n 0, 1) := by decide +kernel
theorem dX8_count_48 : decode cX8_count 48 = .ok (.getfield 105, 3) := by decide +kernel
theorem dX8_count_51 : decode cX8_count 51 = .ok (.goto 19, 3) := by decide +kernel
theorem dX8_count_54 : decode cX8_count 54 = .ok (.iload_n 1, 1) := by decide +kernel
theorem dX8_count_55 : decode cX8_count 55 = .ok (.iconst 3, 1) := by decide +kernel
theorem dX8_count_56 : decode cX8_count 56 = .ok (.if_icmp .ne 10, 3) := by decide +kernel
theorem dX8_count_59 : decode cX8_count 59 = .ok (.aload_n 0, 1) := by decide +kernel
theorem dX8_count_60 : decode cX8_count 60 = .ok (.getfield 108, 3) := by decide +kernel
theorem dX8_count_63 : decode cX8_count 63 = .ok (.goto 7, 3) := by decide +kernel
theorem dX8_count_66 : decode cX8_count 66 = .ok (.aload_n 0, 1) := by decide +kernel
theorem dX8_count_67 : decode cX8_count 67 = .ok (.getfield 115, 3) := by decide +kernel
theorem dX8_count_70 : decode cX8_count 70 = .ok (.ireturn, 1) := by decide +kernel
theorem dX8_clear_0 : decode cX8_clear 0 = .ok (.aload_n 0, 1) := by decide +kernel
theorem dX8_clear_1 : decode cX8_clear 1 = .ok (.iconst 0, 1) := by decide +kernel
theorem dX8_clear_2 : decode cX8_clear 2 = .ok (.putfield 81, 3) := by decide +kernel
theorem dX8_clear_5 : decode cX8_clear 5 = .ok (.aload_n 0, 1) := by decide +kernel
theorem dX8_clear_6 : decode cX8_clear 6 = .ok (.iconst 0, 1) := by decide +kernel
theorem dX8_clear_7 : decode cX8_clear 7 = .ok (.putfield 98, 3) := by decide +kernel
theorem dX8_clear_10 : decode cX8_clear 10 = .ok (.aload_n 0, 1) := by decide +kernel
theorem dX8_clear_11 : decode cX8_clear 11 = .ok (.iconst 0, 1) := by decide +kernel
theorem dX8_clear_12 : decode cX8_clear 12 = .ok (.putfield 105, 3) := by decide +kernel
theorem dX8_clear_15 : decode cX8_clear 15 = .ok (.aload_n 0, 1) := by decide +kernel
theorem dX8_clear_16 : decode cX8_clear 16 = .ok (.iconst 0, 1) := by decide +kernel
theorem dX8_clear_17 : decode cX8_clear 17 = .ok (.putfield 108, 3) := by decide +kernel
theorem dX8_clear_20 : decode cX8_clear 20 = .ok (.aload_n 0, 1) := by decide +kernel
theorem dX8_clear_21 : decode cX8_clear 21 = .ok (.iconst 0, 1) := by decide +kernel
theorem dX8_clear_22 : decode cX8_clear 22 = .ok (.putfield 115, 3) := by decide +kernel
theorem dX8_clear_25 : decode cX8_clear 25 = .ok (.return_, 1) := by decide +kernel
theorem dJ13_bitCount_95d88_0 : decode cJ13_bitCount_95d88 0 = .ok (.lload_n 0, 1) := by decide +kernel
theorem dJ13_bitCount_95d88_1 : decode cJ13_bitCount_95d88 1 = .ok (.lload_n 0, 1) := by decide +kernel
theorem dJ13_bitCount_95d88_2 : decode cJ13_bitCount_95d88 2 = .ok (.iconst 1, 1) := by decide +kernel
theorem dJ13_bitCount_95d88_3 : decode cJ13_bitCount_95d88 3 = .ok (.lushr, 1) := by decide +kernel
theorem dJ13_bitCount_95d88_4 : decode cJ13_bitCount_95d88 4 = .ok (.ldc2_w 314, 3) := by decide +kernel
theorem dJ13_bitCount_95d88_7 : decode cJ13_bitCount_95d88 7 = .ok (.land, 1) := by decide +kernel
theorem dJ13_bitCount_95d88_8 : decode cJ13_bitCount_95d88 8 = .ok (.lsub, 1) := by decide +kernel
theorem dJ13_bitCount_95d88_9 : decode cJ13_bitCount_95d88 9 = .ok (.lstore_n 0, 1) := by decide +kernel
theorem dJ13_bitCount_95d88_10 : decode cJ13_bitCount_95d88 10 = .ok (.lload_n 0, 1) := by decide +kernel
theorem dJ13_bitCount_95d88_11 : decode cJ13_bitCount_95d88 11 = .ok (.ldc2_w 316, 3) := by decide +kernel
theorem dJ13_bitCount_95d88_14 : decode cJ13_bitCount_95d88 14 = .ok (.land, 1) := by decide +kernel
theorem dJ13_bitCount_95d88_15 : decode cJ13_bitCount_95d88 15 = .ok (.lload_n 0, 1) := by decide +kernel
theorem dJ13_bitCount_95d88_16 : decode cJ13_bitCount_95d88 16 = .ok (.iconst 2, 1) := by decide +kernel
theorem dJ13_bitCount_95d88_17 : decode cJ13_bitCount_95d88 17 = .ok (.lushr, 1) := by decide +kernel
theorem dJ13_bitCount_95d88_18 : decode cJ13_bitCount_95d88 18 = .ok (.ldc2_w 316, 3) := by decide +kernel
theorem dJ13_bitCount_95d88_21 : decode cJ13_bitCount_95d88 21 = .ok (.land, 1) := by decide +kernel
theorem dJ13_bitCount_95d88_22 : decode cJ13_bitCount_95d88 22 = .ok (.ladd, 1) := by decide +kernel
theorem dJ13_bitCount_95d88_23 : decode cJ13_bitCount_95d88 23 = .ok (.lstore_n 0, 1) := by decide +kernel
theorem dJ13_bitCount_95d88_24 : decode cJ13_bitCount_95d88 24 = .ok (.lload_n 0, 1) := by decide +kernel
theorem dJ13_bitCount_95d88_25 : decode cJ13_bitCount_95d88 25 = .ok (.lload_n 0, 1) := by decide +kernel
theorem dJ13_bitCount_95d88_26 : decode cJ13_bitCount_95d88 26 = .ok (.iconst 4, 1) := by decide +kernel
theorem dJ13_bitCount_95d88_27 : decode cJ13_bitCount_95d88 27 = .ok (.lushr, 1) := by decide +kernel
theorem dJ13_bitCount_95d88_28 : decode cJ13_bitCount_95d88 28 = .ok (.ladd, 1) := by decide +kernel
theorem dJ13_bitCount_95d88_29 : decode cJ13_bitCount_95d88 29 = .ok (.ldc2_w 318, 3) := by decide +kernel
theorem dJ13_bitCount_95d88_32 : decode cJ13_bitCount_95d88 32 = .ok (.land, 1) := by decide +kernel
theorem dJ13_bitCount_95d88_33 : decode cJ13_bitCount_95d88 33 = .ok (.lstore_n 0, 1) := by decide +kernel
theorem dJ13_bitCount_95d88_34 : decode cJ13_bitCount_95d88 34 = .ok (.lload_n 0, 1) := by decide +kernel
theorem dJ13_bitCount_95d88_35 : decode cJ13_bitCount_95d88 35 = .ok (.lload_n 0, 1) := by decide +kernel
theorem dJ13_bitCount_95d88_36 : decode cJ13_bitCount_95d88 36 = .ok (.bipush 8, 2) := by decide +kernel
theorem dJ13_bitCount_95d88_38 : decode cJ13_bitCount_95d88 38 = .ok (.lushr, 1) := by decide +kernel
theorem dJ13_bitCount_95d88_39 : decode cJ13_bitCount_95d88 39 = .ok (.ladd, 1) := by decide +kernel
theorem dJ13_bitCount_95d88_40 : decode cJ13_bitCount_95d88 40 = .ok (.lstore_n 0, 1) := by decide +kernel
theorem dJ13_bitCount_95d88_41 : decode cJ13_bitCount_95d88 41 = .ok (.lload_n 0, 1) := by decide +kernel
theorem dJ13_bitCount_95d88_42 : decode cJ13_bitCount_95d88 42 = .ok (.lload_n 0, 1) := by decide +kernel
theorem dJ13_bitCount_95d88_43 : decode cJ13_bitCount_95d88 43 = .ok (.bipush 16, 2) := by decide +kernel
theorem dJ13_bitCount_95d88_45 : decode cJ13_bitCount_95d88 45 = .ok (.lushr, 1) := by decide +kernel
theorem dJ13_bitCount_95d88_46 : decode cJ13_bitCount_95d88 46 = .ok (.ladd, 1) := by decide +kernel
theorem dJ13_bitCount_95d88_47 : decode cJ13_bitCount_95d88 47 = .ok (.lstore_n 0, 1) := by decide +kernel
theorem dJ13_bitCount_95d88_48 : decode cJ13_bitCount_95d88 48 = .ok (.lload_n 0, 1) := by decide +kernel
theorem dJ13_bitCount_95d88_49 : decode cJ13_bitCount_95d88 49 = .ok (.lload_n 0, 1) := by decide +kernel
theorem dJ13_bitCount_95d88_50 : decode cJ13_bitCount_95d88 50 = .ok (.bipush 32, 2) := by decide +kernel
theorem dJ13_bitCount_95d88_52 : decode cJ13_bitCount_95d88 52 = .ok (.lushr, 1) := by decide +kernel
theorem dJ13_bitCount_95d88_53 : decode cJ13_bitCount_95d88 53 = .ok (.ladd, 1) := by decide +kernel
theorem dJ13_bitCount_95d88_54 : decode cJ13_bitCount_95d88 54 = .ok (.lstore_n 0, 1) := by decide +kernel
theorem dJ13_bitCount_95d88_55 : decode cJ13_bitCount_95d88 55 = .ok (.lload_n 0, 1) := by decide +kernel
theorem dJ13_bitCount_95d88_56 : decode cJ13_bitCount_95d88 56 = .ok (.l2i, 1) := by decide +kernel
theorem dJ13_bitCount_95d88_57 : decode cJ13_bitCount_95d88 57 = .ok (.bipush 127, 2) := by decide +kernel
theorem dJ13_bitCount_95d88_59 : decode cJ13_bitCount_95d88 59 = .ok (.iand, 1) := by decide +kernel
theorem dJ13_bitCount_95d88_60 : decode cJ13_bitCount_95d88 60 = .ok (.ireturn, 1) := by decide +kernel
theorem dJ9_max_7cf53_0 : decode cJ9_max_7cf53 0 = .ok (.iload_n 0, 1) := by decide +kernel
theorem dJ9_max_7cf53_1 : decode cJ9_max_7cf53 1 = .ok (.iload_n 1, 1) := by decide +kernel
theorem dJ9_max_7cf53_2 : decode cJ9_max_7cf53 2 = .ok (.if_icmp .lt 7, 3) := by decide +kernel
theorem dJ9_max_7cf53_5 : decode cJ9_max_7cf53 5 = .ok (.iload_n 0, 1) := by decide +kernel
theorem dJ9_max_7cf53_6 : decode cJ9_max_7cf53 6 = .ok (.goto 4, 3) := by decide +kernel
theorem dJ9_max_7cf53_9 : decode cJ9_max_7cf53 9 = .ok (.iload_n 1, 1) := by decide +kernel
theorem dJ9_max_7cf53_10 : decode cJ9_max_7cf53 10 = .ok (.ireturn, 1) := by decide +kernel
theorem dJ9_min_7cf53_0 : decode cJ9_min_7cf53 0 = .ok (.iload_n 0, 1) := by decide +kernel
theorem dJ9_min_7cf53_1 : decode cJ9_min_7cf53 1 = .ok (.iload_n 1, 1) := by decide +kernel
theorem dJ9_min_7cf53_2 : decode cJ9_min_7cf53 2 = .ok (.if_icmp .gt 7, 3) := by decide +kernel
theorem dJ9_min_7cf53_5 : decode cJ9_min_7cf53 5 = .ok (.iload_n 0, 1) := by decide +kernel
theorem dJ9_min_7cf53_6 : decode cJ9_min_7cf53 6 = .ok (.goto 4, 3) := by decide +kernel
theorem dJ9_min_7cf53_9 : decode cJ9_min_7cf53 9 = .ok (.iload_n 1, 1) := by decide +kernel
theorem dJ9_min_7cf53_10 : decode cJ9_min_7cf53 10 = .ok (.ireturn, 1) := by decide +kernel
theorem dJ7_fill_d0a16_0 : decode cJ7_fill_d0a16 0 = .ok (.iconst 0, 1) := by decide +kernel
theorem dJ7_fill_d0a16_1 : decode cJ7_fill_d0a16 1 = .ok (.istore_n 3, 1) := by decide +kernel
theorem dJ7_fill_d0a16_2 : decode cJ7_fill_d0a16 2 = .ok (.aload_n 0, 1) := by decide +kernel
theorem dJ7_fill_d0a16_3 : decode cJ7_fill_d0a16 3 = .ok (.arraylength, 1) := by decide +kernel
theorem dJ7_fill_d0a16_4 : decode cJ7_fill_d0a16 4 = .ok (.istore 4, 2) := by decide +kernel
theorem dJ7_fill_d0a16_6 : decode cJ7_fill_d0a16 6 = .ok (.iload_n 3, 1) := by decide +kernel
theorem dJ7_fill_d0a16_7 : decode cJ7_fill_d0a16 7 = .ok (.iload 4, 2) := by decide +kernel
theorem dJ7_fill_d0a16_9 : decode cJ7_fill_d0a16 9 = .ok (.if_icmp .ge 13, 3) := by decide +kernel
theorem dJ7_fill_d0a16_12 : decode cJ7_fill_d0a16 12 = .ok (.aload_n 0, 1) := by decide +kernel
theorem dJ7_fill_d0a16_13 : decode cJ7_fill_d0a16 13 = .ok (.iload_n 3, 1) := by decide +kernel
theorem dJ7_fill_d0a16_14 : decode cJ7_fill_d0a16 14 = .ok (.lload_n 1, 1) := by decide +kernel
theorem dJ7_fill_d0a16_15 : decode cJ7_fill_d0a16 15 = .ok (.lastore, 1) := by decide +kernel
theorem dJ7_fill_d0a16_16 : decode cJ7_fill_d0a16 16 = .ok (.iinc 3 1, 3) := by decide +kernel
theorem dJ7_fill_d0a16_19 : decode cJ7_fill_d0a16 19 = .ok (.goto (-13), 3) := by decide +kernel
theorem dJ7_fill_d0a16_22 : decode cJ7_fill_d0a16 22 = .ok (.return_, 1) := by decide +kernel
abbrev vwCl : List vw_C := [(RX0, TX0, 3), (RX1, TX1, 2), (RX2, TX2, 3), (RX3, TX3, 10), (RX4, TX4, 8), (RX5, TX5, 4), (RX6, TX6, 8), (RX7, TX7, 14), (RX8, TX8, 43)]
