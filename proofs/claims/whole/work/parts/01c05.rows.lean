theorem dX8_reduced_14 : decode cX8_reduced 14 = .ok (.iconst 0, 1) := by decide +kernel
theorem dX8_reduced_15 : decode cX8_reduced 15 = .ok (.istore 7, 2) := by decide +kernel
theorem dX8_reduced_17 : decode cX8_reduced 17 = .ok (.iload 7, 2) := by decide +kernel
theorem dX8_reduced_19 : decode cX8_reduced 19 = .ok (.aload_n 0, 1) := by decide +kernel
theorem dX8_reduced_20 : decode cX8_reduced 20 = .ok (.getfield 203, 3) := by decide +kernel
theorem dX8_reduced_23 : decode cX8_reduced 23 = .ok (.if_icmp .ge 44, 3) := by decide +kernel
theorem dX8_reduced_26 : decode cX8_reduced 26 = .ok (.lload_n 3, 1) := by decide +kernel
theorem dX8_reduced_27 : decode cX8_reduced 27 = .ok (.lload 5, 2) := by decide +kernel
theorem dX8_reduced_29 : decode cX8_reduced 29 = .ok (.land, 1) := by decide +kernel
theorem dX8_reduced_30 : decode cX8_reduced 30 = .ok (.lconst 0, 1) := by decide +kernel
theorem dX8_reduced_31 : decode cX8_reduced 31 = .ok (.lcmp, 1) := by decide +kernel
theorem dX8_reduced_32 : decode cX8_reduced 32 = .ok (.ifCond .eq 35, 3) := by decide +kernel
theorem dX8_reduced_35 : decode cX8_reduced 35 = .ok (.aload_n 0, 1) := by decide +kernel
theorem dX8_reduced_36 : decode cX8_reduced 36 = .ok (.getfield 59, 3) := by decide +kernel
theorem dX8_reduced_39 : decode cX8_reduced 39 = .ok (.iload 7, 2) := by decide +kernel
theorem dX8_reduced_41 : decode cX8_reduced 41 = .ok (.laload, 1) := by decide +kernel
theorem dX8_reduced_42 : decode cX8_reduced 42 = .ok (.invokestatic 194, 3) := by decide +kernel
theorem dX8_reduced_45 : decode cX8_reduced 45 = .ok (.lload 5, 2) := by decide +kernel
theorem dX8_reduced_47 : decode cX8_reduced 47 = .ok (.lcmp, 1) := by decide +kernel
theorem dX8_reduced_48 : decode cX8_reduced 48 = .ok (.ifCond .ne 13, 3) := by decide +kernel
theorem dX8_reduced_51 : decode cX8_reduced 51 = .ok (.lload_n 3, 1) := by decide +kernel
theorem dX8_reduced_52 : decode cX8_reduced 52 = .ok (.aload_n 0, 1) := by decide +kernel
theorem dX8_reduced_53 : decode cX8_reduced 53 = .ok (.getfield 59, 3) := by decide +kernel
theorem dX8_reduced_56 : decode cX8_reduced 56 = .ok (.iload 7, 2) := by decide +kernel
theorem dX8_reduced_58 : decode cX8_reduced 58 = .ok (.laload, 1) := by decide +kernel
theorem dX8_reduced_59 : decode cX8_reduced 59 = .ok (.lxor, 1) := by decide +kernel
theorem dX8_reduced_60 : decode cX8_reduced 60 = .ok (.lstore_n 3, 1) := by decide +kernel
theorem dX8_reduced_61 : decode cX8_reduced 61 = .ok (.iinc 7 1, 3) := by decide +kernel
theorem dX8_reduced_64 : decode cX8_reduced 64 = .ok (.goto (-47), 3) := by decide +kernel
theorem dX8_reduced_67 : decode cX8_reduced 67 = .ok (.lload 5, 2) := by decide +kernel
theorem dX8_reduced_69 : decode cX8_reduced 69 = .ok (.iconst 1, 1) := by decide +kernel
theorem dX8_reduced_70 : decode cX8_reduced 70 = .ok (.lshr, 1) := by decide +kernel
theorem dX8_reduced_71 : decode cX8_reduced 71 = .ok (.lstore 5, 2) := by decide +kernel
theorem dX8_reduced_73 : decode cX8_reduced 73 = .ok (.goto (-66), 3) := by decide +kernel
theorem dX8_reduced_76 : decode cX8_reduced 76 = .ok (.lload_n 3, 1) := by decide +kernel
theorem dX8_reduced_77 : decode cX8_reduced 77 = .ok (.lreturn, 1) := by decide +kernel
set_option maxRecDepth 20000 in
theorem ggX8_blame_X8_lowest : GoodIn wsX8_blame wsX8_lowest := goodIn_r _ [13] (by decide +kernel) (by decide +kernel)
set_option maxRecDepth 20000 in
theorem gX8_blame_X8_lowest : GoodIn wsX8_blame (va_wsS RX8 190 yX8_lowest wsX8_lowest) := goodIn_app (goodIn_of _ (by decide +kernel)) ggX8_blame_X8_lowest
set_option maxRecDepth 20000 in
theorem ggX8_blame_X8_reduced : GoodIn wsX8_blame wsX8_reduced := goodIn_r _ [17, 18, 2, 9, 19, 20, 12, 21, 22, 23, 24, 25, 26, 27, 28, 29, 30, 31, 32, 33, 34, 35, 36, 37, 38, 39, 40, 41, 42, 43, 44, 45, 46, 47, 48, 49, 50, 51, 52, 53, 54, 55, 56, 57, 58, 59, 60, 61, 62, 63, 64, 65] (by decide +kernel) (by decide +kernel)
set_option maxRecDepth 20000 in
theorem gX8_blame_X8_reduced : GoodIn wsX8_blame (wsV RX8 206 RX8 yX8_reduced wsX8_reduced) := goodIn_app (goodIn_of _ (by decide +kernel)) ggX8_blame_X8_reduced
theorem dX8_blame_0 : decode cX8_blame 0 = .ok (.aload_n 0, 1) := by decide +kernel
theorem dX8_blame_1 : decode cX8_blame 1 = .ok (.iconst 0, 1) := by decide +kernel
theorem dX8_blame_2 : decode cX8_blame 2 = .ok (.putfield 81, 3) := by decide +kernel
theorem dX8_blame_5 : decode cX8_blame 5 = .ok (.aload_n 0, 1) := by decide +kernel
theorem dX8_blame_6 : decode cX8_blame 6 = .ok (.iconst 0, 1) := by decide +kernel
theorem dX8_blame_7 : decode cX8_blame 7 = .ok (.putfield 203, 3) := by decide +kernel
theorem dX8_blame_10 : decode cX8_blame 10 = .ok (.iconst 0, 1) := by decide +kernel
theorem dX8_blame_11 : decode cX8_blame 11 = .ok (.istore_n 1, 1) := by decide +kernel
theorem dX8_blame_12 : decode cX8_blame 12 = .ok (.lconst 0, 1) := by decide +kernel
theorem dX8_blame_13 : decode cX8_blame 13 = .ok (.lstore_n 2, 1) := by decide +kernel
theorem dX8_blame_14 : decode cX8_blame 14 = .ok (.iconst 0, 1) := by decide +kernel
theorem dX8_blame_15 : decode cX8_blame 15 = .ok (.istore 4, 2) := by decide +kernel
theorem dX8_blame_17 : decode cX8_blame 17 = .ok (.iload 4, 2) := by decide +kernel
theorem dX8_blame_19 : decode cX8_blame 19 = .ok (.aload_n 0, 1) := by decide +kernel
theorem dX8_blame_20 : decode cX8_blame 20 = .ok (.getfield 98, 3) := by decide +kernel
theorem dX8_blame_23 : decode cX8_blame 23 = .ok (.if_icmp .ge 206, 3) := by decide +kernel
theorem dX8_blame_26 : decode cX8_blame 26 = .ok (.aload_n 0, 1) := by decide +kernel
theorem dX8_blame_27 : decode cX8_blame 27 = .ok (.getfield 7, 3) := by decide +kernel
theorem dX8_blame_30 : decode cX8_blame 30 = .ok (.iload 4, 2) := by decide +kernel
theorem dX8_blame_32 : decode cX8_blame 32 = .ok (.laload, 1) := by decide +kernel
theorem dX8_blame_33 : decode cX8_blame 33 = .ok (.lstore 5, 2) := by decide +kernel
theorem dX8_blame_35 : decode cX8_blame 35 = .ok (.lconst 1, 1) := by decide +kernel
theorem dX8_blame_36 : decode cX8_blame 36 = .ok (.iload 4, 2) := by decide +kernel
theorem dX8_blame_38 : decode cX8_blame 38 = .ok (.lshl, 1) := by decide +kernel
theorem dX8_blame_39 : decode cX8_blame 39 = .ok (.lstore 7, 2) := by decide +kernel
theorem dX8_blame_41 : decode cX8_blame 41 = .ok (.aload_n 0, 1) := by decide +kernel
theorem dX8_blame_42 : decode cX8_blame 42 = .ok (.getfield 13, 3) := by decide +kernel
theorem dX8_blame_45 : decode cX8_blame 45 = .ok (.iload 4, 2) := by decide +kernel
theorem dX8_blame_47 : decode cX8_blame 47 = .ok (.iaload, 1) := by decide +kernel
theorem dX8_blame_48 : decode cX8_blame 48 = .ok (.istore 9, 2) := by decide +kernel
theorem dX8_blame_50 : decode cX8_blame 50 = .ok (.iconst 0, 1) := by decide +kernel
theorem dX8_blame_51 : decode cX8_blame 51 = .ok (.istore 10, 2) := by decide +kernel
theorem dX8_blame_53 : decode cX8_blame 53 = .ok (.iload 10, 2) := by decide +kernel
theorem dX8_blame_55 : decode cX8_blame 55 = .ok (.iload_n 1, 1) := by decide +kernel
theorem dX8_blame_56 : decode cX8_blame 56 = .ok (.if_icmp .ge 63, 3) := by decide +kernel
theorem dX8_blame_59 : decode cX8_blame 59 = .ok (.lload 5, 2) := by decide +kernel
theorem dX8_blame_61 : decode cX8_blame 61 = .ok (.aload_n 0, 1) := by decide +kernel
theorem dX8_blame_62 : decode cX8_blame 62 = .ok (.getfield 50, 3) := by decide +kernel
theorem dX8_blame_65 : decode cX8_blame 65 = .ok (.iload 10, 2) := by decide +kernel
theorem dX8_blame_67 : decode cX8_blame 67 = .ok (.laload, 1) := by decide +kernel
theorem dX8_blame_68 : decode cX8_blame 68 = .ok (.invokestatic 190, 3) := by decide +kernel
theorem dX8_blame_71 : decode cX8_blame 71 = .ok (.land, 1) := by decide +kernel
theorem dX8_blame_72 : decode cX8_blame 72 = .ok (.lconst 0, 1) := by decide +kernel
theorem dX8_blame_73 : decode cX8_blame 73 = .ok (.lcmp, 1) := by decide +kernel
theorem dX8_blame_74 : decode cX8_blame 74 = .ok (.ifCond .eq 39, 3) := by decide +kernel
theorem dX8_blame_77 : decode cX8_blame 77 = .ok (.lload 5, 2) := by decide +kernel
theorem dX8_blame_79 : decode cX8_blame 79 = .ok (.aload_n 0, 1) := by decide +kernel
theorem dX8_blame_80 : decode cX8_blame 80 = .ok (.getfield 50, 3) := by decide +kernel
theorem dX8_blame_83 : decode cX8_blame 83 = .ok (.iload 10, 2) := by decide +kernel
theorem dX8_blame_85 : decode cX8_blame 85 = .ok (.laload, 1) := by decide +kernel
theorem dX8_blame_86 : decode cX8_blame 86 = .ok (.lxor, 1) := by decide +kernel
theorem dX8_blame_87 : decode cX8_blame 87 = .ok (.lstore 5, 2) := by decide +kernel
theorem dX8_blame_89 : decode cX8_blame 89 = .ok (.lload 7, 2) := by decide +kernel
theorem dX8_blame_91 : decode cX8_blame 91 = .ok (.aload_n 0, 1) := by decide +kernel
theorem dX8_blame_92 : decode cX8_blame 92 = .ok (.getfield 53, 3) := by decide +kernel
theorem dX8_blame_95 : decode cX8_blame 95 = .ok (.iload 10, 2) := by decide +kernel
theorem dX8_blame_97 : decode cX8_blame 97 = .ok (.laload, 1) := by decide +kernel
theorem dX8_blame_98 : decode cX8_blame 98 = .ok (.lxor, 1) := by decide +kernel
theorem dX8_blame_99 : decode cX8_blame 99 = .ok (.lstore 7, 2) := by decide +kernel
theorem dX8_blame_101 : decode cX8_blame 101 = .ok (.iload 9, 2) := by decide +kernel
theorem dX8_blame_103 : decode cX8_blame 103 = .ok (.aload_n 0, 1) := by decide +kernel
theorem dX8_blame_104 : decode cX8_blame 104 = .ok (.getfield 56, 3) := by decide +kernel
theorem dX8_blame_107 : decode cX8_blame 107 = .ok (.iload 10, 2) := by decide +kernel
theorem dX8_blame_109 : decode cX8_blame 109 = .ok (.iaload, 1) := by decide +kernel
theorem dX8_blame_110 : decode cX8_blame 110 = .ok (.ixor, 1) := by decide +kernel
theorem dX8_blame_111 : decode cX8_blame 111 = .ok (.istore 9, 2) := by decide +kernel
theorem dX8_blame_113 : decode cX8_blame 113 = .ok (.iinc 10 1, 3) := by decide +kernel
theorem dX8_blame_116 : decode cX8_blame 116 = .ok (.goto (-63), 3) := by decide +kernel
theorem dX8_blame_119 : decode cX8_blame 119 = .ok (.lload 5, 2) := by decide +kernel
theorem dX8_blame_121 : decode cX8_blame 121 = .ok (.lconst 0, 1) := by decide +kernel
theorem dX8_blame_122 : decode cX8_blame 122 = .ok (.lcmp, 1) := by decide +kernel
theorem dX8_blame_123 : decode cX8_blame 123 = .ok (.ifCond .eq 33, 3) := by decide +kernel
theorem dX8_blame_126 : decode cX8_blame 126 = .ok (.aload_n 0, 1) := by decide +kernel
theorem dX8_blame_127 : decode cX8_blame 127 = .ok (.getfield 50, 3) := by decide +kernel
theorem dX8_blame_130 : decode cX8_blame 130 = .ok (.iload_n 1, 1) := by decide +kernel
theorem dX8_blame_131 : decode cX8_blame 131 = .ok (.lload 5, 2) := by decide +kernel
theorem dX8_blame_133 : decode cX8_blame 133 = .ok (.lastore, 1) := by decide +kernel
theorem dX8_blame_134 : decode cX8_blame 134 = .ok (.aload_n 0, 1) := by decide +kernel
theorem dX8_blame_135 : decode cX8_blame 135 = .ok (.getfield 53, 3) := by decide +kernel
theorem dX8_blame_138 : decode cX8_blame 138 = .ok (.iload_n 1, 1) := by decide +kernel
theorem dX8_blame_139 : decode cX8_blame 139 = .ok (.lload 7, 2) := by decide +kernel
theorem dX8_blame_141 : decode cX8_blame 141 = .ok (.lastore, 1) := by decide +kernel
theorem dX8_blame_142 : decode cX8_blame 142 = .ok (.aload_n 0, 1) := by decide +kernel
theorem dX8_blame_143 : decode cX8_blame 143 = .ok (.getfield 56, 3) := by decide +kernel
theorem dX8_blame_146 : decode cX8_blame 146 = .ok (.iload_n 1, 1) := by decide +kernel
theorem dX8_blame_147 : decode cX8_blame 147 = .ok (.iload 9, 2) := by decide +kernel
theorem dX8_blame_149 : decode cX8_blame 149 = .ok (.iastore, 1) := by decide +kernel
theorem dX8_blame_150 : decode cX8_blame 150 = .ok (.iinc 1 1, 3) := by decide +kernel
theorem dX8_blame_153 : decode cX8_blame 153 = .ok (.goto 70, 3) := by decide +kernel
theorem dX8_blame_156 : decode cX8_blame 156 = .ok (.iload 9, 2) := by decide +kernel
theorem dX8_blame_158 : decode cX8_blame 158 = .ok (.iconst 1, 1) := by decide +kernel
theorem dX8_blame_159 : decode cX8_blame 159 = .ok (.if_icmp .ne 15, 3) := by decide +kernel
theorem dX8_blame_162 : decode cX8_blame 162 = .ok (.lload_n 2, 1) := by decide +kernel
theorem dX8_blame_163 : decode cX8_blame 163 = .ok (.lconst 0, 1) := by decide +kernel
theorem dX8_blame_164 : decode cX8_blame 164 = .ok (.lcmp, 1) := by decide +kernel
theorem dX8_blame_165 : decode cX8_blame 165 = .ok (.ifCond .ne 9, 3) := by decide +kernel
theorem dX8_blame_168 : decode cX8_blame 168 = .ok (.lload 7, 2) := by decide +kernel
theorem dX8_blame_170 : decode cX8_blame 170 = .ok (.lstore_n 2, 1) := by decide +kernel
theorem dX8_blame_171 : decode cX8_blame 171 = .ok (.goto 52, 3) := by decide +kernel
theorem dX8_blame_174 : decode cX8_blame 174 = .ok (.aload_n 0, 1) := by decide +kernel
theorem dX8_blame_175 : decode cX8_blame 175 = .ok (.iload 9, 2) := by decide +kernel
theorem dX8_blame_177 : decode cX8_blame 177 = .ok (.iconst 1, 1) := by decide +kernel
theorem dX8_blame_178 : decode cX8_blame 178 = .ok (.if_icmp .ne 10, 3) := by decide +kernel
theorem dX8_blame_181 : decode cX8_blame 181 = .ok (.lload 7, 2) := by decide +kernel
theorem dX8_blame_183 : decode cX8_blame 183 = .ok (.lload_n 2, 1) := by decide +kernel
theorem dX8_blame_184 : decode cX8_blame 184 = .ok (.lxor, 1) := by decide +kernel
theorem dX8_blame_185 : decode cX8_blame 185 = .ok (.goto 5, 3) := by decide +kernel
theorem dX8_blame_188 : decode cX8_blame 188 = .ok (.lload 7, 2) := by decide +kernel
theorem dX8_blame_190 : decode cX8_blame 190 = .ok (.invokevirtual 206, 3) := by decide +kernel
theorem dX8_blame_193 : decode cX8_blame 193 = .ok (.lstore 10, 2) := by decide +kernel
theorem dX8_blame_195 : decode cX8_blame 195 = .ok (.lload 10, 2) := by decide +kernel
theorem dX8_blame_197 : decode cX8_blame 197 = .ok (.lconst 0, 1) := by decide +kernel
theorem dX8_blame_198 : decode cX8_blame 198 = .ok (.lcmp, 1) := by decide +kernel
theorem dX8_blame_199 : decode cX8_blame 199 = .ok (.ifCond .eq 24, 3) := by decide +kernel
theorem dX8_blame_202 : decode cX8_blame 202 = .ok (.aload_n 0, 1) := by decide +kernel
theorem dX8_blame_203 : decode cX8_blame 203 = .ok (.getfield 59, 3) := by decide +kernel
theorem dX8_blame_206 : decode cX8_blame 206 = .ok (.aload_n 0, 1) := by decide +kernel
theorem dX8_blame_207 : decode cX8_blame 207 = .ok (.getfield 203, 3) := by decide +kernel
theorem dX8_blame_210 : decode cX8_blame 210 = .ok (.lload 10, 2) := by decide +kernel
theorem dX8_blame_212 : decode cX8_blame 212 = .ok (.lastore, 1) := by decide +kernel
theorem dX8_blame_213 : decode cX8_blame 213 = .ok (.aload_n 0, 1) := by decide +kernel
theorem dX8_blame_214 : decode cX8_blame 214 = .ok (.dup, 1) := by decide +kernel
theorem dX8_blame_215 : decode cX8_blame 215 = .ok (.getfield 203, 3) := by decide +kernel
theorem dX8_blame_218 : decode cX8_blame 218 = .ok (.iconst 1, 1) := by decide +kernel
theorem dX8_blame_219 : decode cX8_blame 219 = .ok (.iadd, 1) := by decide +kernel
theorem dX8_blame_220 : decode cX8_blame 220 = .ok (.putfield 203, 3) := by decide +kernel
theorem dX8_blame_223 : decode cX8_blame 223 = .ok (.iinc 4 1, 3) := by decide +kernel
theorem dX8_blame_226 : decode cX8_blame 226 = .ok (.goto (-209), 3) := by decide +kernel
theorem dX8_blame_229 : decode cX8_blame 229 = .ok (.lload_n 2, 1) := by decide +kernel
theorem dX8_blame_230 : decode cX8_blame 230 = .ok (.lconst 0, 1) := by decide +kernel
theorem dX8_blame_231 : decode cX8_blame 231 = .ok (.lcmp, 1) := by decide +kernel
theorem dX8_blame_232 : decode cX8_blame 232 = .ok (.ifCond .ne 7, 3) := by decide +kernel
theorem dX8_blame_235 : decode cX8_blame 235 = .ok (.lconst 0, 1) := by decide +kernel
theorem dX8_blame_236 : decode cX8_blame 236 = .ok (.goto 8, 3) := by decide +kernel
theorem dX8_blame_239 : decode cX8_blame 239 = .ok (.aload_n 0, 1) := by decide +kernel
theorem dX8_blame_240 : decode cX8_blame 240 = .ok (.lload_n 2, 1) := by decide +kernel
theorem dX8_blame_241 : decode cX8_blame 241 = .ok (.invokevirtual 206, 3) := by decide +kernel
theorem dX8_blame_244 : decode cX8_blame 244 = .ok (.lreturn, 1) := by decide +kernel
set_option maxRecDepth 20000 in
theorem ggX8_solutions_X8_makeRows : GoodIn wsX8_solutions wsX8_makeRows := goodIn_r _ [9, 4, 2, 10, 11, 12, 13, 14, 15, 16, 17, 8, 18, 19, 20, 21, 22, 23, 24, 25, 26, 27, 28, 29, 30, 31, 32, 33, 34, 35, 36, 37, 38, 39, 40, 41, 42, 43, 44, 45, 46, 47, 48, 49, 50, 51, 52, 53, 54, 55, 56, 57, 58, 59, 60, 61, 62, 63, 64, 65, 66, 67, 68, 69, 70, 71, 72, 73, 74, 75, 76, 77, 78, 79] (by decide +kernel) (by decide +kernel)
set_option maxRecDepth 20000 in
theorem gX8_solutions_X8_makeRows : GoodIn wsX8_solutions (wsV RX8 197 RX8 yX8_makeRows wsX8_makeRows) := goodIn_app (goodIn_of _ (by decide +kernel)) ggX8_solutions_X8_makeRows
theorem dX8_solutions_0 : decode cX8_solutions 0 = .ok (.aload_n 0, 1) := by decide +kernel
theorem dX8_solutions_1 : decode cX8_solutions 1 = .ok (.iconst 0, 1) := by decide +kernel
theorem dX8_solutions_2 : decode cX8_solutions 2 = .ok (.putfield 81, 3) := by decide +kernel
theorem dX8_solutions_5 : decode cX8_solutions 5 = .ok (.aload_n 0, 1) := by decide +kernel
theorem dX8_solutions_6 : decode cX8_solutions 6 = .ok (.lconst 0, 1) := by decide +kernel
theorem dX8_solutions_7 : decode cX8_solutions 7 = .ok (.lconst 0, 1) := by decide +kernel
theorem dX8_solutions_8 : decode cX8_solutions 8 = .ok (.iconst 1, 1) := by decide +kernel
theorem dX8_solutions_9 : decode cX8_solutions 9 = .ok (.invokevirtual 197, 3) := by decide +kernel
theorem dX8_solutions_12 : decode cX8_solutions 12 = .ok (.aload_n 0, 1) := by decide +kernel
theorem dX8_solutions_13 : decode cX8_solutions 13 = .ok (.getfield 175, 3) := by decide +kernel
theorem dX8_solutions_16 : decode cX8_solutions 16 = .ok (.ifCond .eq 7, 3) := by decide +kernel
theorem dX8_solutions_19 : decode cX8_solutions 19 = .ok (.lconst 0, 1) := by decide +kernel
theorem dX8_solutions_20 : decode cX8_solutions 20 = .ok (.goto 14, 3) := by decide +kernel
theorem dX8_solutions_23 : decode cX8_solutions 23 = .ok (.lconst 1, 1) := by decide +kernel
theorem dX8_solutions_24 : decode cX8_solutions 24 = .ok (.aload_n 0, 1) := by decide +kernel
theorem dX8_solutions_25 : decode cX8_solutions 25 = .ok (.getfield 77, 3) := by decide +kernel
theorem dX8_solutions_28 : decode cX8_solutions 28 = .ok (.aload_n 0, 1) := by decide +kernel
theorem dX8_solutions_29 : decode cX8_solutions 29 = .ok (.getfield 172, 3) := by decide +kernel
theorem dX8_solutions_32 : decode cX8_solutions 32 = .ok (.isub, 1) := by decide +kernel
theorem dX8_solutions_33 : decode cX8_solutions 33 = .ok (.lshl, 1) := by decide +kernel
theorem dX8_solutions_34 : decode cX8_solutions 34 = .ok (.lreturn, 1) := by decide +kernel
set_option maxRecDepth 20000 in
theorem ggX8_solution_X8_makeRows : GoodIn wsX8_solution wsX8_makeRows := goodIn_r _ [12, 4, 2, 13, 14, 5, 15, 6, 7, 16, 17, 11, 18, 19, 20, 21, 22, 23, 24, 25, 26, 27, 28, 29, 30, 31, 32, 33, 34, 35, 36, 37, 38, 39, 40, 41, 42, 43, 44, 45, 46, 47, 48, 49, 50, 51, 52, 53, 54, 55, 56, 57, 58, 59, 60, 61, 62, 63, 64, 65, 66, 67, 68, 69, 70, 71, 72, 73, 74, 75, 76, 77, 78, 79] (by decide +kernel) (by decide +kernel)
set_option maxRecDepth 20000 in
theorem gX8_solution_X8_makeRows : GoodIn wsX8_solution (wsV RX8 197 RX8 yX8_makeRows wsX8_makeRows) := goodIn_app (goodIn_of _ (by decide +kernel)) ggX8_solution_X8_makeRows
set_option maxRecDepth 20000 in
theorem ggX8_solution_X8_highest : GoodIn wsX8_solution wsX8_highest := goodIn_r _ [31, 32] (by decide +kernel) (by decide +kernel)
set_option maxRecDepth 20000 in
theorem gX8_solution_X8_highest : GoodIn wsX8_solution (va_wsS RX8 194 yX8_highest wsX8_highest) := goodIn_app (goodIn_of _ (by decide +kernel)) ggX8_solution_X8_highest
set_option maxRecDepth 20000 in
theorem ggX8_solution_X8_parity : GoodIn wsX8_solution wsX8_parity := goodIn_r _ [18, 19, 20, 11, 21] (by decide +kernel) (by decide +kernel)
set_option maxRecDepth 20000 in
theorem gX8_solution_X8_parity : GoodIn wsX8_solution (va_wsS RX8 179 yX8_parity wsX8_parity) := goodIn_app (goodIn_of _ (by decide +kernel)) ggX8_solution_X8_parity
theorem dX8_solution_0 : decode cX8_solution 0 = .ok (.aload_n 0, 1) := by decide +kernel
theorem dX8_solution_1 : decode cX8_solution 1 = .ok (.iconst 0, 1) := by decide +kernel
theorem dX8_solution_2 : decode cX8_solution 2 = .ok (.putfield 81, 3) := by decide +kernel
theorem dX8_solution_5 : decode cX8_solution 5 = .ok (.aload_n 0, 1) := by decide +kernel
theorem dX8_solution_6 : decode cX8_solution 6 = .ok (.lconst 0, 1) := by decide +kernel
theorem dX8_solution_7 : decode cX8_solution 7 = .ok (.lconst 0, 1) := by decide +kernel
theorem dX8_solution_8 : decode cX8_solution 8 = .ok (.iconst 0, 1) := by decide +kernel
theorem dX8_solution_9 : decode cX8_solution 9 = .ok (.invokevirtual 197, 3) := by decide +kernel
theorem dX8_solution_12 : decode cX8_solution 12 = .ok (.aload_n 0, 1) := by decide +kernel
theorem dX8_solution_13 : decode cX8_solution 13 = .ok (.getfield 175, 3) := by decide +kernel
theorem dX8_solution_16 : decode cX8_solution 16 = .ok (.ifCond .ne 25, 3) := by decide +kernel
theorem dX8_solution_19 : decode cX8_solution 19 = .ok (.lload_n 1, 1) := by decide +kernel
theorem dX8_solution_20 : decode cX8_solution 20 = .ok (.lconst 0, 1) := by decide +kernel
theorem dX8_solution_21 : decode cX8_solution 21 = .ok (.lcmp, 1) := by decide +kernel
theorem dX8_solution_22 : decode cX8_solution 22 = .ok (.ifCond .lt 19, 3) := by decide +kernel
theorem dX8_solution_25 : decode cX8_solution 25 = .ok (.lload_n 1, 1) := by decide +kernel
theorem dX8_solution_26 : decode cX8_solution 26 = .ok (.lconst 1, 1) := by decide +kernel
theorem dX8_solution_27 : decode cX8_solution 27 = .ok (.aload_n 0, 1) := by decide +kernel
theorem dX8_solution_28 : decode cX8_solution 28 = .ok (.getfield 77, 3) := by decide +kernel
theorem dX8_solution_31 : decode cX8_solution 31 = .ok (.aload_n 0, 1) := by decide +kernel
theorem dX8_solution_32 : decode cX8_solution 32 = .ok (.getfield 172, 3) := by decide +kernel
theorem dX8_solution_35 : decode cX8_solution 35 = .ok (.isub, 1) := by decide +kernel
theorem dX8_solution_36 : decode cX8_solution 36 = .ok (.lshl, 1) := by decide +kernel
theorem dX8_solution_37 : decode cX8_solution 37 = .ok (.lcmp, 1) := by decide +kernel
theorem dX8_solution_38 : decode cX8_solution 38 = .ok (.ifCond .lt 7, 3) := by decide +kernel
theorem dX8_solution_41 : decode cX8_solution 41 = .ok (.ldc2_w 68, 3) := by decide +kernel
theorem dX8_solution_44 : decode cX8_solution 44 = .ok (.lreturn, 1) := by decide +kernel
theorem dX8_solution_45 : decode cX8_solution 45 = .ok (.aload_n 0, 1) := by decide +kernel
theorem dX8_solution_46 : decode cX8_solution 46 = .ok (.getfield 77, 3) := by decide +kernel
theorem dX8_solution_49 : decode cX8_solution 49 = .ok (.aload_n 0, 1) := by decide +kernel
theorem dX8_solution_50 : decode cX8_solution 50 = .ok (.getfield 172, 3) := by decide +kernel
theorem dX8_solution_53 : decode cX8_solution 53 = .ok (.isub, 1) := by decide +kernel
theorem dX8_solution_54 : decode cX8_solution 54 = .ok (.istore_n 3, 1) := by decide +kernel
theorem dX8_solution_55 : decode cX8_solution 55 = .ok (.lconst 0, 1) := by decide +kernel
theorem dX8_solution_56 : decode cX8_solution 56 = .ok (.lstore 4, 2) := by decide +kernel
theorem dX8_solution_58 : decode cX8_solution 58 = .ok (.iconst 0, 1) := by decide +kernel
theorem dX8_solution_59 : decode cX8_solution 59 = .ok (.istore 6, 2) := by decide +kernel
theorem dX8_solution_61 : decode cX8_solution 61 = .ok (.iconst 0, 1) := by decide +kernel
theorem dX8_solution_62 : decode cX8_solution 62 = .ok (.istore 7, 2) := by decide +kernel
theorem dX8_solution_64 : decode cX8_solution 64 = .ok (.iload 7, 2) := by decide +kernel
theorem dX8_solution_66 : decode cX8_solution 66 = .ok (.aload_n 0, 1) := by decide +kernel
theorem dX8_solution_67 : decode cX8_solution 67 = .ok (.getfield 77, 3) := by decide +kernel
theorem dX8_solution_70 : decode cX8_solution 70 = .ok (.if_icmp .ge 106, 3) := by decide +kernel
theorem dX8_solution_73 : decode cX8_solution 73 = .ok (.lconst 1, 1) := by decide +kernel
theorem dX8_solution_74 : decode cX8_solution 74 = .ok (.iload 7, 2) := by decide +kernel
theorem dX8_solution_76 : decode cX8_solution 76 = .ok (.lshl, 1) := by decide +kernel
theorem dX8_solution_77 : decode cX8_solution 77 = .ok (.lstore 8, 2) := by decide +kernel
theorem dX8_solution_79 : decode cX8_solution 79 = .ok (.iload 6, 2) := by decide +kernel
theorem dX8_solution_81 : decode cX8_solution 81 = .ok (.aload_n 0, 1) := by decide +kernel
theorem dX8_solution_82 : decode cX8_solution 82 = .ok (.getfield 172, 3) := by decide +kernel
theorem dX8_solution_85 : decode cX8_solution 85 = .ok (.if_icmp .ge 61, 3) := by decide +kernel
theorem dX8_solution_88 : decode cX8_solution 88 = .ok (.aload_n 0, 1) := by decide +kernel
theorem dX8_solution_89 : decode cX8_solution 89 = .ok (.getfield 44, 3) := by decide +kernel
theorem dX8_solution_92 : decode cX8_solution 92 = .ok (.iload 6, 2) := by decide +kernel
theorem dX8_solution_94 : decode cX8_solution 94 = .ok (.laload, 1) := by decide +kernel
theorem dX8_solution_95 : decode cX8_solution 95 = .ok (.invokestatic 194, 3) := by decide +kernel
theorem dX8_solution_98 : decode cX8_solution 98 = .ok (.lload 8, 2) := by decide +kernel
theorem dX8_solution_100 : decode cX8_solution 100 = .ok (.lcmp, 1) := by decide +kernel
theorem dX8_solution_101 : decode cX8_solution 101 = .ok (.ifCond .ne 45, 3) := by decide +kernel
theorem dX8_solution_104 : decode cX8_solution 104 = .ok (.lload 4, 2) := by decide +kernel
theorem dX8_solution_106 : decode cX8_solution 106 = .ok (.aload_n 0, 1) := by decide +kernel
theorem dX8_solution_107 : decode cX8_solution 107 = .ok (.getfield 47, 3) := by decide +kernel
theorem dX8_solution_110 : decode cX8_solution 110 = .ok (.iload 6, 2) := by decide +kernel
theorem dX8_solution_112 : decode cX8_solution 112 = .ok (.iaload, 1) := by decide +kernel
theorem dX8_solution_113 : decode cX8_solution 113 = .ok (.aload_n 0, 1) := by decide +kernel
theorem dX8_solution_114 : decode cX8_solution 114 = .ok (.getfield 44, 3) := by decide +kernel
theorem dX8_solution_117 : decode cX8_solution 117 = .ok (.iload 6, 2) := by decide +kernel
theorem dX8_solution_119 : decode cX8_solution 119 = .ok (.laload, 1) := by decide +kernel
theorem dX8_solution_120 : decode cX8_solution 120 = .ok (.lload 4, 2) := by decide +kernel
theorem dX8_solution_122 : decode cX8_solution 122 = .ok (.land, 1) := by decide +kernel
theorem dX8_solution_123 : decode cX8_solution 123 = .ok (.invokestatic 179, 3) := by decide +kernel
theorem dX8_solution_126 : decode cX8_solution 126 = .ok (.ixor, 1) := by decide +kernel
theorem dX8_solution_127 : decode cX8_solution 127 = .ok (.iconst 1, 1) := by decide +kernel
theorem dX8_solution_128 : decode cX8_solution 128 = .ok (.if_icmp .ne 8, 3) := by decide +kernel
theorem dX8_solution_131 : decode cX8_solution 131 = .ok (.lload 8, 2) := by decide +kernel
theorem dX8_solution_133 : decode cX8_solution 133 = .ok (.goto 4, 3) := by decide +kernel
theorem dX8_solution_136 : decode cX8_solution 136 = .ok (.lconst 0, 1) := by decide +kernel
theorem dX8_solution_137 : decode cX8_solution 137 = .ok (.lor, 1) := by decide +kernel
theorem dX8_solution_138 : decode cX8_solution 138 = .ok (.lstore 4, 2) := by decide +kernel
theorem dX8_solution_140 : decode cX8_solution 140 = .ok (.iinc 6 1, 3) := by decide +kernel
theorem dX8_solution_143 : decode cX8_solution 143 = .ok (.goto 27, 3) := by decide +kernel
theorem dX8_solution_146 : decode cX8_solution 146 = .ok (.iinc 3 (-1), 3) := by decide +kernel
theorem dX8_solution_149 : decode cX8_solution 149 = .ok (.lload 4, 2) := by decide +kernel
theorem dX8_solution_151 : decode cX8_solution 151 = .ok (.lload_n 1, 1) := by decide +kernel
theorem dX8_solution_152 : decode cX8_solution 152 = .ok (.iload_n 3, 1) := by decide +kernel
theorem dX8_solution_153 : decode cX8_solution 153 = .ok (.lshr, 1) := by decide +kernel
theorem dX8_solution_154 : decode cX8_solution 154 = .ok (.lconst 1, 1) := by decide +kernel
theorem dX8_solution_155 : decode cX8_solution 155 = .ok (.land, 1) := by decide +kernel
theorem dX8_solution_156 : decode cX8_solution 156 = .ok (.lconst 1, 1) := by decide +kernel
theorem dX8_solution_157 : decode cX8_solution 157 = .ok (.lcmp, 1) := by decide +kernel
theorem dX8_solution_158 : decode cX8_solution 158 = .ok (.ifCond .ne 8, 3) := by decide +kernel
theorem dX8_solution_161 : decode cX8_solution 161 = .ok (.lload 8, 2) := by decide +kernel
theorem dX8_solution_163 : decode cX8_solution 163 = .ok (.goto 4, 3) := by decide +kernel
theorem dX8_solution_166 : decode cX8_solution 166 = .ok (.lconst 0, 1) := by decide +kernel
theorem dX8_solution_167 : decode cX8_solution 167 = .ok (.lor, 1) := by decide +kernel
theorem dX8_solution_168 : decode cX8_solution 168 = .ok (.lstore 4, 2) := by decide +kernel
theorem dX8_solution_170 : decode cX8_solution 170 = .ok (.iinc 7 1, 3) := by decide +kernel
theorem dX8_solution_173 : decode cX8_solution 173 = .ok (.goto (-109), 3) := by decide +kernel
theorem dX8_solution_176 : decode cX8_solution 176 = .ok (.lload 4, 2) := by decide +kernel
theorem dX8_solution_178 : decode cX8_solution 178 = .ok (.lreturn, 1) := by decide +kernel
set_option maxRecDepth 20000 in
theorem ggX8_sum_X8_areThere : GoodIn wsX8_sum wsX8_areThere := goodIn_r _ [9, 10, 45, 46, 47, 48, 49, 50, 51, 52, 53, 54, 55, 56, 57, 58, 59, 60, 61, 62, 63, 64, 65, 66, 67, 68, 69, 70, 71, 72, 73, 74, 75, 76, 77, 78, 79, 80, 81, 82, 83, 84, 85, 86, 87] (by decide +kernel) (by decide +kernel)
set_option maxRecDepth 20000 in
theorem gX8_sum_X8_areThere : GoodIn wsX8_sum (wsV RX8 90 RX8 yX8_areThere wsX8_areThere) := goodIn_app (goodIn_of _ (by decide +kernel)) ggX8_sum_X8_areThere
set_option maxRecDepth 20000 in
theorem ggX8_sum_X8_may : GoodIn wsX8_sum wsX8_may := goodIn_r _ [14, 15, 45, 46, 47, 48, 49, 50, 51, 52, 53, 54, 55, 56, 57, 58, 59, 60, 61, 62, 63, 64, 65, 66, 67, 68, 69, 70, 71, 72, 73, 74, 75, 76, 77, 78, 79, 80, 81, 82, 83, 84, 85, 86, 87] (by decide +kernel) (by decide +kernel)
set_option maxRecDepth 20000 in
theorem gX8_sum_X8_may : GoodIn wsX8_sum (wsV RX8 101 RX8 yX8_may wsX8_may) := goodIn_app (goodIn_of _ (by decide +kernel)) ggX8_sum_X8_may
set_option maxRecDepth 20000 in
theorem ggX8_sum_X8_makeRows : GoodIn wsX8_sum wsX8_makeRows := goodIn_r _ [19, 2, 1, 20, 21, 22, 23, 3, 4, 24, 25, 8, 26, 27, 28, 29, 30, 31, 32, 33, 34, 35, 36, 37, 38, 39, 40, 41, 42, 43, 44, 45, 46, 47, 48, 49, 50, 51, 52, 53, 54, 55, 56, 57, 58, 59, 60, 61, 62, 63, 64, 65, 66, 67, 68, 69, 70, 71, 72, 73, 74, 75, 76, 77, 78, 79, 80, 81, 82, 83, 84, 85, 86, 87] (by decide +kernel) (by decide +kernel)
set_option maxRecDepth 20000 in
theorem gX8_sum_X8_makeRows : GoodIn wsX8_sum (wsV RX8 197 RX8 yX8_makeRows wsX8_makeRows) := goodIn_app (goodIn_of _ (by decide +kernel)) ggX8_sum_X8_makeRows
set_option maxRecDepth 20000 in
theorem ggX8_sum_X8_lowest : GoodIn wsX8_sum wsX8_lowest := goodIn_r _ [36] (by decide +kernel) (by decide +kernel)
set_option maxRecDepth 20000 in
theorem gX8_sum_X8_lowest : GoodIn wsX8_sum (va_wsS RX8 190 yX8_lowest wsX8_lowest) := goodIn_app (goodIn_of _ (by decide +kernel)) ggX8_sum_X8_lowest
theorem dX8_sum_0 : decode cX8_sum 0 = .ok (.aload_n 0, 1) := by decide +kernel
theorem dX8_sum_1 : decode cX8_sum 1 = .ok (.aload_n 0, 1) := by decide +kernel
theorem dX8_sum_2 : decode cX8_sum 2 = .ok (.lload_n 1, 1) := by decide +kernel
theorem dX8_sum_3 : decode cX8_sum 3 = .ok (.invokevirtual 90, 3) := by decide +kernel
theorem dX8_sum_6 : decode cX8_sum 6 = .ok (.iconst 1, 1) := by decide +kernel
theorem dX8_sum_7 : decode cX8_sum 7 = .ok (.invokevirtual 101, 3) := by decide +kernel
theorem dX8_sum_10 : decode cX8_sum 10 = .ok (.ifCond .ne 5, 3) := by decide +kernel
theorem dX8_sum_13 : decode cX8_sum 13 = .ok (.iconst 0, 1) := by decide +kernel
theorem dX8_sum_14 : decode cX8_sum 14 = .ok (.ireturn, 1) := by decide +kernel
theorem dX8_sum_15 : decode cX8_sum 15 = .ok (.aload_n 0, 1) := by decide +kernel
theorem dX8_sum_16 : decode cX8_sum 16 = .ok (.lconst 0, 1) := by decide +kernel
theorem dX8_sum_17 : decode cX8_sum 17 = .ok (.lconst 0, 1) := by decide +kernel
theorem dX8_sum_18 : decode cX8_sum 18 = .ok (.iconst 1, 1) := by decide +kernel
theorem dX8_sum_19 : decode cX8_sum 19 = .ok (.invokevirtual 197, 3) := by decide +kernel
theorem dX8_sum_22 : decode cX8_sum 22 = .ok (.aload_n 0, 1) := by decide +kernel
theorem dX8_sum_23 : decode cX8_sum 23 = .ok (.getfield 175, 3) := by decide +kernel
theorem dX8_sum_26 : decode cX8_sum 26 = .ok (.ifCond .eq 6, 3) := by decide +kernel
theorem dX8_sum_29 : decode cX8_sum 29 = .ok (.bipush (-2), 2) := by decide +kernel
theorem dX8_sum_31 : decode cX8_sum 31 = .ok (.ireturn, 1) := by decide +kernel
theorem dX8_sum_32 : decode cX8_sum 32 = .ok (.lload_n 1, 1) := by decide +kernel
theorem dX8_sum_33 : decode cX8_sum 33 = .ok (.lstore_n 3, 1) := by decide +kernel
theorem dX8_sum_34 : decode cX8_sum 34 = .ok (.iconst 0, 1) := by decide +kernel
theorem dX8_sum_35 : decode cX8_sum 35 = .ok (.istore 5, 2) := by decide +kernel
theorem dX8_sum_37 : decode cX8_sum 37 = .ok (.iconst 0, 1) := by decide +kernel
theorem dX8_sum_38 : decode cX8_sum 38 = .ok (.istore 6, 2) := by decide +kernel
theorem dX8_sum_40 : decode cX8_sum 40 = .ok (.iload 6, 2) := by decide +kernel
theorem dX8_sum_42 : decode cX8_sum 42 = .ok (.aload_n 0, 1) := by decide +kernel
theorem dX8_sum_43 : decode cX8_sum 43 = .ok (.getfield 172, 3) := by decide +kernel
theorem dX8_sum_46 : decode cX8_sum 46 = .ok (.if_icmp .ge 48, 3) := by decide +kernel
theorem dX8_sum_49 : decode cX8_sum 49 = .ok (.lload_n 3, 1) := by decide +kernel
theorem dX8_sum_50 : decode cX8_sum 50 = .ok (.aload_n 0, 1) := by decide +kernel
theorem dX8_sum_51 : decode cX8_sum 51 = .ok (.getfield 44, 3) := by decide +kernel
theorem dX8_sum_54 : decode cX8_sum 54 = .ok (.iload 6, 2) := by decide +kernel
theorem dX8_sum_56 : decode cX8_sum 56 = .ok (.laload, 1) := by decide +kernel
theorem dX8_sum_57 : decode cX8_sum 57 = .ok (.invokestatic 190, 3) := by decide +kernel
theorem dX8_sum_60 : decode cX8_sum 60 = .ok (.land, 1) := by decide +kernel
theorem dX8_sum_61 : decode cX8_sum 61 = .ok (.lconst 0, 1) := by decide +kernel
theorem dX8_sum_62 : decode cX8_sum 62 = .ok (.lcmp, 1) := by decide +kernel
theorem dX8_sum_63 : decode cX8_sum 63 = .ok (.ifCond .eq 25, 3) := by decide +kernel
theorem dX8_sum_66 : decode cX8_sum 66 = .ok (.lload_n 3, 1) := by decide +kernel
theorem dX8_sum_67 : decode cX8_sum 67 = .ok (.aload_n 0, 1) := by decide +kernel
theorem dX8_sum_68 : decode cX8_sum 68 = .ok (.getfield 44, 3) := by decide +kernel
theorem dX8_sum_71 : decode cX8_sum 71 = .ok (.iload 6, 2) := by decide +kernel
theorem dX8_sum_73 : decode cX8_sum 73 = .ok (.laload, 1) := by decide +kernel
theorem dX8_sum_74 : decode cX8_sum 74 = .ok (.lxor, 1) := by decide +kernel
theorem dX8_sum_75 : decode cX8_sum 75 = .ok (.lstore_n 3, 1) := by decide +kernel
theorem dX8_sum_76 : decode cX8_sum 76 = .ok (.iload 5, 2) := by decide +kernel
theorem dX8_sum_78 : decode cX8_sum 78 = .ok (.aload_n 0, 1) := by decide +kernel
theorem dX8_sum_79 : decode cX8_sum 79 = .ok (.getfield 47, 3) := by decide +kernel
theorem dX8_sum_82 : decode cX8_sum 82 = .ok (.iload 6, 2) := by decide +kernel
theorem dX8_sum_84 : decode cX8_sum 84 = .ok (.iaload, 1) := by decide +kernel
theorem dX8_sum_85 : decode cX8_sum 85 = .ok (.ixor, 1) := by decide +kernel
theorem dX8_sum_86 : decode cX8_sum 86 = .ok (.istore 5, 2) := by decide +kernel
theorem dX8_sum_88 : decode cX8_sum 88 = .ok (.iinc 6 1, 3) := by decide +kernel
theorem dX8_sum_91 : decode cX8_sum 91 = .ok (.goto (-51), 3) := by decide +kernel
theorem dX8_sum_94 : decode cX8_sum 94 = .ok (.lload_n 3, 1) := by decide +kernel
theorem dX8_sum_95 : decode cX8_sum 95 = .ok (.lconst 0, 1) := by decide +kernel
theorem dX8_sum_96 : decode cX8_sum 96 = .ok (.lcmp, 1) := by decide +kernel
theorem dX8_sum_97 : decode cX8_sum 97 = .ok (.ifCond .ne 8, 3) := by decide +kernel
theorem dX8_sum_100 : decode cX8_sum 100 = .ok (.iload 5, 2) := by decide +kernel
theorem dX8_sum_102 : decode cX8_sum 102 = .ok (.goto 4, 3) := by decide +kernel
theorem dX8_sum_105 : decode cX8_sum 105 = .ok (.iconst (-1), 1) := by decide +kernel
theorem dX8_sum_106 : decode cX8_sum 106 = .ok (.ireturn, 1) := by decide +kernel
theorem dX8_take_0 : decode cX8_take 0 = .ok (.aload_n 0, 1) := by decide +kernel
theorem dX8_take_1 : decode cX8_take 1 = .ok (.dup, 1) := by decide +kernel
theorem dX8_take_2 : decode cX8_take 2 = .ok (.getfield 209, 3) := by decide +kernel
theorem dX8_take_5 : decode cX8_take 5 = .ok (.lload_n 1, 1) := by decide +kernel
theorem dX8_take_6 : decode cX8_take 6 = .ok (.lor, 1) := by decide +kernel
theorem dX8_take_7 : decode cX8_take 7 = .ok (.putfield 209, 3) := by decide +kernel
theorem dX8_take_10 : decode cX8_take 10 = .ok (.aload_n 0, 1) := by decide +kernel
theorem dX8_take_11 : decode cX8_take 11 = .ok (.dup, 1) := by decide +kernel
theorem dX8_take_12 : decode cX8_take 12 = .ok (.getfield 212, 3) := by decide +kernel
theorem dX8_take_15 : decode cX8_take 15 = .ok (.iload_n 3, 1) := by decide +kernel
theorem dX8_take_16 : decode cX8_take 16 = .ok (.ifCond .eq 7, 3) := by decide +kernel
theorem dX8_take_19 : decode cX8_take 19 = .ok (.lload_n 1, 1) := by decide +kernel
theorem dX8_take_20 : decode cX8_take 20 = .ok (.goto 4, 3) := by decide +kernel
theorem dX8_take_23 : decode cX8_take 23 = .ok (.lconst 0, 1) := by decide +kernel
theorem dX8_take_24 : decode cX8_take 24 = .ok (.lor, 1) := by decide +kernel
theorem dX8_take_25 : decode cX8_take 25 = .ok (.putfield 212, 3) := by decide +kernel
theorem dX8_take_28 : decode cX8_take 28 = .ok (.iconst 1, 1) := by decide +kernel
theorem dX8_take_29 : decode cX8_take 29 = .ok (.ireturn, 1) := by decide +kernel
set_option maxRecDepth 20000 in
theorem ggX8_clausesFollow_X8_lowest : GoodIn wsX8_clausesFollow wsX8_lowest := goodIn_r _ [10] (by decide +kernel) (by decide +kernel)
set_option maxRecDepth 20000 in
theorem gX8_clausesFollow_X8_lowest : GoodIn wsX8_clausesFollow (va_wsS RX8 190 yX8_lowest wsX8_lowest) := goodIn_app (goodIn_of _ (by decide +kernel)) ggX8_clausesFollow_X8_lowest
set_option maxRecDepth 20000 in
theorem ggX8_clausesFollow_X8_take : GoodIn wsX8_clausesFollow wsX8_take := goodIn_r _ [14, 5, 3, 15, 16, 17, 18, 19, 20, 21, 22, 23, 24, 25, 26, 27, 28, 29, 30, 31, 32, 33, 34, 35, 36, 37, 38, 39, 40, 41, 42, 43, 44, 45, 46, 47, 48, 49, 50, 51, 52, 53, 54, 55, 56, 57] (by decide +kernel) (by decide +kernel)
set_option maxRecDepth 20000 in
theorem gX8_clausesFollow_X8_take : GoodIn wsX8_clausesFollow (wsV RX8 215 RX8 yX8_take wsX8_take) := goodIn_app (goodIn_of _ (by decide +kernel)) ggX8_clausesFollow_X8_take
theorem dX8_clausesFollow_0 : decode cX8_clausesFollow 0 = .ok (.iconst 0, 1) := by decide +kernel
theorem dX8_clausesFollow_1 : decode cX8_clausesFollow 1 = .ok (.istore_n 1, 1) := by decide +kernel
theorem dX8_clausesFollow_2 : decode cX8_clausesFollow 2 = .ok (.iload_n 1, 1) := by decide +kernel
theorem dX8_clausesFollow_3 : decode cX8_clausesFollow 3 = .ok (.aload_n 0, 1) := by decide +kernel
theorem dX8_clausesFollow_4 : decode cX8_clausesFollow 4 = .ok (.getfield 105, 3) := by decide +kernel
theorem dX8_clausesFollow_7 : decode cX8_clausesFollow 7 = .ok (.if_icmp .ge 128, 3) := by decide +kernel
theorem dX8_clausesFollow_10 : decode cX8_clausesFollow 10 = .ok (.aload_n 0, 1) := by decide +kernel
theorem dX8_clausesFollow_11 : decode cX8_clausesFollow 11 = .ok (.getfield 17, 3) := by decide +kernel
theorem dX8_clausesFollow_14 : decode cX8_clausesFollow 14 = .ok (.iload_n 1, 1) := by decide +kernel
theorem dX8_clausesFollow_15 : decode cX8_clausesFollow 15 = .ok (.laload, 1) := by decide +kernel
theorem dX8_clausesFollow_16 : decode cX8_clausesFollow 16 = .ok (.aload_n 0, 1) := by decide +kernel
theorem dX8_clausesFollow_17 : decode cX8_clausesFollow 17 = .ok (.getfield 212, 3) := by decide +kernel
theorem dX8_clausesFollow_20 : decode cX8_clausesFollow 20 = .ok (.land, 1) := by decide +kernel
theorem dX8_clausesFollow_21 : decode cX8_clausesFollow 21 = .ok (.lconst 0, 1) := by decide +kernel
theorem dX8_clausesFollow_22 : decode cX8_clausesFollow 22 = .ok (.lcmp, 1) := by decide +kernel
theorem dX8_clausesFollow_23 : decode cX8_clausesFollow 23 = .ok (.ifCond .ne 28, 3) := by decide +kernel
theorem dX8_clausesFollow_26 : decode cX8_clausesFollow 26 = .ok (.aload_n 0, 1) := by decide +kernel
theorem dX8_clausesFollow_27 : decode cX8_clausesFollow 27 = .ok (.getfield 20, 3) := by decide +kernel
theorem dX8_clausesFollow_30 : decode cX8_clausesFollow 30 = .ok (.iload_n 1, 1) := by decide +kernel
theorem dX8_clausesFollow_31 : decode cX8_clausesFollow 31 = .ok (.laload, 1) := by decide +kernel
theorem dX8_clausesFollow_32 : decode cX8_clausesFollow 32 = .ok (.aload_n 0, 1) := by decide +kernel
theorem dX8_clausesFollow_33 : decode cX8_clausesFollow 33 = .ok (.getfield 209, 3) := by decide +kernel
theorem dX8_clausesFollow_36 : decode cX8_clausesFollow 36 = .ok (.land, 1) := by decide +kernel
theorem dX8_clausesFollow_37 : decode cX8_clausesFollow 37 = .ok (.aload_n 0, 1) := by decide +kernel
theorem dX8_clausesFollow_38 : decode cX8_clausesFollow 38 = .ok (.getfield 212, 3) := by decide +kernel
theorem dX8_clausesFollow_41 : decode cX8_clausesFollow 41 = .ok (.ldc2_w 68, 3) := by decide +kernel
theorem dX8_clausesFollow_44 : decode cX8_clausesFollow 44 = .ok (.lxor, 1) := by decide +kernel
theorem dX8_clausesFollow_45 : decode cX8_clausesFollow 45 = .ok (.land, 1) := by decide +kernel
theorem dX8_clausesFollow_46 : decode cX8_clausesFollow 46 = .ok (.lconst 0, 1) := by decide +kernel
theorem dX8_clausesFollow_47 : decode cX8_clausesFollow 47 = .ok (.lcmp, 1) := by decide +kernel
theorem dX8_clausesFollow_48 : decode cX8_clausesFollow 48 = .ok (.ifCond .eq 7, 3) := by decide +kernel
theorem dX8_clausesFollow_51 : decode cX8_clausesFollow 51 = .ok (.iconst 1, 1) := by decide +kernel
theorem dX8_clausesFollow_52 : decode cX8_clausesFollow 52 = .ok (.goto 4, 3) := by decide +kernel
theorem dX8_clausesFollow_55 : decode cX8_clausesFollow 55 = .ok (.iconst 0, 1) := by decide +kernel
theorem dX8_clausesFollow_56 : decode cX8_clausesFollow 56 = .ok (.istore_n 2, 1) := by decide +kernel
theorem dX8_clausesFollow_57 : decode cX8_clausesFollow 57 = .ok (.aload_n 0, 1) := by decide +kernel
theorem dX8_clausesFollow_58 : decode cX8_clausesFollow 58 = .ok (.getfield 17, 3) := by decide +kernel
theorem dX8_clausesFollow_61 : decode cX8_clausesFollow 61 = .ok (.iload_n 1, 1) := by decide +kernel
theorem dX8_clausesFollow_62 : decode cX8_clausesFollow 62 = .ok (.laload, 1) := by decide +kernel
theorem dX8_clausesFollow_63 : decode cX8_clausesFollow 63 = .ok (.aload_n 0, 1) := by decide +kernel
theorem dX8_clausesFollow_64 : decode cX8_clausesFollow 64 = .ok (.getfield 20, 3) := by decide +kernel
theorem dX8_clausesFollow_67 : decode cX8_clausesFollow 67 = .ok (.iload_n 1, 1) := by decide +kernel
theorem dX8_clausesFollow_68 : decode cX8_clausesFollow 68 = .ok (.laload, 1) := by decide +kernel
theorem dX8_clausesFollow_69 : decode cX8_clausesFollow 69 = .ok (.lor, 1) := by decide +kernel
theorem dX8_clausesFollow_70 : decode cX8_clausesFollow 70 = .ok (.aload_n 0, 1) := by decide +kernel
theorem dX8_clausesFollow_71 : decode cX8_clausesFollow 71 = .ok (.getfield 209, 3) := by decide +kernel
theorem dX8_clausesFollow_74 : decode cX8_clausesFollow 74 = .ok (.ldc2_w 68, 3) := by decide +kernel
theorem dX8_clausesFollow_77 : decode cX8_clausesFollow 77 = .ok (.lxor, 1) := by decide +kernel
theorem dX8_clausesFollow_78 : decode cX8_clausesFollow 78 = .ok (.land, 1) := by decide +kernel
theorem dX8_clausesFollow_79 : decode cX8_clausesFollow 79 = .ok (.lstore_n 3, 1) := by decide +kernel
theorem dX8_clausesFollow_80 : decode cX8_clausesFollow 80 = .ok (.iload_n 2, 1) := by decide +kernel
theorem dX8_clausesFollow_81 : decode cX8_clausesFollow 81 = .ok (.ifCond .ne 11, 3) := by decide +kernel
theorem dX8_clausesFollow_84 : decode cX8_clausesFollow 84 = .ok (.lload_n 3, 1) := by decide +kernel
theorem dX8_clausesFollow_85 : decode cX8_clausesFollow 85 = .ok (.lconst 0, 1) := by decide +kernel
theorem dX8_clausesFollow_86 : decode cX8_clausesFollow 86 = .ok (.lcmp, 1) := by decide +kernel
theorem dX8_clausesFollow_87 : decode cX8_clausesFollow 87 = .ok (.ifCond .ne 5, 3) := by decide +kernel
theorem dX8_clausesFollow_90 : decode cX8_clausesFollow 90 = .ok (.iconst 0, 1) := by decide +kernel
theorem dX8_clausesFollow_91 : decode cX8_clausesFollow 91 = .ok (.ireturn, 1) := by decide +kernel
theorem dX8_clausesFollow_92 : decode cX8_clausesFollow 92 = .ok (.iload_n 2, 1) := by decide +kernel
theorem dX8_clausesFollow_93 : decode cX8_clausesFollow 93 = .ok (.ifCond .ne 36, 3) := by decide +kernel
theorem dX8_clausesFollow_96 : decode cX8_clausesFollow 96 = .ok (.lload_n 3, 1) := by decide +kernel
theorem dX8_clausesFollow_97 : decode cX8_clausesFollow 97 = .ok (.invokestatic 190, 3) := by decide +kernel
theorem dX8_clausesFollow_100 : decode cX8_clausesFollow 100 = .ok (.lload_n 3, 1) := by decide +kernel
theorem dX8_clausesFollow_101 : decode cX8_clausesFollow 101 = .ok (.lcmp, 1) := by decide +kernel
theorem dX8_clausesFollow_102 : decode cX8_clausesFollow 102 = .ok (.ifCond .ne 27, 3) := by decide +kernel
theorem dX8_clausesFollow_105 : decode cX8_clausesFollow 105 = .ok (.aload_n 0, 1) := by decide +kernel
theorem dX8_clausesFollow_106 : decode cX8_clausesFollow 106 = .ok (.lload_n 3, 1) := by decide +kernel
theorem dX8_clausesFollow_107 : decode cX8_clausesFollow 107 = .ok (.aload_n 0, 1) := by decide +kernel
theorem dX8_clausesFollow_108 : decode cX8_clausesFollow 108 = .ok (.getfield 17, 3) := by decide +kernel
theorem dX8_clausesFollow_111 : decode cX8_clausesFollow 111 = .ok (.iload_n 1, 1) := by decide +kernel
theorem dX8_clausesFollow_112 : decode cX8_clausesFollow 112 = .ok (.laload, 1) := by decide +kernel
theorem dX8_clausesFollow_113 : decode cX8_clausesFollow 113 = .ok (.lload_n 3, 1) := by decide +kernel
theorem dX8_clausesFollow_114 : decode cX8_clausesFollow 114 = .ok (.land, 1) := by decide +kernel
theorem dX8_clausesFollow_115 : decode cX8_clausesFollow 115 = .ok (.lconst 0, 1) := by decide +kernel
theorem dX8_clausesFollow_116 : decode cX8_clausesFollow 116 = .ok (.lcmp, 1) := by decide +kernel
theorem dX8_clausesFollow_117 : decode cX8_clausesFollow 117 = .ok (.ifCond .eq 7, 3) := by decide +kernel
theorem dX8_clausesFollow_120 : decode cX8_clausesFollow 120 = .ok (.iconst 1, 1) := by decide +kernel
theorem dX8_clausesFollow_121 : decode cX8_clausesFollow 121 = .ok (.goto 4, 3) := by decide +kernel
theorem dX8_clausesFollow_124 : decode cX8_clausesFollow 124 = .ok (.iconst 0, 1) := by decide +kernel
theorem dX8_clausesFollow_125 : decode cX8_clausesFollow 125 = .ok (.invokevirtual 215, 3) := by decide +kernel
theorem dX8_clausesFollow_128 : decode cX8_clausesFollow 128 = .ok (.pop, 1) := by decide +kernel
theorem dX8_clausesFollow_129 : decode cX8_clausesFollow 129 = .ok (.iinc 1 1, 3) := by decide +kernel
theorem dX8_clausesFollow_132 : decode cX8_clausesFollow 132 = .ok (.goto (-130), 3) := by decide +kernel
theorem dX8_clausesFollow_135 : decode cX8_clausesFollow 135 = .ok (.iconst 1, 1) := by decide +kernel
theorem dX8_clausesFollow_136 : decode cX8_clausesFollow 136 = .ok (.ireturn, 1) := by decide +kernel
set_option maxRecDepth 20000 in
theorem ggX8_allFollows_X8_clausesFollow : GoodIn wsX8_allFollows wsX8_clausesFollow := goodIn_r _ [12, 13, 14, 3, 15, 2, 1, 16, 17, 11, 18, 19, 20, 21, 22, 48, 49, 50, 51, 52, 53, 54, 55, 56, 57, 58, 59, 60, 61, 62, 63, 64, 65, 66, 67, 68, 69, 70, 71, 72, 73, 74, 75, 76, 77, 78, 79, 80, 81, 82, 83, 84, 85, 86, 87, 88, 89, 90] (by decide +kernel) (by decide +kernel)
set_option maxRecDepth 20000 in
theorem gX8_allFollows_X8_clausesFollow : GoodIn wsX8_allFollows (wsV RX8 219 RX8 yX8_clausesFollow wsX8_clausesFollow) := goodIn_app (goodIn_of _ (by decide +kernel)) ggX8_allFollows_X8_clausesFollow
set_option maxRecDepth 20000 in
theorem ggX8_allFollows_X8_makeRows : GoodIn wsX8_allFollows wsX8_makeRows := goodIn_r _ [26, 5, 4, 27, 28, 1, 29, 6, 7, 30, 31, 11, 32, 33, 34, 35, 36, 37, 38, 39, 16, 17, 18, 40, 41, 42, 43, 44, 45, 46, 47, 48, 49, 50, 51, 52, 53, 54, 55, 56, 57, 58, 59, 60, 61, 62, 63, 64, 65, 66, 67, 68, 69, 70, 71, 72, 73, 74, 75, 76, 77, 78, 79, 80, 81, 82, 83, 84, 85, 86, 87, 88, 89, 90] (by decide +kernel) (by decide +kernel)
set_option maxRecDepth 20000 in
theorem gX8_allFollows_X8_makeRows : GoodIn wsX8_allFollows (wsV RX8 197 RX8 yX8_makeRows wsX8_makeRows) := goodIn_app (goodIn_of _ (by decide +kernel)) ggX8_allFollows_X8_makeRows
set_option maxRecDepth 20000 in
theorem ggX8_allFollows_X8_lowest : GoodIn wsX8_allFollows wsX8_lowest := goodIn_r _ [18] (by decide +kernel) (by decide +kernel)
set_option maxRecDepth 20000 in
theorem gX8_allFollows_X8_lowest : GoodIn wsX8_allFollows (va_wsS RX8 190 yX8_lowest wsX8_lowest) := goodIn_app (goodIn_of _ (by decide +kernel)) ggX8_allFollows_X8_lowest
set_option maxRecDepth 20000 in
theorem ggX8_allFollows_X8_take : GoodIn wsX8_allFollows wsX8_take := goodIn_r _ [22, 2, 3, 48, 49, 50, 51, 52, 53, 54, 55, 56, 57, 58, 59, 60, 61, 62, 63, 64, 65, 66, 67, 68, 69, 70, 71, 72, 73, 74, 75, 76, 77, 78, 79, 80, 81, 82, 83, 84, 85, 86, 87, 88, 89, 90] (by decide +kernel) (by decide +kernel)
set_option maxRecDepth 20000 in
theorem gX8_allFollows_X8_take : GoodIn wsX8_allFollows (wsV RX8 215 RX8 yX8_take wsX8_take) := goodIn_app (goodIn_of _ (by decide +kernel)) ggX8_allFollows_X8_take
theorem dX8_allFollows_0 : decode cX8_allFollows 0 = .ok (.ldc2_w 68, 3) := by decide +kernel
theorem dX8_allFollows_3 : decode cX8_allFollows 3 = .ok (.lstore_n 1, 1) := by decide +kernel
theorem dX8_allFollows_4 : decode cX8_allFollows 4 = .ok (.lload_n 1, 1) := by decide +kernel
theorem dX8_allFollows_5 : decode cX8_allFollows 5 = .ok (.aload_n 0, 1) := by decide +kernel
theorem dX8_allFollows_6 : decode cX8_allFollows 6 = .ok (.getfield 209, 3) := by decide +kernel
theorem dX8_allFollows_9 : decode cX8_allFollows 9 = .ok (.lcmp, 1) := by decide +kernel
theorem dX8_allFollows_10 : decode cX8_allFollows 10 = .ok (.ifCond .eq 103, 3) := by decide +kernel
theorem dX8_allFollows_13 : decode cX8_allFollows 13 = .ok (.aload_n 0, 1) := by decide +kernel
theorem dX8_allFollows_14 : decode cX8_allFollows 14 = .ok (.getfield 209, 3) := by decide +kernel
theorem dX8_allFollows_17 : decode cX8_allFollows 17 = .ok (.lstore_n 1, 1) := by decide +kernel
theorem dX8_allFollows_18 : decode cX8_allFollows 18 = .ok (.aload_n 0, 1) := by decide +kernel
theorem dX8_allFollows_19 : decode cX8_allFollows 19 = .ok (.invokevirtual 219, 3) := by decide +kernel
theorem dX8_allFollows_22 : decode cX8_allFollows 22 = .ok (.ifCond .ne 5, 3) := by decide +kernel
theorem dX8_allFollows_25 : decode cX8_allFollows 25 = .ok (.iconst 0, 1) := by decide +kernel
theorem dX8_allFollows_26 : decode cX8_allFollows 26 = .ok (.ireturn, 1) := by decide +kernel
theorem dX8_allFollows_27 : decode cX8_allFollows 27 = .ok (.aload_n 0, 1) := by decide +kernel
theorem dX8_allFollows_28 : decode cX8_allFollows 28 = .ok (.aload_n 0, 1) := by decide +kernel
theorem dX8_allFollows_29 : decode cX8_allFollows 29 = .ok (.getfield 209, 3) := by decide +kernel
theorem dX8_allFollows_32 : decode cX8_allFollows 32 = .ok (.aload_n 0, 1) := by decide +kernel
theorem dX8_allFollows_33 : decode cX8_allFollows 33 = .ok (.getfield 212, 3) := by decide +kernel
theorem dX8_allFollows_36 : decode cX8_allFollows 36 = .ok (.iconst 1, 1) := by decide +kernel
theorem dX8_allFollows_37 : decode cX8_allFollows 37 = .ok (.invokevirtual 197, 3) := by decide +kernel
theorem dX8_allFollows_40 : decode cX8_allFollows 40 = .ok (.aload_n 0, 1) := by decide +kernel
theorem dX8_allFollows_41 : decode cX8_allFollows 41 = .ok (.getfield 175, 3) := by decide +kernel
theorem dX8_allFollows_44 : decode cX8_allFollows 44 = .ok (.ifCond .eq 5, 3) := by decide +kernel
theorem dX8_allFollows_47 : decode cX8_allFollows 47 = .ok (.iconst 0, 1) := by decide +kernel
theorem dX8_allFollows_48 : decode cX8_allFollows 48 = .ok (.ireturn, 1) := by decide +kernel
theorem dX8_allFollows_49 : decode cX8_allFollows 49 = .ok (.iconst 0, 1) := by decide +kernel
theorem dX8_allFollows_50 : decode cX8_allFollows 50 = .ok (.istore_n 3, 1) := by decide +kernel
theorem dX8_allFollows_51 : decode cX8_allFollows 51 = .ok (.iload_n 3, 1) := by decide +kernel
theorem dX8_allFollows_52 : decode cX8_allFollows 52 = .ok (.aload_n 0, 1) := by decide +kernel
theorem dX8_allFollows_53 : decode cX8_allFollows 53 = .ok (.getfield 172, 3) := by decide +kernel
theorem dX8_allFollows_56 : decode cX8_allFollows 56 = .ok (.if_icmp .ge 54, 3) := by decide +kernel
theorem dX8_allFollows_59 : decode cX8_allFollows 59 = .ok (.aload_n 0, 1) := by decide +kernel
theorem dX8_allFollows_60 : decode cX8_allFollows 60 = .ok (.getfield 44, 3) := by decide +kernel
theorem dX8_allFollows_63 : decode cX8_allFollows 63 = .ok (.iload_n 3, 1) := by decide +kernel
theorem dX8_allFollows_64 : decode cX8_allFollows 64 = .ok (.laload, 1) := by decide +kernel
theorem dX8_allFollows_65 : decode cX8_allFollows 65 = .ok (.invokestatic 190, 3) := by decide +kernel
theorem dX8_allFollows_68 : decode cX8_allFollows 68 = .ok (.aload_n 0, 1) := by decide +kernel
theorem dX8_allFollows_69 : decode cX8_allFollows 69 = .ok (.getfield 44, 3) := by decide +kernel
theorem dX8_allFollows_72 : decode cX8_allFollows 72 = .ok (.iload_n 3, 1) := by decide +kernel
theorem dX8_allFollows_73 : decode cX8_allFollows 73 = .ok (.laload, 1) := by decide +kernel
theorem dX8_allFollows_74 : decode cX8_allFollows 74 = .ok (.lcmp, 1) := by decide +kernel
theorem dX8_allFollows_75 : decode cX8_allFollows 75 = .ok (.ifCond .ne 29, 3) := by decide +kernel
theorem dX8_allFollows_78 : decode cX8_allFollows 78 = .ok (.aload_n 0, 1) := by decide +kernel
theorem dX8_allFollows_79 : decode cX8_allFollows 79 = .ok (.aload_n 0, 1) := by decide +kernel
theorem dX8_allFollows_80 : decode cX8_allFollows 80 = .ok (.getfield 44, 3) := by decide +kernel
theorem dX8_allFollows_83 : decode cX8_allFollows 83 = .ok (.iload_n 3, 1) := by decide +kernel
theorem dX8_allFollows_84 : decode cX8_allFollows 84 = .ok (.laload, 1) := by decide +kernel
theorem dX8_allFollows_85 : decode cX8_allFollows 85 = .ok (.aload_n 0, 1) := by decide +kernel
theorem dX8_allFollows_86 : decode cX8_allFollows 86 = .ok (.getfield 47, 3) := by decide +kernel
theorem dX8_allFollows_89 : decode cX8_allFollows 89 = .ok (.iload_n 3, 1) := by decide +kernel
theorem dX8_allFollows_90 : decode cX8_allFollows 90 = .ok (.iaload, 1) := by decide +kernel
theorem dX8_allFollows_91 : decode cX8_allFollows 91 = .ok (.iconst 1, 1) := by decide +kernel
theorem dX8_allFollows_92 : decode cX8_allFollows 92 = .ok (.if_icmp .ne 7, 3) := by decide +kernel
theorem dX8_allFollows_95 : decode cX8_allFollows 95 = .ok (.iconst 1, 1) := by decide +kernel
theorem dX8_allFollows_96 : decode cX8_allFollows 96 = .ok (.goto 4, 3) := by decide +kernel
theorem dX8_allFollows_99 : decode cX8_allFollows 99 = .ok (.iconst 0, 1) := by decide +kernel
theorem dX8_allFollows_100 : decode cX8_allFollows 100 = .ok (.invokevirtual 215, 3) := by decide +kernel
theorem dX8_allFollows_103 : decode cX8_allFollows 103 = .ok (.pop, 1) := by decide +kernel
theorem dX8_allFollows_104 : decode cX8_allFollows 104 = .ok (.iinc 3 1, 3) := by decide +kernel
theorem dX8_allFollows_107 : decode cX8_allFollows 107 = .ok (.goto (-56), 3) := by decide +kernel
theorem dX8_allFollows_110 : decode cX8_allFollows 110 = .ok (.goto (-106), 3) := by decide +kernel
theorem dX8_allFollows_113 : decode cX8_allFollows 113 = .ok (.iconst 1, 1) := by decide +kernel
theorem dX8_allFollows_114 : decode cX8_allFollows 114 = .ok (.ireturn, 1) := by decide +kernel
set_option maxRecDepth 20000 in
theorem ggX8_follow_X8_areThere : GoodIn wsX8_follow wsX8_areThere := goodIn_r _ [8, 9, 62, 63, 64, 65, 66, 67, 68, 69, 70, 71, 72, 73, 74, 75, 76, 77, 78, 79, 80, 81, 82, 83, 84, 85, 86, 87, 88, 89, 90, 91, 92, 93, 94, 95, 96, 97, 98, 99, 100, 101, 102, 103, 104] (by decide +kernel) (by decide +kernel)
set_option maxRecDepth 20000 in
theorem gX8_follow_X8_areThere : GoodIn wsX8_follow (wsV RX8 90 RX8 yX8_areThere wsX8_areThere) := goodIn_app (goodIn_of _ (by decide +kernel)) ggX8_follow_X8_areThere
set_option maxRecDepth 20000 in
theorem ggX8_follow_X8_may : GoodIn wsX8_follow wsX8_may := goodIn_r _ [13, 14, 62, 63, 64, 65, 66, 67, 68, 69, 70, 71, 72, 73, 74, 75, 76, 77, 78, 79, 80, 81, 82, 83, 84, 85, 86, 87, 88, 89, 90, 91, 92, 93, 94, 95, 96, 97, 98, 99, 100, 101, 102, 103, 104] (by decide +kernel) (by decide +kernel)
set_option maxRecDepth 20000 in
theorem gX8_follow_X8_may : GoodIn wsX8_follow (wsV RX8 101 RX8 yX8_may wsX8_may) := goodIn_app (goodIn_of _ (by decide +kernel)) ggX8_follow_X8_may
set_option maxRecDepth 20000 in
theorem ggX8_follow_X8_allFollows : GoodIn wsX8_follow wsX8_allFollows := goodIn_r _ [18, 3, 1, 2, 19, 20, 21, 22, 23, 24, 25, 7, 26, 27, 28, 29, 30, 31, 32, 33, 34, 35, 36, 37, 38, 39, 40, 41, 42, 43, 44, 45, 46, 47, 48, 49, 50, 51, 52, 53, 54, 55, 56, 57, 58, 59, 60, 61, 62, 63, 64, 65, 66, 67, 68, 69, 70, 71, 72, 73, 74, 75, 76, 77, 78, 79, 80, 81, 82, 83, 84, 85, 86, 87, 88, 89, 90, 91, 92, 93, 94, 95, 96, 97, 98, 99, 100, 101, 102, 103, 104] (by decide +kernel) (by decide +kernel)
set_option maxRecDepth 20000 in
theorem gX8_follow_X8_allFollows : GoodIn wsX8_follow (wsV RX8 223 RX8 yX8_allFollows wsX8_allFollows) := goodIn_app (goodIn_of _ (by decide +kernel)) ggX8_follow_X8_allFollows
theorem dX8_follow_0 : decode cX8_follow 0 = .ok (.aload_n 0, 1) := by decide +kernel
theorem dX8_follow_1 : decode cX8_follow 1 = .ok (.aload_n 0, 1) := by decide +kernel
theorem dX8_follow_2 : decode cX8_follow 2 = .ok (.lload_n 1, 1) := by decide +kernel
theorem dX8_follow_3 : decode cX8_follow 3 = .ok (.invokevirtual 90, 3) := by decide +kernel
theorem dX8_follow_6 : decode cX8_follow 6 = .ok (.ifCond .eq 23, 3) := by decide +kernel
theorem dX8_follow_9 : decode cX8_follow 9 = .ok (.aload_n 0, 1) := by decide +kernel
theorem dX8_follow_10 : decode cX8_follow 10 = .ok (.lload_n 3, 1) := by decide +kernel
theorem dX8_follow_11 : decode cX8_follow 11 = .ok (.invokevirtual 90, 3) := by decide +kernel
theorem dX8_follow_14 : decode cX8_follow 14 = .ok (.ifCond .eq 15, 3) := by decide +kernel
theorem dX8_follow_17 : decode cX8_follow 17 = .ok (.lload_n 1, 1) := by decide +kernel
theorem dX8_follow_18 : decode cX8_follow 18 = .ok (.lload_n 3, 1) := by decide +kernel
theorem dX8_follow_19 : decode cX8_follow 19 = .ok (.land, 1) := by decide +kernel
theorem dX8_follow_20 : decode cX8_follow 20 = .ok (.lconst 0, 1) := by decide +kernel
theorem dX8_follow_21 : decode cX8_follow 21 = .ok (.lcmp, 1) := by decide +kernel
theorem dX8_follow_22 : decode cX8_follow 22 = .ok (.ifCond .ne 7, 3) := by decide +kernel
theorem dX8_follow_25 : decode cX8_follow 25 = .ok (.iconst 1, 1) := by decide +kernel
theorem dX8_follow_26 : decode cX8_follow 26 = .ok (.goto 4, 3) := by decide +kernel
theorem dX8_follow_29 : decode cX8_follow 29 = .ok (.iconst 0, 1) := by decide +kernel
theorem dX8_follow_30 : decode cX8_follow 30 = .ok (.iconst 1, 1) := by decide +kernel
theorem dX8_follow_31 : decode cX8_follow 31 = .ok (.invokevirtual 101, 3) := by decide +kernel
theorem dX8_follow_34 : decode cX8_follow 34 = .ok (.ifCond .ne 5, 3) := by decide +kernel
theorem dX8_follow_37 : decode cX8_follow 37 = .ok (.lconst 0, 1) := by decide +kernel
theorem dX8_follow_38 : decode cX8_follow 38 = .ok (.lreturn, 1) := by decide +kernel
theorem dX8_follow_39 : decode cX8_follow 39 = .ok (.aload_n 0, 1) := by decide +kernel
theorem dX8_follow_40 : decode cX8_follow 40 = .ok (.lload_n 1, 1) := by decide +kernel
theorem dX8_follow_41 : decode cX8_follow 41 = .ok (.lload_n 3, 1) := by decide +kernel
theorem dX8_follow_42 : decode cX8_follow 42 = .ok (.lor, 1) := by decide +kernel
theorem dX8_follow_43 : decode cX8_follow 43 = .ok (.putfield 209, 3) := by decide +kernel
theorem dX8_follow_46 : decode cX8_follow 46 = .ok (.aload_n 0, 1) := by decide +kernel
theorem dX8_follow_47 : decode cX8_follow 47 = .ok (.lload_n 1, 1) := by decide +kernel
theorem dX8_follow_48 : decode cX8_follow 48 = .ok (.putfield 212, 3) := by decide +kernel
theorem dX8_follow_51 : decode cX8_follow 51 = .ok (.aload_n 0, 1) := by decide +kernel
theorem dX8_follow_52 : decode cX8_follow 52 = .ok (.invokevirtual 223, 3) := by decide +kernel
theorem dX8_follow_55 : decode cX8_follow 55 = .ok (.ifCond .ne 9, 3) := by decide +kernel
theorem dX8_follow_58 : decode cX8_follow 58 = .ok (.ldc2_w 68, 3) := by decide +kernel
theorem dX8_follow_61 : decode cX8_follow 61 = .ok (.goto 28, 3) := by decide +kernel
theorem dX8_follow_64 : decode cX8_follow 64 = .ok (.iload 5, 2) := by decide +kernel
theorem dX8_follow_66 : decode cX8_follow 66 = .ok (.ifCond .eq 10, 3) := by decide +kernel
theorem dX8_follow_69 : decode cX8_follow 69 = .ok (.aload_n 0, 1) := by decide +kernel
theorem dX8_follow_70 : decode cX8_follow 70 = .ok (.getfield 212, 3) := by decide +kernel
theorem dX8_follow_73 : decode cX8_follow 73 = .ok (.goto 16, 3) := by decide +kernel
theorem dX8_follow_76 : decode cX8_follow 76 = .ok (.aload_n 0, 1) := by decide +kernel
theorem dX8_follow_77 : decode cX8_follow 77 = .ok (.getfield 209, 3) := by decide +kernel
theorem dX8_follow_80 : decode cX8_follow 80 = .ok (.aload_n 0, 1) := by decide +kernel
theorem dX8_follow_81 : decode cX8_follow 81 = .ok (.getfield 212, 3) := by decide +kernel
theorem dX8_follow_84 : decode cX8_follow 84 = .ok (.ldc2_w 68, 3) := by decide +kernel
theorem dX8_follow_87 : decode cX8_follow 87 = .ok (.lxor, 1) := by decide +kernel
theorem dX8_follow_88 : decode cX8_follow 88 = .ok (.land, 1) := by decide +kernel
theorem dX8_follow_89 : decode cX8_follow 89 = .ok (.lreturn, 1) := by decide +kernel
set_option maxRecDepth 20000 in
theorem ggX8_search_X8_allFollows : GoodIn wsX8_search wsX8_allFollows := goodIn_r _ [14, 9, 5, 6, 15, 16, 17, 18, 19, 20, 21, 13, 22, 23, 24, 25, 26, 27, 28, 29, 30, 31, 32, 33, 34, 35, 36, 37, 38, 39, 40, 41, 42, 43, 44, 45, 46, 47, 48, 49, 50, 51, 52, 53, 54, 55, 56, 57, 58, 59, 60, 61, 62, 63, 64, 65, 66, 67, 68, 69, 70, 71, 72, 73, 74, 75, 76, 77, 78, 79, 80, 81, 82, 83, 84, 85, 86, 87, 88, 89, 90, 91, 92, 93, 94, 95, 96, 97, 98, 99, 100] (by decide +kernel) (by decide +kernel)
set_option maxRecDepth 20000 in
theorem gX8_search_X8_allFollows : GoodIn wsX8_search (wsV RX8 223 RX8 yX8_allFollows wsX8_allFollows) := goodIn_app (goodIn_of _ (by decide +kernel)) ggX8_search_X8_allFollows
set_option maxRecDepth 20000 in
theorem ggX8_search_X8_bits : GoodIn wsX8_search wsX8_bits := goodIn_r _ [45] (by decide +kernel) (by decide +kernel)
set_option maxRecDepth 20000 in
theorem gX8_search_X8_bits : GoodIn wsX8_search (va_wsS RX8 84 yX8_bits wsX8_bits) := goodIn_app (goodIn_of _ (by decide +kernel)) ggX8_search_X8_bits
set_option maxRecDepth 20000 in
theorem ggX8_search_X8_lowest : GoodIn wsX8_search wsX8_lowest := goodIn_r _ [28] (by decide +kernel) (by decide +kernel)
set_option maxRecDepth 20000 in
theorem gX8_search_X8_lowest : GoodIn wsX8_search (va_wsS RX8 190 yX8_lowest wsX8_lowest) := goodIn_app (goodIn_of _ (by decide +kernel)) ggX8_search_X8_lowest
theorem dX8_search_0 : decode cX8_search 0 = .ok (.iconst 1, 1) := by decide +kernel
theorem dX8_search_1 : decode cX8_search 1 = .ok (.istore 7, 2) := by decide +kernel
theorem dX8_search_3 : decode cX8_search 3 = .ok (.iconst 0, 1) := by decide +kernel
theorem dX8_search_4 : decode cX8_search 4 = .ok (.istore 8, 2) := by decide +kernel
theorem dX8_search_6 : decode cX8_search 6 = .ok (.aload_n 0, 1) := by decide +kernel
theorem dX8_search_7 : decode cX8_search 7 = .ok (.getfield 62, 3) := by decide +kernel
theorem dX8_search_10 : decode cX8_search 10 = .ok (.iconst 0, 1) := by decide +kernel
theorem dX8_search_11 : decode cX8_search 11 = .ok (.lload_n 1, 1) := by decide +kernel
theorem dX8_search_12 : decode cX8_search 12 = .ok (.lastore, 1) := by decide +kernel
theorem dX8_search_13 : decode cX8_search 13 = .ok (.aload_n 0, 1) := by decide +kernel
theorem dX8_search_14 : decode cX8_search 14 = .ok (.getfield 65, 3) := by decide +kernel
theorem dX8_search_17 : decode cX8_search 17 = .ok (.iconst 0, 1) := by decide +kernel
theorem dX8_search_18 : decode cX8_search 18 = .ok (.lload_n 3, 1) := by decide +kernel
theorem dX8_search_19 : decode cX8_search 19 = .ok (.lastore, 1) := by decide +kernel
theorem dX8_search_20 : decode cX8_search 20 = .ok (.aload_n 0, 1) := by decide +kernel
theorem dX8_search_21 : decode cX8_search 21 = .ok (.lconst 0, 1) := by decide +kernel
theorem dX8_search_22 : decode cX8_search 22 = .ok (.putfield 226, 3) := by decide +kernel
theorem dX8_search_25 : decode cX8_search 25 = .ok (.iload 7, 2) := by decide +kernel
theorem dX8_search_27 : decode cX8_search 27 = .ok (.ifCond .le 188, 3) := by decide +kernel
theorem dX8_search_30 : decode cX8_search 30 = .ok (.iload 8, 2) := by decide +kernel
theorem dX8_search_32 : decode cX8_search 32 = .ok (.iload 5, 2) := by decide +kernel
theorem dX8_search_34 : decode cX8_search 34 = .ok (.if_icmp .ne 17, 3) := by decide +kernel
theorem dX8_search_37 : decode cX8_search 37 = .ok (.aload_n 0, 1) := by decide +kernel
theorem dX8_search_38 : decode cX8_search 38 = .ok (.dup, 1) := by decide +kernel
theorem dX8_search_39 : decode cX8_search 39 = .ok (.getfield 229, 3) := by decide +kernel
theorem dX8_search_42 : decode cX8_search 42 = .ok (.iload 8, 2) := by decide +kernel
theorem dX8_search_44 : decode cX8_search 44 = .ok (.iadd, 1) := by decide +kernel
theorem dX8_search_45 : decode cX8_search 45 = .ok (.putfield 229, 3) := by decide +kernel
theorem dX8_search_48 : decode cX8_search 48 = .ok (.bipush (-2), 2) := by decide +kernel
theorem dX8_search_50 : decode cX8_search 50 = .ok (.ireturn, 1) := by decide +kernel
theorem dX8_search_51 : decode cX8_search 51 = .ok (.iinc 8 1, 3) := by decide +kernel
theorem dX8_search_54 : decode cX8_search 54 = .ok (.iinc 7 (-1), 3) := by decide +kernel
theorem dX8_search_57 : decode cX8_search 57 = .ok (.aload_n 0, 1) := by decide +kernel
theorem dX8_search_58 : decode cX8_search 58 = .ok (.aload_n 0, 1) := by decide +kernel
theorem dX8_search_59 : decode cX8_search 59 = .ok (.getfield 62, 3) := by decide +kernel
theorem dX8_search_62 : decode cX8_search 62 = .ok (.iload 7, 2) := by decide +kernel
theorem dX8_search_64 : decode cX8_search 64 = .ok (.laload, 1) := by decide +kernel
theorem dX8_search_65 : decode cX8_search 65 = .ok (.putfield 209, 3) := by decide +kernel
theorem dX8_search_68 : decode cX8_search 68 = .ok (.aload_n 0, 1) := by decide +kernel
theorem dX8_search_69 : decode cX8_search 69 = .ok (.aload_n 0, 1) := by decide +kernel
theorem dX8_search_70 : decode cX8_search 70 = .ok (.getfield 65, 3) := by decide +kernel
theorem dX8_search_73 : decode cX8_search 73 = .ok (.iload 7, 2) := by decide +kernel
theorem dX8_search_75 : decode cX8_search 75 = .ok (.laload, 1) := by decide +kernel
theorem dX8_search_76 : decode cX8_search 76 = .ok (.putfield 212, 3) := by decide +kernel
theorem dX8_search_79 : decode cX8_search 79 = .ok (.aload_n 0, 1) := by decide +kernel
theorem dX8_search_80 : decode cX8_search 80 = .ok (.invokevirtual 223, 3) := by decide +kernel
theorem dX8_search_83 : decode cX8_search 83 = .ok (.ifCond .ne 6, 3) := by decide +kernel
theorem dX8_search_86 : decode cX8_search 86 = .ok (.goto (-61), 3) := by decide +kernel
theorem dX8_search_89 : decode cX8_search 89 = .ok (.aload_n 0, 1) := by decide +kernel
theorem dX8_search_90 : decode cX8_search 90 = .ok (.getfield 209, 3) := by decide +kernel
theorem dX8_search_93 : decode cX8_search 93 = .ok (.invokestatic 84, 3) := by decide +kernel
theorem dX8_search_96 : decode cX8_search 96 = .ok (.aload_n 0, 1) := by decide +kernel
theorem dX8_search_97 : decode cX8_search 97 = .ok (.getfield 77, 3) := by decide +kernel
theorem dX8_search_100 : decode cX8_search 100 = .ok (.if_icmp .ne 39, 3) := by decide +kernel
theorem dX8_search_103 : decode cX8_search 103 = .ok (.aload_n 0, 1) := by decide +kernel
theorem dX8_search_104 : decode cX8_search 104 = .ok (.dup, 1) := by decide +kernel
theorem dX8_search_105 : decode cX8_search 105 = .ok (.getfield 226, 3) := by decide +kernel
theorem dX8_search_108 : decode cX8_search 108 = .ok (.lconst 1, 1) := by decide +kernel
theorem dX8_search_109 : decode cX8_search 109 = .ok (.ladd, 1) := by decide +kernel
theorem dX8_search_110 : decode cX8_search 110 = .ok (.putfield 226, 3) := by decide +kernel
theorem dX8_search_113 : decode cX8_search 113 = .ok (.aload_n 0, 1) := by decide +kernel
theorem dX8_search_114 : decode cX8_search 114 = .ok (.aload_n 0, 1) := by decide +kernel
theorem dX8_search_115 : decode cX8_search 115 = .ok (.getfield 212, 3) := by decide +kernel
theorem dX8_search_118 : decode cX8_search 118 = .ok (.putfield 232, 3) := by decide +kernel
theorem dX8_search_121 : decode cX8_search 121 = .ok (.iload 6, 2) := by decide +kernel
theorem dX8_search_123 : decode cX8_search 123 = .ok (.ifCond .ne (-98), 3) := by decide +kernel
theorem dX8_search_126 : decode cX8_search 126 = .ok (.aload_n 0, 1) := by decide +kernel
theorem dX8_search_127 : decode cX8_search 127 = .ok (.dup, 1) := by decide +kernel
theorem dX8_search_128 : decode cX8_search 128 = .ok (.getfield 229, 3) := by decide +kernel
theorem dX8_search_131 : decode cX8_search 131 = .ok (.iload 8, 2) := by decide +kernel
theorem dX8_search_133 : decode cX8_search 133 = .ok (.iadd, 1) := by decide +kernel
theorem dX8_search_134 : decode cX8_search 134 = .ok (.putfield 229, 3) := by decide +kernel
theorem dX8_search_137 : decode cX8_search 137 = .ok (.iconst 1, 1) := by decide +kernel
theorem dX8_search_138 : decode cX8_search 138 = .ok (.ireturn, 1) := by decide +kernel
theorem dX8_search_139 : decode cX8_search 139 = .ok (.aload_n 0, 1) := by decide +kernel
theorem dX8_search_140 : decode cX8_search 140 = .ok (.getfield 209, 3) := by decide +kernel
theorem dX8_search_143 : decode cX8_search 143 = .ok (.ldc2_w 68, 3) := by decide +kernel
theorem dX8_search_146 : decode cX8_search 146 = .ok (.lxor, 1) := by decide +kernel
theorem dX8_search_147 : decode cX8_search 147 = .ok (.invokestatic 190, 3) := by decide +kernel
theorem dX8_search_150 : decode cX8_search 150 = .ok (.lstore 9, 2) := by decide +kernel
theorem dX8_search_152 : decode cX8_search 152 = .ok (.aload_n 0, 1) := by decide +kernel
theorem dX8_search_153 : decode cX8_search 153 = .ok (.getfield 62, 3) := by decide +kernel
theorem dX8_search_156 : decode cX8_search 156 = .ok (.iload 7, 2) := by decide +kernel
theorem dX8_search_158 : decode cX8_search 158 = .ok (.aload_n 0, 1) := by decide +kernel
theorem dX8_search_159 : decode cX8_search 159 = .ok (.getfield 209, 3) := by decide +kernel
theorem dX8_search_162 : decode cX8_search 162 = .ok (.lload 9, 2) := by decide +kernel
theorem dX8_search_164 : decode cX8_search 164 = .ok (.lor, 1) := by decide +kernel
theorem dX8_search_165 : decode cX8_search 165 = .ok (.lastore, 1) := by decide +kernel
theorem dX8_search_166 : decode cX8_search 166 = .ok (.aload_n 0, 1) := by decide +kernel
theorem dX8_search_167 : decode cX8_search 167 = .ok (.getfield 65, 3) := by decide +kernel
theorem dX8_search_170 : decode cX8_search 170 = .ok (.iload 7, 2) := by decide +kernel
theorem dX8_search_172 : decode cX8_search 172 = .ok (.aload_n 0, 1) := by decide +kernel
theorem dX8_search_173 : decode cX8_search 173 = .ok (.getfield 212, 3) := by decide +kernel
theorem dX8_search_176 : decode cX8_search 176 = .ok (.lload 9, 2) := by decide +kernel
theorem dX8_search_178 : decode cX8_search 178 = .ok (.lor, 1) := by decide +kernel
theorem dX8_search_179 : decode cX8_search 179 = .ok (.lastore, 1) := by decide +kernel
theorem dX8_search_180 : decode cX8_search 180 = .ok (.aload_n 0, 1) := by decide +kernel
theorem dX8_search_181 : decode cX8_search 181 = .ok (.getfield 62, 3) := by decide +kernel
theorem dX8_search_184 : decode cX8_search 184 = .ok (.iload 7, 2) := by decide +kernel
theorem dX8_search_186 : decode cX8_search 186 = .ok (.iconst 1, 1) := by decide +kernel
theorem dX8_search_187 : decode cX8_search 187 = .ok (.iadd, 1) := by decide +kernel
theorem dX8_search_188 : decode cX8_search 188 = .ok (.aload_n 0, 1) := by decide +kernel
theorem dX8_search_189 : decode cX8_search 189 = .ok (.getfield 209, 3) := by decide +kernel
theorem dX8_search_192 : decode cX8_search 192 = .ok (.lload 9, 2) := by decide +kernel
theorem dX8_search_194 : decode cX8_search 194 = .ok (.lor, 1) := by decide +kernel
theorem dX8_search_195 : decode cX8_search 195 = .ok (.lastore, 1) := by decide +kernel
theorem dX8_search_196 : decode cX8_search 196 = .ok (.aload_n 0, 1) := by decide +kernel
theorem dX8_search_197 : decode cX8_search 197 = .ok (.getfield 65, 3) := by decide +kernel
theorem dX8_search_200 : decode cX8_search 200 = .ok (.iload 7, 2) := by decide +kernel
theorem dX8_search_202 : decode cX8_search 202 = .ok (.iconst 1, 1) := by decide +kernel
theorem dX8_search_203 : decode cX8_search 203 = .ok (.iadd, 1) := by decide +kernel
theorem dX8_search_204 : decode cX8_search 204 = .ok (.aload_n 0, 1) := by decide +kernel
theorem dX8_search_205 : decode cX8_search 205 = .ok (.getfield 212, 3) := by decide +kernel
theorem dX8_search_208 : decode cX8_search 208 = .ok (.lastore, 1) := by decide +kernel
theorem dX8_search_209 : decode cX8_search 209 = .ok (.iinc 7 2, 3) := by decide +kernel
theorem dX8_search_212 : decode cX8_search 212 = .ok (.goto (-187), 3) := by decide +kernel
theorem dX8_search_215 : decode cX8_search 215 = .ok (.aload_n 0, 1) := by decide +kernel
theorem dX8_search_216 : decode cX8_search 216 = .ok (.dup, 1) := by decide +kernel
theorem dX8_search_217 : decode cX8_search 217 = .ok (.getfield 229, 3) := by decide +kernel
theorem dX8_search_220 : decode cX8_search 220 = .ok (.iload 8, 2) := by decide +kernel
theorem dX8_search_222 : decode cX8_search 222 = .ok (.iadd, 1) := by decide +kernel
theorem dX8_search_223 : decode cX8_search 223 = .ok (.putfield 229, 3) := by decide +kernel
theorem dX8_search_226 : decode cX8_search 226 = .ok (.iconst 0, 1) := by decide +kernel
theorem dX8_search_227 : decode cX8_search 227 = .ok (.ireturn, 1) := by decide +kernel
set_option maxRecDepth 20000 in
theorem ggX8_solve_X8_isIn : GoodIn wsX8_solve wsX8_isIn := goodIn_r _ [9] (by decide +kernel) (by decide +kernel)
set_option maxRecDepth 20000 in
theorem gX8_solve_X8_isIn : GoodIn wsX8_solve (va_wsS RX8 94 yX8_isIn wsX8_isIn) := goodIn_app (goodIn_of _ (by decide +kernel)) ggX8_solve_X8_isIn
set_option maxRecDepth 20000 in
theorem ggX8_solve_X8_may : GoodIn wsX8_solve wsX8_may := goodIn_r _ [13, 14, 72, 73, 74, 75, 76, 77, 78, 79, 80, 81, 82, 83, 84, 85, 86, 87, 88, 89, 90, 91, 92, 93, 94, 95, 96, 97, 98, 99, 100, 101, 102, 103, 104, 105, 106, 107, 108, 109, 110, 111, 112, 113, 114] (by decide +kernel) (by decide +kernel)
set_option maxRecDepth 20000 in
theorem gX8_solve_X8_may : GoodIn wsX8_solve (wsV RX8 101 RX8 yX8_may wsX8_may) := goodIn_app (goodIn_of _ (by decide +kernel)) ggX8_solve_X8_may
set_option maxRecDepth 20000 in
theorem ggX8_solve_X8_search : GoodIn wsX8_solve wsX8_search := goodIn_r _ [18, 19, 20, 21, 2, 22, 23, 24, 3, 4, 25, 26, 27, 8, 28, 29, 30, 31, 32, 33, 34, 35, 36, 37, 38, 39, 40, 41, 42, 43, 44, 45, 46, 47, 48, 49, 50, 51, 52, 53, 54, 55, 56, 57, 58, 59, 60, 61, 62, 63, 64, 65, 66, 67, 68, 69, 70, 71, 72, 73, 74, 75, 76, 77, 78, 79, 80, 81, 82, 83, 84, 85, 86, 87, 88, 89, 90, 91, 92, 93, 94, 95, 96, 97, 98, 99, 100, 101, 102, 103, 104, 105, 106, 107, 108, 109, 110, 111, 112, 113, 114] (by decide +kernel) (by decide +kernel)
set_option maxRecDepth 20000 in
theorem gX8_solve_X8_search : GoodIn wsX8_solve (wsV RX8 237 RX8 yX8_search wsX8_search) := goodIn_app (goodIn_of _ (by decide +kernel)) ggX8_solve_X8_search
theorem dX8_solve_0 : decode cX8_solve 0 = .ok (.aload_n 0, 1) := by decide +kernel
theorem dX8_solve_1 : decode cX8_solve 1 = .ok (.iload_n 1, 1) := by decide +kernel
theorem dX8_solve_2 : decode cX8_solve 2 = .ok (.i2l, 1) := by decide +kernel
theorem dX8_solve_3 : decode cX8_solve 3 = .ok (.lconst 1, 1) := by decide +kernel
theorem dX8_solve_4 : decode cX8_solve 4 = .ok (.ldc2_w 235, 3) := by decide +kernel
theorem dX8_solve_7 : decode cX8_solve 7 = .ok (.invokestatic 94, 3) := by decide +kernel
theorem dX8_solve_10 : decode cX8_solve 10 = .ok (.iconst 1, 1) := by decide +kernel
theorem dX8_solve_11 : decode cX8_solve 11 = .ok (.invokevirtual 101, 3) := by decide +kernel
theorem dX8_solve_14 : decode cX8_solve 14 = .ok (.ifCond .ne 5, 3) := by decide +kernel
theorem dX8_solve_17 : decode cX8_solve 17 = .ok (.iconst 0, 1) := by decide +kernel
theorem dX8_solve_18 : decode cX8_solve 18 = .ok (.ireturn, 1) := by decide +kernel
theorem dX8_solve_19 : decode cX8_solve 19 = .ok (.aload_n 0, 1) := by decide +kernel
theorem dX8_solve_20 : decode cX8_solve 20 = .ok (.iconst 0, 1) := by decide +kernel
theorem dX8_solve_21 : decode cX8_solve 21 = .ok (.putfield 229, 3) := by decide +kernel
theorem dX8_solve_24 : decode cX8_solve 24 = .ok (.aload_n 0, 1) := by decide +kernel
theorem dX8_solve_25 : decode cX8_solve 25 = .ok (.lconst 0, 1) := by decide +kernel
theorem dX8_solve_26 : decode cX8_solve 26 = .ok (.lconst 0, 1) := by decide +kernel
theorem dX8_solve_27 : decode cX8_solve 27 = .ok (.iload_n 1, 1) := by decide +kernel
theorem dX8_solve_28 : decode cX8_solve 28 = .ok (.iconst 0, 1) := by decide +kernel
theorem dX8_solve_29 : decode cX8_solve 29 = .ok (.invokevirtual 237, 3) := by decide +kernel
theorem dX8_solve_32 : decode cX8_solve 32 = .ok (.istore_n 2, 1) := by decide +kernel
theorem dX8_solve_33 : decode cX8_solve 33 = .ok (.aload_n 0, 1) := by decide +kernel
theorem dX8_solve_34 : decode cX8_solve 34 = .ok (.iload_n 2, 1) := by decide +kernel
theorem dX8_solve_35 : decode cX8_solve 35 = .ok (.iconst 1, 1) := by decide +kernel
theorem dX8_solve_36 : decode cX8_solve 36 = .ok (.if_icmp .ne 10, 3) := by decide +kernel
theorem dX8_solve_39 : decode cX8_solve 39 = .ok (.aload_n 0, 1) := by decide +kernel
theorem dX8_solve_40 : decode cX8_solve 40 = .ok (.getfield 232, 3) := by decide +kernel
theorem dX8_solve_43 : decode cX8_solve 43 = .ok (.goto 6, 3) := by decide +kernel
theorem dX8_solve_46 : decode cX8_solve 46 = .ok (.ldc2_w 68, 3) := by decide +kernel
theorem dX8_solve_49 : decode cX8_solve 49 = .ok (.putfield 70, 3) := by decide +kernel
theorem dX8_solve_52 : decode cX8_solve 52 = .ok (.iload_n 2, 1) := by decide +kernel
theorem dX8_solve_53 : decode cX8_solve 53 = .ok (.ireturn, 1) := by decide +kernel
theorem dX8_model_0 : decode cX8_model 0 = .ok (.aload_n 0, 1) := by decide +kernel
theorem dX8_model_1 : decode cX8_model 1 = .ok (.iconst 0, 1) := by decide +kernel
theorem dX8_model_2 : decode cX8_model 2 = .ok (.putfield 81, 3) := by decide +kernel
theorem dX8_model_5 : decode cX8_model 5 = .ok (.aload_n 0, 1) := by decide +kernel
theorem dX8_model_6 : decode cX8_model 6 = .ok (.getfield 70, 3) := by decide +kernel
theorem dX8_model_9 : decode cX8_model 9 = .ok (.lreturn, 1) := by decide +kernel
set_option maxRecDepth 20000 in
theorem ggX8_models_X8_isIn : GoodIn wsX8_models wsX8_isIn := goodIn_r _ [8] (by decide +kernel) (by decide +kernel)
set_option maxRecDepth 20000 in
theorem gX8_models_X8_isIn : GoodIn wsX8_models (va_wsS RX8 94 yX8_isIn wsX8_isIn) := goodIn_app (goodIn_of _ (by decide +kernel)) ggX8_models_X8_isIn
set_option maxRecDepth 20000 in
theorem ggX8_models_X8_may : GoodIn wsX8_models wsX8_may := goodIn_r _ [12, 13, 72, 73, 74, 75, 76, 77, 78, 79, 80, 81, 82, 83, 84, 85, 86, 87, 88, 89, 90, 91, 92, 93, 94, 95, 96, 97, 98, 99, 100, 101, 102, 103, 104, 105, 106, 107, 108, 109, 110, 111, 112, 113, 114] (by decide +kernel) (by decide +kernel)
set_option maxRecDepth 20000 in
theorem gX8_models_X8_may : GoodIn wsX8_models (wsV RX8 101 RX8 yX8_may wsX8_may) := goodIn_app (goodIn_of _ (by decide +kernel)) ggX8_models_X8_may
set_option maxRecDepth 20000 in
theorem ggX8_models_X8_search : GoodIn wsX8_models wsX8_search := goodIn_r _ [17, 18, 19, 4, 2, 20, 21, 22, 23, 24, 25, 26, 27, 7, 28, 29, 30, 31, 32, 33, 34, 35, 36, 37, 38, 39, 40, 41, 42, 43, 44, 45, 46, 47, 48, 49, 50, 51, 52, 53, 54, 55, 56, 57, 58, 59, 60, 61, 62, 63, 64, 65, 66, 67, 68, 69, 70, 71, 72, 73, 74, 75, 76, 77, 78, 79, 80, 81, 82, 83, 84, 85, 86, 87, 88, 89, 90, 91, 92, 93, 94, 95, 96, 97, 98, 99, 100, 101, 102, 103, 104, 105, 106, 107, 108, 109, 110, 111, 112, 113, 114] (by decide +kernel) (by decide +kernel)
set_option maxRecDepth 20000 in
theorem gX8_models_X8_search : GoodIn wsX8_models (wsV RX8 237 RX8 yX8_search wsX8_search) := goodIn_app (goodIn_of _ (by decide +kernel)) ggX8_models_X8_search
theorem dX8_models_0 : decode cX8_models 0 = .ok (.aload_n 0, 1) := by decide +kernel
theorem dX8_models_1 : decode cX8_models 1 = .ok (.iload_n 1, 1) := by decide +kernel
theorem dX8_models_2 : decode cX8_models 2 = .ok (.i2l, 1) := by decide +kernel
theorem dX8_models_3 : decode cX8_models 3 = .ok (.lconst 1, 1) := by decide +kernel
theorem dX8_models_4 : decode cX8_models 4 = .ok (.ldc2_w 235, 3) := by decide +kernel
theorem dX8_models_7 : decode cX8_models 7 = .ok (.invokestatic 94, 3) := by decide +kernel
theorem dX8_models_10 : decode cX8_models 10 = .ok (.iconst 1, 1) := by decide +kernel
