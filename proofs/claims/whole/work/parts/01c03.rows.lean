set_option maxRecDepth 20000 in
theorem gX7_models_X3_run : GoodIn wsX7_models (wsV RX7 241 RX3 yX3_run wsX3_run) := goodIn_app (goodIn_of _ (by decide +kernel)) ggX7_models_X3_run
theorem dX7_models_0 : decode cX7_models 0 = .ok (.aload_n 0, 1) := by decide +kernel
theorem dX7_models_1 : decode cX7_models 1 = .ok (.iload_n 1, 1) := by decide +kernel
theorem dX7_models_2 : decode cX7_models 2 = .ok (.invokevirtual 234, 3) := by decide +kernel
theorem dX7_models_5 : decode cX7_models 5 = .ok (.ifCond .ne 13, 3) := by decide +kernel
theorem dX7_models_8 : decode cX7_models 8 = .ok (.new 86, 3) := by decide +kernel
theorem dX7_models_11 : decode cX7_models 11 = .ok (.dup, 1) := by decide +kernel
theorem dX7_models_12 : decode cX7_models 12 = .ok (.ldc 238, 2) := by decide +kernel
theorem dX7_models_14 : decode cX7_models 14 = .ok (.invokespecial 90, 3) := by decide +kernel
theorem dX7_models_17 : decode cX7_models 17 = .ok (.athrow, 1) := by decide +kernel
theorem dX7_models_18 : decode cX7_models 18 = .ok (.aload_n 0, 1) := by decide +kernel
theorem dX7_models_19 : decode cX7_models 19 = .ok (.invokevirtual 179, 3) := by decide +kernel
theorem dX7_models_22 : decode cX7_models 22 = .ok (.aload_n 0, 1) := by decide +kernel
theorem dX7_models_23 : decode cX7_models 23 = .ok (.getfield 73, 3) := by decide +kernel
theorem dX7_models_26 : decode cX7_models 26 = .ok (.aload_n 0, 1) := by decide +kernel
theorem dX7_models_27 : decode cX7_models 27 = .ok (.getfield 45, 3) := by decide +kernel
theorem dX7_models_30 : decode cX7_models 30 = .ok (.invokevirtual 240, 3) := by decide +kernel
theorem dX7_models_33 : decode cX7_models 33 = .ok (.aload_n 0, 1) := by decide +kernel
theorem dX7_models_34 : decode cX7_models 34 = .ok (.getfield 73, 3) := by decide +kernel
theorem dX7_models_37 : decode cX7_models 37 = .ok (.aload_n 0, 1) := by decide +kernel
theorem dX7_models_38 : decode cX7_models 38 = .ok (.getfield 29, 3) := by decide +kernel
theorem dX7_models_41 : decode cX7_models 41 = .ok (.iload_n 1, 1) := by decide +kernel
theorem dX7_models_42 : decode cX7_models 42 = .ok (.iconst 0, 1) := by decide +kernel
theorem dX7_models_43 : decode cX7_models 43 = .ok (.invokevirtual 241, 3) := by decide +kernel
theorem dX7_models_46 : decode cX7_models 46 = .ok (.aload_n 0, 1) := by decide +kernel
theorem dX7_models_47 : decode cX7_models 47 = .ok (.aload_n 0, 1) := by decide +kernel
theorem dX7_models_48 : decode cX7_models 48 = .ok (.getfield 73, 3) := by decide +kernel
theorem dX7_models_51 : decode cX7_models 51 = .ok (.getfield 245, 3) := by decide +kernel
theorem dX7_models_54 : decode cX7_models 54 = .ok (.putfield 248, 3) := by decide +kernel
theorem dX7_models_57 : decode cX7_models 57 = .ok (.aload_n 0, 1) := by decide +kernel
theorem dX7_models_58 : decode cX7_models 58 = .ok (.getfield 73, 3) := by decide +kernel
theorem dX7_models_61 : decode cX7_models 61 = .ok (.getfield 257, 3) := by decide +kernel
theorem dX7_models_64 : decode cX7_models 64 = .ok (.ifCond .eq 9, 3) := by decide +kernel
theorem dX7_models_67 : decode cX7_models 67 = .ok (.ldc2_w 260, 3) := by decide +kernel
theorem dX7_models_70 : decode cX7_models 70 = .ok (.goto 11, 3) := by decide +kernel
theorem dX7_models_73 : decode cX7_models 73 = .ok (.aload_n 0, 1) := by decide +kernel
theorem dX7_models_74 : decode cX7_models 74 = .ok (.getfield 73, 3) := by decide +kernel
theorem dX7_models_77 : decode cX7_models 77 = .ok (.getfield 251, 3) := by decide +kernel
theorem dX7_models_80 : decode cX7_models 80 = .ok (.i2l, 1) := by decide +kernel
theorem dX7_models_81 : decode cX7_models 81 = .ok (.lreturn, 1) := by decide +kernel
theorem dX7_nodes_0 : decode cX7_nodes 0 = .ok (.aload_n 0, 1) := by decide +kernel
theorem dX7_nodes_1 : decode cX7_nodes 1 = .ok (.getfield 248, 3) := by decide +kernel
theorem dX7_nodes_4 : decode cX7_nodes 4 = .ok (.ireturn, 1) := by decide +kernel
set_option maxRecDepth 20000 in
theorem ggX7_must_X7_areNodes : GoodIn wsX7_must wsX7_areNodes := goodIn_r _ [18] (by decide +kernel) (by decide +kernel)
set_option maxRecDepth 20000 in
theorem gX7_must_X7_areNodes : GoodIn wsX7_must (wsV RX7 234 RX7 yX7_areNodes wsX7_areNodes) := goodIn_app (goodIn_of _ (by decide +kernel)) ggX7_must_X7_areNodes
set_option maxRecDepth 20000 in
theorem ggX7_must_X7_freshenRows : GoodIn wsX7_must wsX7_freshenRows := goodIn_r _ [22, 23, 7, 9, 24, 25, 26, 27, 28, 29, 30, 31, 32, 33, 34, 35, 36, 37, 38, 39, 40, 41, 42, 43, 44, 45, 46, 47, 48, 49, 50, 51, 52, 53, 153, 154, 155, 156, 157, 158, 159, 160, 161, 162, 163, 164, 165, 166, 177, 178, 179, 180, 181, 182, 183, 184, 185, 186, 187] (by decide +kernel) (by decide +kernel)
set_option maxRecDepth 20000 in
theorem gX7_must_X7_freshenRows : GoodIn wsX7_must (wsV RX7 179 RX7 yX7_freshenRows wsX7_freshenRows) := goodIn_app (goodIn_of _ (by decide +kernel)) ggX7_must_X7_freshenRows
set_option maxRecDepth 20000 in
theorem ggX7_must_X3_begin : GoodIn wsX7_must wsX3_begin := goodIn_r _ [58, 59, 60, 61, 62, 63, 64, 65, 66, 67, 68, 69, 70, 71, 72, 73, 74, 27, 75, 29, 41, 76, 77, 78, 79, 80, 81, 82, 83, 30, 167, 168, 169, 170, 171, 172, 173, 174, 175, 176, 188, 189, 190, 191, 177, 178, 179] (by decide +kernel) (by decide +kernel)
set_option maxRecDepth 20000 in
theorem gX7_must_X3_begin : GoodIn wsX7_must (wsV RX7 240 RX3 yX3_begin wsX3_begin) := goodIn_app (goodIn_of _ (by decide +kernel)) ggX7_must_X3_begin
set_option maxRecDepth 20000 in
theorem ggX7_must_X5_take : GoodIn wsX7_must wsX5_take := goodIn_r _ [87, 70, 71, 69, 88, 89, 90, 27, 91, 41, 92, 29, 42, 43, 44, 45, 46, 30, 47, 48, 49, 50, 51, 52, 53, 188, 189, 190, 191, 177, 178, 179] (by decide +kernel) (by decide +kernel)
set_option maxRecDepth 20000 in
theorem gX7_must_X5_take : GoodIn wsX7_must (wsV RX7 267 RX5 yX5_take wsX5_take) := goodIn_app (goodIn_of _ (by decide +kernel)) ggX7_must_X5_take
set_option maxRecDepth 20000 in
theorem ggX7_must_X3_run : GoodIn wsX7_must wsX3_run := goodIn_r _ [96, 61, 59, 62, 97, 98, 63, 99, 100, 101, 67, 102, 69, 103, 70, 104, 105, 106, 107, 108, 109, 110, 111, 112, 113, 114, 115, 85, 86, 87, 71, 88, 89, 90, 27, 91, 41, 92, 29, 42, 43, 44, 45, 46, 30, 47, 48, 49, 50, 51, 52, 53, 116, 117, 118, 119, 120, 121, 122, 123, 124, 17, 125, 126, 127, 128, 129, 130, 131, 132, 133, 134, 135, 136, 137, 57, 138, 60, 139, 140, 141, 142, 81, 82, 83, 143, 144, 145, 146, 147, 148, 149, 150, 151, 152, 167, 168, 169, 170, 171, 172, 173, 174, 175, 176, 188, 189, 190, 191, 177, 178, 179, 180, 181, 182, 183, 184, 185, 186, 187] (by decide +kernel) (by decide +kernel)
set_option maxRecDepth 20000 in
theorem gX7_must_X3_run : GoodIn wsX7_must (wsV RX7 241 RX3 yX3_run wsX3_run) := goodIn_app (goodIn_of _ (by decide +kernel)) ggX7_must_X3_run
theorem dX7_must_0 : decode cX7_must 0 = .ok (.iload_n 1, 1) := by decide +kernel
theorem dX7_must_1 : decode cX7_must 1 = .ok (.iconst 1, 1) := by decide +kernel
theorem dX7_must_2 : decode cX7_must 2 = .ok (.if_icmp .lt 11, 3) := by decide +kernel
theorem dX7_must_5 : decode cX7_must 5 = .ok (.iload_n 1, 1) := by decide +kernel
theorem dX7_must_6 : decode cX7_must 6 = .ok (.aload_n 0, 1) := by decide +kernel
theorem dX7_must_7 : decode cX7_must 7 = .ok (.getfield 18, 3) := by decide +kernel
theorem dX7_must_10 : decode cX7_must 10 = .ok (.if_icmp .le 14, 3) := by decide +kernel
theorem dX7_must_13 : decode cX7_must 13 = .ok (.new 162, 3) := by decide +kernel
theorem dX7_must_16 : decode cX7_must 16 = .ok (.dup, 1) := by decide +kernel
theorem dX7_must_17 : decode cX7_must 17 = .ok (.ldc_w 262, 3) := by decide +kernel
theorem dX7_must_20 : decode cX7_must 20 = .ok (.invokespecial 166, 3) := by decide +kernel
theorem dX7_must_23 : decode cX7_must 23 = .ok (.athrow, 1) := by decide +kernel
theorem dX7_must_24 : decode cX7_must 24 = .ok (.aload_n 0, 1) := by decide +kernel
theorem dX7_must_25 : decode cX7_must 25 = .ok (.iload_n 2, 1) := by decide +kernel
theorem dX7_must_26 : decode cX7_must 26 = .ok (.invokevirtual 234, 3) := by decide +kernel
theorem dX7_must_29 : decode cX7_must 29 = .ok (.ifCond .ne 13, 3) := by decide +kernel
theorem dX7_must_32 : decode cX7_must 32 = .ok (.new 86, 3) := by decide +kernel
theorem dX7_must_35 : decode cX7_must 35 = .ok (.dup, 1) := by decide +kernel
theorem dX7_must_36 : decode cX7_must 36 = .ok (.ldc 238, 2) := by decide +kernel
theorem dX7_must_38 : decode cX7_must 38 = .ok (.invokespecial 90, 3) := by decide +kernel
theorem dX7_must_41 : decode cX7_must 41 = .ok (.athrow, 1) := by decide +kernel
theorem dX7_must_42 : decode cX7_must 42 = .ok (.aload_n 0, 1) := by decide +kernel
theorem dX7_must_43 : decode cX7_must 43 = .ok (.invokevirtual 179, 3) := by decide +kernel
theorem dX7_must_46 : decode cX7_must 46 = .ok (.aload_n 0, 1) := by decide +kernel
theorem dX7_must_47 : decode cX7_must 47 = .ok (.getfield 73, 3) := by decide +kernel
theorem dX7_must_50 : decode cX7_must 50 = .ok (.aload_n 0, 1) := by decide +kernel
theorem dX7_must_51 : decode cX7_must 51 = .ok (.getfield 45, 3) := by decide +kernel
theorem dX7_must_54 : decode cX7_must 54 = .ok (.invokevirtual 240, 3) := by decide +kernel
theorem dX7_must_57 : decode cX7_must 57 = .ok (.aload_n 0, 1) := by decide +kernel
theorem dX7_must_58 : decode cX7_must 58 = .ok (.getfield 73, 3) := by decide +kernel
theorem dX7_must_61 : decode cX7_must 61 = .ok (.getfield 264, 3) := by decide +kernel
theorem dX7_must_64 : decode cX7_must 64 = .ok (.iload_n 1, 1) := by decide +kernel
theorem dX7_must_65 : decode cX7_must 65 = .ok (.iconst 1, 1) := by decide +kernel
theorem dX7_must_66 : decode cX7_must 66 = .ok (.isub, 1) := by decide +kernel
theorem dX7_must_67 : decode cX7_must 67 = .ok (.iconst 0, 1) := by decide +kernel
theorem dX7_must_68 : decode cX7_must 68 = .ok (.invokevirtual 267, 3) := by decide +kernel
theorem dX7_must_71 : decode cX7_must 71 = .ok (.aload_n 0, 1) := by decide +kernel
theorem dX7_must_72 : decode cX7_must 72 = .ok (.getfield 73, 3) := by decide +kernel
theorem dX7_must_75 : decode cX7_must 75 = .ok (.aload_n 0, 1) := by decide +kernel
theorem dX7_must_76 : decode cX7_must 76 = .ok (.getfield 29, 3) := by decide +kernel
theorem dX7_must_79 : decode cX7_must 79 = .ok (.iload_n 2, 1) := by decide +kernel
theorem dX7_must_80 : decode cX7_must 80 = .ok (.iconst 1, 1) := by decide +kernel
theorem dX7_must_81 : decode cX7_must 81 = .ok (.invokevirtual 241, 3) := by decide +kernel
theorem dX7_must_84 : decode cX7_must 84 = .ok (.aload_n 0, 1) := by decide +kernel
theorem dX7_must_85 : decode cX7_must 85 = .ok (.aload_n 0, 1) := by decide +kernel
theorem dX7_must_86 : decode cX7_must 86 = .ok (.getfield 73, 3) := by decide +kernel
theorem dX7_must_89 : decode cX7_must 89 = .ok (.getfield 245, 3) := by decide +kernel
theorem dX7_must_92 : decode cX7_must 92 = .ok (.putfield 248, 3) := by decide +kernel
theorem dX7_must_95 : decode cX7_must 95 = .ok (.aload_n 0, 1) := by decide +kernel
theorem dX7_must_96 : decode cX7_must 96 = .ok (.getfield 73, 3) := by decide +kernel
theorem dX7_must_99 : decode cX7_must 99 = .ok (.getfield 257, 3) := by decide +kernel
theorem dX7_must_102 : decode cX7_must 102 = .ok (.ifCond .eq 6, 3) := by decide +kernel
theorem dX7_must_105 : decode cX7_must 105 = .ok (.bipush (-2), 2) := by decide +kernel
theorem dX7_must_107 : decode cX7_must 107 = .ok (.ireturn, 1) := by decide +kernel
theorem dX7_must_108 : decode cX7_must 108 = .ok (.aload_n 0, 1) := by decide +kernel
theorem dX7_must_109 : decode cX7_must 109 = .ok (.getfield 73, 3) := by decide +kernel
theorem dX7_must_112 : decode cX7_must 112 = .ok (.getfield 251, 3) := by decide +kernel
theorem dX7_must_115 : decode cX7_must 115 = .ok (.istore_n 3, 1) := by decide +kernel
theorem dX7_must_116 : decode cX7_must 116 = .ok (.aload_n 0, 1) := by decide +kernel
theorem dX7_must_117 : decode cX7_must 117 = .ok (.getfield 73, 3) := by decide +kernel
theorem dX7_must_120 : decode cX7_must 120 = .ok (.aload_n 0, 1) := by decide +kernel
theorem dX7_must_121 : decode cX7_must 121 = .ok (.getfield 45, 3) := by decide +kernel
theorem dX7_must_124 : decode cX7_must 124 = .ok (.invokevirtual 240, 3) := by decide +kernel
theorem dX7_must_127 : decode cX7_must 127 = .ok (.aload_n 0, 1) := by decide +kernel
theorem dX7_must_128 : decode cX7_must 128 = .ok (.getfield 73, 3) := by decide +kernel
theorem dX7_must_131 : decode cX7_must 131 = .ok (.getfield 264, 3) := by decide +kernel
theorem dX7_must_134 : decode cX7_must 134 = .ok (.iload_n 1, 1) := by decide +kernel
theorem dX7_must_135 : decode cX7_must 135 = .ok (.iconst 1, 1) := by decide +kernel
theorem dX7_must_136 : decode cX7_must 136 = .ok (.isub, 1) := by decide +kernel
theorem dX7_must_137 : decode cX7_must 137 = .ok (.iconst 1, 1) := by decide +kernel
theorem dX7_must_138 : decode cX7_must 138 = .ok (.invokevirtual 267, 3) := by decide +kernel
theorem dX7_must_141 : decode cX7_must 141 = .ok (.aload_n 0, 1) := by decide +kernel
theorem dX7_must_142 : decode cX7_must 142 = .ok (.getfield 73, 3) := by decide +kernel
theorem dX7_must_145 : decode cX7_must 145 = .ok (.aload_n 0, 1) := by decide +kernel
theorem dX7_must_146 : decode cX7_must 146 = .ok (.getfield 29, 3) := by decide +kernel
theorem dX7_must_149 : decode cX7_must 149 = .ok (.iload_n 2, 1) := by decide +kernel
theorem dX7_must_150 : decode cX7_must 150 = .ok (.iconst 1, 1) := by decide +kernel
theorem dX7_must_151 : decode cX7_must 151 = .ok (.invokevirtual 241, 3) := by decide +kernel
theorem dX7_must_154 : decode cX7_must 154 = .ok (.aload_n 0, 1) := by decide +kernel
theorem dX7_must_155 : decode cX7_must 155 = .ok (.dup, 1) := by decide +kernel
theorem dX7_must_156 : decode cX7_must 156 = .ok (.getfield 248, 3) := by decide +kernel
theorem dX7_must_159 : decode cX7_must 159 = .ok (.aload_n 0, 1) := by decide +kernel
theorem dX7_must_160 : decode cX7_must 160 = .ok (.getfield 73, 3) := by decide +kernel
theorem dX7_must_163 : decode cX7_must 163 = .ok (.getfield 245, 3) := by decide +kernel
theorem dX7_must_166 : decode cX7_must 166 = .ok (.iadd, 1) := by decide +kernel
theorem dX7_must_167 : decode cX7_must 167 = .ok (.putfield 248, 3) := by decide +kernel
theorem dX7_must_170 : decode cX7_must 170 = .ok (.aload_n 0, 1) := by decide +kernel
theorem dX7_must_171 : decode cX7_must 171 = .ok (.getfield 73, 3) := by decide +kernel
theorem dX7_must_174 : decode cX7_must 174 = .ok (.getfield 257, 3) := by decide +kernel
theorem dX7_must_177 : decode cX7_must 177 = .ok (.ifCond .eq 6, 3) := by decide +kernel
theorem dX7_must_180 : decode cX7_must 180 = .ok (.bipush (-2), 2) := by decide +kernel
theorem dX7_must_182 : decode cX7_must 182 = .ok (.ireturn, 1) := by decide +kernel
theorem dX7_must_183 : decode cX7_must 183 = .ok (.aload_n 0, 1) := by decide +kernel
theorem dX7_must_184 : decode cX7_must 184 = .ok (.getfield 73, 3) := by decide +kernel
theorem dX7_must_187 : decode cX7_must 187 = .ok (.getfield 251, 3) := by decide +kernel
theorem dX7_must_190 : decode cX7_must 190 = .ok (.iload_n 3, 1) := by decide +kernel
theorem dX7_must_191 : decode cX7_must 191 = .ok (.if_icmp .ne 7, 3) := by decide +kernel
theorem dX7_must_194 : decode cX7_must 194 = .ok (.iconst (-1), 1) := by decide +kernel
theorem dX7_must_195 : decode cX7_must 195 = .ok (.goto 10, 3) := by decide +kernel
theorem dX7_must_198 : decode cX7_must 198 = .ok (.aload_n 0, 1) := by decide +kernel
theorem dX7_must_199 : decode cX7_must 199 = .ok (.getfield 73, 3) := by decide +kernel
theorem dX7_must_202 : decode cX7_must 202 = .ok (.getfield 251, 3) := by decide +kernel
theorem dX7_must_205 : decode cX7_must 205 = .ok (.ireturn, 1) := by decide +kernel
set_option maxRecDepth 20000 in
theorem ggX7_gates_X7_freshenGates : GoodIn wsX7_gates wsX7_freshenGates := goodIn_r _ [7, 8, 1, 9, 10, 11, 12, 13, 14, 15, 16, 17, 18, 19, 20, 21, 22, 23, 24, 25, 26, 27, 28, 29, 30, 31, 32, 33, 34, 35, 36, 37, 38, 39, 40, 41, 42, 43, 44, 45, 46, 47, 48, 49, 50, 51, 52, 53, 54, 55, 56, 57, 58, 59, 60, 61, 62, 63, 64, 65, 66, 67] (by decide +kernel) (by decide +kernel)
set_option maxRecDepth 20000 in
theorem gX7_gates_X7_freshenGates : GoodIn wsX7_gates (wsV RX7 271 RX7 yX7_freshenGates wsX7_freshenGates) := goodIn_app (goodIn_of _ (by decide +kernel)) ggX7_gates_X7_freshenGates
theorem dX7_gates_0 : decode cX7_gates 0 = .ok (.aload_n 0, 1) := by decide +kernel
theorem dX7_gates_1 : decode cX7_gates 1 = .ok (.invokevirtual 271, 3) := by decide +kernel
theorem dX7_gates_4 : decode cX7_gates 4 = .ok (.aload_n 0, 1) := by decide +kernel
theorem dX7_gates_5 : decode cX7_gates 5 = .ok (.getfield 59, 3) := by decide +kernel
theorem dX7_gates_8 : decode cX7_gates 8 = .ok (.getfield 274, 3) := by decide +kernel
theorem dX7_gates_11 : decode cX7_gates 11 = .ok (.ireturn, 1) := by decide +kernel
set_option maxRecDepth 20000 in
theorem ggX7_gate_X7_freshenGates : GoodIn wsX7_gate wsX7_freshenGates := goodIn_r _ [10, 11, 3, 12, 13, 14, 15, 16, 17, 18, 19, 20, 21, 22, 23, 24, 25, 26, 27, 28, 29, 30, 31, 32, 33, 34, 35, 36, 37, 38, 39, 40, 41, 42, 43, 44, 45, 46, 47, 48, 49, 50, 51, 52, 53, 54, 55, 56, 57, 58, 59, 60, 61, 62, 63, 64, 65, 66, 67, 68, 69, 70] (by decide +kernel) (by decide +kernel)
set_option maxRecDepth 20000 in
theorem gX7_gate_X7_freshenGates : GoodIn wsX7_gate (wsV RX7 271 RX7 yX7_freshenGates wsX7_freshenGates) := goodIn_app (goodIn_of _ (by decide +kernel)) ggX7_gate_X7_freshenGates
theorem dX7_gate_0 : decode cX7_gate 0 = .ok (.aload_n 0, 1) := by decide +kernel
theorem dX7_gate_1 : decode cX7_gate 1 = .ok (.invokevirtual 271, 3) := by decide +kernel
theorem dX7_gate_4 : decode cX7_gate 4 = .ok (.iload_n 1, 1) := by decide +kernel
theorem dX7_gate_5 : decode cX7_gate 5 = .ok (.ifCond .lt 14, 3) := by decide +kernel
theorem dX7_gate_8 : decode cX7_gate 8 = .ok (.iload_n 1, 1) := by decide +kernel
theorem dX7_gate_9 : decode cX7_gate 9 = .ok (.aload_n 0, 1) := by decide +kernel
theorem dX7_gate_10 : decode cX7_gate 10 = .ok (.getfield 59, 3) := by decide +kernel
theorem dX7_gate_13 : decode cX7_gate 13 = .ok (.getfield 274, 3) := by decide +kernel
theorem dX7_gate_16 : decode cX7_gate 16 = .ok (.if_icmp .lt 14, 3) := by decide +kernel
theorem dX7_gate_19 : decode cX7_gate 19 = .ok (.new 162, 3) := by decide +kernel
theorem dX7_gate_22 : decode cX7_gate 22 = .ok (.dup, 1) := by decide +kernel
theorem dX7_gate_23 : decode cX7_gate 23 = .ok (.ldc_w 276, 3) := by decide +kernel
theorem dX7_gate_26 : decode cX7_gate 26 = .ok (.invokespecial 166, 3) := by decide +kernel
theorem dX7_gate_29 : decode cX7_gate 29 = .ok (.athrow, 1) := by decide +kernel
theorem dX7_gate_30 : decode cX7_gate 30 = .ok (.aload_n 0, 1) := by decide +kernel
theorem dX7_gate_31 : decode cX7_gate 31 = .ok (.getfield 59, 3) := by decide +kernel
theorem dX7_gate_34 : decode cX7_gate 34 = .ok (.getfield 278, 3) := by decide +kernel
theorem dX7_gate_37 : decode cX7_gate 37 = .ok (.iload_n 1, 1) := by decide +kernel
theorem dX7_gate_38 : decode cX7_gate 38 = .ok (.laload, 1) := by decide +kernel
theorem dX7_gate_39 : decode cX7_gate 39 = .ok (.lreturn, 1) := by decide +kernel
theorem dX7_count_0 : decode cX7_count 0 = .ok (.iload_n 1, 1) := by decide +kernel
theorem dX7_count_1 : decode cX7_count 1 = .ok (.tableswitch 72 0 4 #[35, 40, 48, 56, 64], 35) := by decide +kernel
theorem dX7_count_36 : decode cX7_count 36 = .ok (.aload_n 0, 1) := by decide +kernel
theorem dX7_count_37 : decode cX7_count 37 = .ok (.getfield 18, 3) := by decide +kernel
theorem dX7_count_40 : decode cX7_count 40 = .ok (.ireturn, 1) := by decide +kernel
theorem dX7_count_41 : decode cX7_count 41 = .ok (.aload_n 0, 1) := by decide +kernel
theorem dX7_count_42 : decode cX7_count 42 = .ok (.getfield 29, 3) := by decide +kernel
theorem dX7_count_45 : decode cX7_count 45 = .ok (.getfield 93, 3) := by decide +kernel
theorem dX7_count_48 : decode cX7_count 48 = .ok (.ireturn, 1) := by decide +kernel
theorem dX7_count_49 : decode cX7_count 49 = .ok (.aload_n 0, 1) := by decide +kernel
theorem dX7_count_50 : decode cX7_count 50 = .ok (.getfield 29, 3) := by decide +kernel
theorem dX7_count_53 : decode cX7_count 53 = .ok (.getfield 115, 3) := by decide +kernel
theorem dX7_count_56 : decode cX7_count 56 = .ok (.ireturn, 1) := by decide +kernel
theorem dX7_count_57 : decode cX7_count 57 = .ok (.aload_n 0, 1) := by decide +kernel
theorem dX7_count_58 : decode cX7_count 58 = .ok (.getfield 29, 3) := by decide +kernel
theorem dX7_count_61 : decode cX7_count 61 = .ok (.getfield 147, 3) := by decide +kernel
theorem dX7_count_64 : decode cX7_count 64 = .ok (.ireturn, 1) := by decide +kernel
theorem dX7_count_65 : decode cX7_count 65 = .ok (.aload_n 0, 1) := by decide +kernel
theorem dX7_count_66 : decode cX7_count 66 = .ok (.getfield 36, 3) := by decide +kernel
theorem dX7_count_69 : decode cX7_count 69 = .ok (.getfield 125, 3) := by decide +kernel
theorem dX7_count_72 : decode cX7_count 72 = .ok (.ireturn, 1) := by decide +kernel
theorem dX7_count_73 : decode cX7_count 73 = .ok (.new 86, 3) := by decide +kernel
theorem dX7_count_76 : decode cX7_count 76 = .ok (.dup, 1) := by decide +kernel
theorem dX7_count_77 : decode cX7_count 77 = .ok (.ldc_w 281, 3) := by decide +kernel
theorem dX7_count_80 : decode cX7_count 80 = .ok (.invokespecial 90, 3) := by decide +kernel
theorem dX7_count_83 : decode cX7_count 83 = .ok (.athrow, 1) := by decide +kernel
set_option maxRecDepth 20000 in
theorem ggX7_clear_X4_cutTo : GoodIn wsX7_clear wsX4_cutTo := goodIn_r _ [9, 10, 11, 33, 34, 35, 36, 37, 38, 39, 40] (by decide +kernel) (by decide +kernel)
set_option maxRecDepth 20000 in
theorem gX7_clear_X4_cutTo : GoodIn wsX7_clear (wsV RX7 137 RX4 yX4_cutTo wsX4_cutTo) := goodIn_app (goodIn_of _ (by decide +kernel)) ggX7_clear_X4_cutTo
set_option maxRecDepth 20000 in
theorem ggX7_clear_X7_forget : GoodIn wsX7_clear wsX7_forget := goodIn_r _ [16, 17, 18, 19, 20, 21, 22, 23, 24, 25, 26, 27, 28, 29, 30, 31, 32] (by decide +kernel) (by decide +kernel)
set_option maxRecDepth 20000 in
theorem gX7_clear_X7_forget : GoodIn wsX7_clear (wsV RX7 101 RX7 yX7_forget wsX7_forget) := goodIn_app (goodIn_of _ (by decide +kernel)) ggX7_clear_X7_forget
theorem dX7_clear_0 : decode cX7_clear 0 = .ok (.aload_n 0, 1) := by decide +kernel
theorem dX7_clear_1 : decode cX7_clear 1 = .ok (.getfield 29, 3) := by decide +kernel
theorem dX7_clear_4 : decode cX7_clear 4 = .ok (.iconst 0, 1) := by decide +kernel
theorem dX7_clear_5 : decode cX7_clear 5 = .ok (.iconst 0, 1) := by decide +kernel
theorem dX7_clear_6 : decode cX7_clear 6 = .ok (.invokevirtual 137, 3) := by decide +kernel
theorem dX7_clear_9 : decode cX7_clear 9 = .ok (.aload_n 0, 1) := by decide +kernel
theorem dX7_clear_10 : decode cX7_clear 10 = .ok (.getfield 29, 3) := by decide +kernel
theorem dX7_clear_13 : decode cX7_clear 13 = .ok (.iconst 0, 1) := by decide +kernel
theorem dX7_clear_14 : decode cX7_clear 14 = .ok (.putfield 147, 3) := by decide +kernel
theorem dX7_clear_17 : decode cX7_clear 17 = .ok (.aload_n 0, 1) := by decide +kernel
theorem dX7_clear_18 : decode cX7_clear 18 = .ok (.getfield 36, 3) := by decide +kernel
theorem dX7_clear_21 : decode cX7_clear 21 = .ok (.iconst 0, 1) := by decide +kernel
theorem dX7_clear_22 : decode cX7_clear 22 = .ok (.putfield 125, 3) := by decide +kernel
theorem dX7_clear_25 : decode cX7_clear 25 = .ok (.aload_n 0, 1) := by decide +kernel
theorem dX7_clear_26 : decode cX7_clear 26 = .ok (.invokevirtual 101, 3) := by decide +kernel
theorem dX7_clear_29 : decode cX7_clear 29 = .ok (.return_, 1) := by decide +kernel
theorem dX7_areVariables_0 : decode cX7_areVariables 0 = .ok (.lload_n 1, 1) := by decide +kernel
theorem dX7_areVariables_1 : decode cX7_areVariables 1 = .ok (.aload_n 0, 1) := by decide +kernel
theorem dX7_areVariables_2 : decode cX7_areVariables 2 = .ok (.getfield 22, 3) := by decide +kernel
theorem dX7_areVariables_5 : decode cX7_areVariables 5 = .ok (.ldc2_w 77, 3) := by decide +kernel
theorem dX7_areVariables_8 : decode cX7_areVariables 8 = .ok (.lxor, 1) := by decide +kernel
theorem dX7_areVariables_9 : decode cX7_areVariables 9 = .ok (.land, 1) := by decide +kernel
theorem dX7_areVariables_10 : decode cX7_areVariables 10 = .ok (.lconst 0, 1) := by decide +kernel
theorem dX7_areVariables_11 : decode cX7_areVariables 11 = .ok (.lcmp, 1) := by decide +kernel
theorem dX7_areVariables_12 : decode cX7_areVariables 12 = .ok (.ifCond .ne 7, 3) := by decide +kernel
theorem dX7_areVariables_15 : decode cX7_areVariables 15 = .ok (.iconst 1, 1) := by decide +kernel
theorem dX7_areVariables_16 : decode cX7_areVariables 16 = .ok (.goto 4, 3) := by decide +kernel
theorem dX7_areVariables_19 : decode cX7_areVariables 19 = .ok (.iconst 0, 1) := by decide +kernel
theorem dX7_areVariables_20 : decode cX7_areVariables 20 = .ok (.ireturn, 1) := by decide +kernel
set_option maxRecDepth 20000 in
theorem ggX7_areTwoSets_X7_areVariables : GoodIn wsX7_areTwoSets wsX7_areVariables := goodIn_r _ [5, 6, 7, 8, 9, 10, 11, 12, 13, 14, 15, 16, 17, 18, 19, 20, 21] (by decide +kernel) (by decide +kernel)
set_option maxRecDepth 20000 in
theorem gX7_areTwoSets_X7_areVariables : GoodIn wsX7_areTwoSets (wsV RX7 82 RX7 yX7_areVariables wsX7_areVariables) := goodIn_app (goodIn_of _ (by decide +kernel)) ggX7_areTwoSets_X7_areVariables
theorem dX7_areTwoSets_0 : decode cX7_areTwoSets 0 = .ok (.aload_n 0, 1) := by decide +kernel
theorem dX7_areTwoSets_1 : decode cX7_areTwoSets 1 = .ok (.lload_n 1, 1) := by decide +kernel
theorem dX7_areTwoSets_2 : decode cX7_areTwoSets 2 = .ok (.lload_n 3, 1) := by decide +kernel
theorem dX7_areTwoSets_3 : decode cX7_areTwoSets 3 = .ok (.lor, 1) := by decide +kernel
theorem dX7_areTwoSets_4 : decode cX7_areTwoSets 4 = .ok (.invokevirtual 82, 3) := by decide +kernel
theorem dX7_areTwoSets_7 : decode cX7_areTwoSets 7 = .ok (.ifCond .eq 15, 3) := by decide +kernel
theorem dX7_areTwoSets_10 : decode cX7_areTwoSets 10 = .ok (.lload_n 1, 1) := by decide +kernel
theorem dX7_areTwoSets_11 : decode cX7_areTwoSets 11 = .ok (.lload_n 3, 1) := by decide +kernel
theorem dX7_areTwoSets_12 : decode cX7_areTwoSets 12 = .ok (.land, 1) := by decide +kernel
theorem dX7_areTwoSets_13 : decode cX7_areTwoSets 13 = .ok (.lconst 0, 1) := by decide +kernel
theorem dX7_areTwoSets_14 : decode cX7_areTwoSets 14 = .ok (.lcmp, 1) := by decide +kernel
theorem dX7_areTwoSets_15 : decode cX7_areTwoSets 15 = .ok (.ifCond .ne 7, 3) := by decide +kernel
theorem dX7_areTwoSets_18 : decode cX7_areTwoSets 18 = .ok (.iconst 1, 1) := by decide +kernel
theorem dX7_areTwoSets_19 : decode cX7_areTwoSets 19 = .ok (.goto 4, 3) := by decide +kernel
theorem dX7_areTwoSets_22 : decode cX7_areTwoSets 22 = .ok (.iconst 0, 1) := by decide +kernel
theorem dX7_areTwoSets_23 : decode cX7_areTwoSets 23 = .ok (.ireturn, 1) := by decide +kernel
theorem dX7_areNodes_0 : decode cX7_areNodes 0 = .ok (.iload_n 1, 1) := by decide +kernel
theorem dX7_areNodes_1 : decode cX7_areNodes 1 = .ok (.iconst 1, 1) := by decide +kernel
theorem dX7_areNodes_2 : decode cX7_areNodes 2 = .ok (.if_icmp .lt 14, 3) := by decide +kernel
theorem dX7_areNodes_5 : decode cX7_areNodes 5 = .ok (.iload_n 1, 1) := by decide +kernel
theorem dX7_areNodes_6 : decode cX7_areNodes 6 = .ok (.sipush 5000, 3) := by decide +kernel
theorem dX7_areNodes_9 : decode cX7_areNodes 9 = .ok (.if_icmp .gt 7, 3) := by decide +kernel
theorem dX7_areNodes_12 : decode cX7_areNodes 12 = .ok (.iconst 1, 1) := by decide +kernel
theorem dX7_areNodes_13 : decode cX7_areNodes 13 = .ok (.goto 4, 3) := by decide +kernel
theorem dX7_areNodes_16 : decode cX7_areNodes 16 = .ok (.iconst 0, 1) := by decide +kernel
theorem dX7_areNodes_17 : decode cX7_areNodes 17 = .ok (.ireturn, 1) := by decide +kernel
theorem dX7_forget_0 : decode cX7_forget 0 = .ok (.aload_n 0, 1) := by decide +kernel
theorem dX7_forget_1 : decode cX7_forget 1 = .ok (.iconst 0, 1) := by decide +kernel
theorem dX7_forget_2 : decode cX7_forget 2 = .ok (.putfield 283, 3) := by decide +kernel
theorem dX7_forget_5 : decode cX7_forget 5 = .ok (.aload_n 0, 1) := by decide +kernel
theorem dX7_forget_6 : decode cX7_forget 6 = .ok (.iconst 0, 1) := by decide +kernel
theorem dX7_forget_7 : decode cX7_forget 7 = .ok (.putfield 286, 3) := by decide +kernel
theorem dX7_forget_10 : decode cX7_forget 10 = .ok (.return_, 1) := by decide +kernel
set_option maxRecDepth 20000 in
theorem ggX7_freshenRows_X2_build : GoodIn wsX7_freshenRows wsX2_build := goodIn_r _ [8, 9, 10, 11, 12, 13, 14, 15, 16, 17, 18, 19, 7, 20, 21, 22, 23, 24, 25, 26, 27, 28, 29, 30, 31, 32, 33, 48, 49, 50, 51, 52, 53, 54, 55, 56, 57, 58] (by decide +kernel) (by decide +kernel)
set_option maxRecDepth 20000 in
theorem gX7_freshenRows_X2_build : GoodIn wsX7_freshenRows (wsV RX7 289 RX2 yX2_build wsX2_build) := goodIn_app (goodIn_of _ (by decide +kernel)) ggX7_freshenRows_X2_build
theorem dX7_freshenRows_0 : decode cX7_freshenRows 0 = .ok (.aload_n 0, 1) := by decide +kernel
theorem dX7_freshenRows_1 : decode cX7_freshenRows 1 = .ok (.getfield 283, 3) := by decide +kernel
theorem dX7_freshenRows_4 : decode cX7_freshenRows 4 = .ok (.ifCond .ne 19, 3) := by decide +kernel
theorem dX7_freshenRows_7 : decode cX7_freshenRows 7 = .ok (.aload_n 0, 1) := by decide +kernel
theorem dX7_freshenRows_8 : decode cX7_freshenRows 8 = .ok (.getfield 45, 3) := by decide +kernel
theorem dX7_freshenRows_11 : decode cX7_freshenRows 11 = .ok (.aload_n 0, 1) := by decide +kernel
theorem dX7_freshenRows_12 : decode cX7_freshenRows 12 = .ok (.getfield 29, 3) := by decide +kernel
theorem dX7_freshenRows_15 : decode cX7_freshenRows 15 = .ok (.invokevirtual 289, 3) := by decide +kernel
theorem dX7_freshenRows_18 : decode cX7_freshenRows 18 = .ok (.aload_n 0, 1) := by decide +kernel
theorem dX7_freshenRows_19 : decode cX7_freshenRows 19 = .ok (.iconst 1, 1) := by decide +kernel
theorem dX7_freshenRows_20 : decode cX7_freshenRows 20 = .ok (.putfield 283, 3) := by decide +kernel
theorem dX7_freshenRows_23 : decode cX7_freshenRows 23 = .ok (.return_, 1) := by decide +kernel
set_option maxRecDepth 20000 in
theorem ggX7_freshenGates_X1_build : GoodIn wsX7_freshenGates wsX1_build := goodIn_r _ [8, 9, 10, 11, 12, 7, 13, 14, 15, 16, 17, 18, 19, 20, 21, 22, 23, 24, 25, 26, 27, 28, 29, 30, 31, 32, 33, 34, 35, 36, 37, 52, 53, 54, 55, 56, 57, 58, 59, 60, 61] (by decide +kernel) (by decide +kernel)
set_option maxRecDepth 20000 in
theorem gX7_freshenGates_X1_build : GoodIn wsX7_freshenGates (wsV RX7 293 RX1 yX1_build wsX1_build) := goodIn_app (goodIn_of _ (by decide +kernel)) ggX7_freshenGates_X1_build
theorem dX7_freshenGates_0 : decode cX7_freshenGates 0 = .ok (.aload_n 0, 1) := by decide +kernel
theorem dX7_freshenGates_1 : decode cX7_freshenGates 1 = .ok (.getfield 286, 3) := by decide +kernel
theorem dX7_freshenGates_4 : decode cX7_freshenGates 4 = .ok (.ifCond .ne 19, 3) := by decide +kernel
theorem dX7_freshenGates_7 : decode cX7_freshenGates 7 = .ok (.aload_n 0, 1) := by decide +kernel
theorem dX7_freshenGates_8 : decode cX7_freshenGates 8 = .ok (.getfield 59, 3) := by decide +kernel
theorem dX7_freshenGates_11 : decode cX7_freshenGates 11 = .ok (.aload_n 0, 1) := by decide +kernel
theorem dX7_freshenGates_12 : decode cX7_freshenGates 12 = .ok (.getfield 29, 3) := by decide +kernel
theorem dX7_freshenGates_15 : decode cX7_freshenGates 15 = .ok (.invokevirtual 293, 3) := by decide +kernel
theorem dX7_freshenGates_18 : decode cX7_freshenGates 18 = .ok (.aload_n 0, 1) := by decide +kernel
theorem dX7_freshenGates_19 : decode cX7_freshenGates 19 = .ok (.iconst 1, 1) := by decide +kernel
theorem dX7_freshenGates_20 : decode cX7_freshenGates 20 = .ok (.putfield 286, 3) := by decide +kernel
theorem dX7_freshenGates_23 : decode cX7_freshenGates 23 = .ok (.return_, 1) := by decide +kernel
set_option maxRecDepth 20000 in
theorem ggX7_leastPlace_J13_bitCount_95d88 : GoodIn wsX7_leastPlace wsJ13_bitCount_95d88 := goodIn_r _ [4, 5, 6, 7] (by decide +kernel) (by decide +kernel)
set_option maxRecDepth 20000 in
theorem gX7_leastPlace_J13_bitCount_95d88 : GoodIn wsX7_leastPlace (va_wsS RX7 294 yJ13_bitCount_95d88 wsJ13_bitCount_95d88) := goodIn_app (goodIn_of _ (by decide +kernel)) ggX7_leastPlace_J13_bitCount_95d88
theorem dX7_leastPlace_0 : decode cX7_leastPlace 0 = .ok (.lload_n 0, 1) := by decide +kernel
theorem dX7_leastPlace_1 : decode cX7_leastPlace 1 = .ok (.lload_n 0, 1) := by decide +kernel
theorem dX7_leastPlace_2 : decode cX7_leastPlace 2 = .ok (.lneg, 1) := by decide +kernel
theorem dX7_leastPlace_3 : decode cX7_leastPlace 3 = .ok (.land, 1) := by decide +kernel
theorem dX7_leastPlace_4 : decode cX7_leastPlace 4 = .ok (.lconst 1, 1) := by decide +kernel
theorem dX7_leastPlace_5 : decode cX7_leastPlace 5 = .ok (.lsub, 1) := by decide +kernel
theorem dX7_leastPlace_6 : decode cX7_leastPlace 6 = .ok (.invokestatic 294, 3) := by decide +kernel
theorem dX7_leastPlace_9 : decode cX7_leastPlace 9 = .ok (.ireturn, 1) := by decide +kernel
theorem dX8_init_0 : decode cX8_init 0 = .ok (.aload_n 0, 1) := by decide +kernel
theorem dX8_init_1 : decode cX8_init 1 = .ok (.invokespecial 1, 3) := by decide +kernel
theorem dX8_init_4 : decode cX8_init 4 = .ok (.aload_n 0, 1) := by decide +kernel
theorem dX8_init_5 : decode cX8_init 5 = .ok (.bipush 60, 2) := by decide +kernel
theorem dX8_init_7 : decode cX8_init 7 = .ok (.newarray .long, 2) := by decide +kernel
theorem dX8_init_9 : decode cX8_init 9 = .ok (.putfield 7, 3) := by decide +kernel
theorem dX8_init_12 : decode cX8_init 12 = .ok (.aload_n 0, 1) := by decide +kernel
theorem dX8_init_13 : decode cX8_init 13 = .ok (.bipush 60, 2) := by decide +kernel
theorem dX8_init_15 : decode cX8_init 15 = .ok (.newarray .int, 2) := by decide +kernel
theorem dX8_init_17 : decode cX8_init 17 = .ok (.putfield 13, 3) := by decide +kernel
theorem dX8_init_20 : decode cX8_init 20 = .ok (.aload_n 0, 1) := by decide +kernel
theorem dX8_init_21 : decode cX8_init 21 = .ok (.bipush 60, 2) := by decide +kernel
theorem dX8_init_23 : decode cX8_init 23 = .ok (.newarray .long, 2) := by decide +kernel
theorem dX8_init_25 : decode cX8_init 25 = .ok (.putfield 17, 3) := by decide +kernel
theorem dX8_init_28 : decode cX8_init 28 = .ok (.aload_n 0, 1) := by decide +kernel
theorem dX8_init_29 : decode cX8_init 29 = .ok (.bipush 60, 2) := by decide +kernel
theorem dX8_init_31 : decode cX8_init 31 = .ok (.newarray .long, 2) := by decide +kernel
theorem dX8_init_33 : decode cX8_init 33 = .ok (.putfield 20, 3) := by decide +kernel
theorem dX8_init_36 : decode cX8_init 36 = .ok (.aload_n 0, 1) := by decide +kernel
theorem dX8_init_37 : decode cX8_init 37 = .ok (.bipush 20, 2) := by decide +kernel
theorem dX8_init_39 : decode cX8_init 39 = .ok (.newarray .int, 2) := by decide +kernel
theorem dX8_init_41 : decode cX8_init 41 = .ok (.putfield 23, 3) := by decide +kernel
theorem dX8_init_44 : decode cX8_init 44 = .ok (.aload_n 0, 1) := by decide +kernel
theorem dX8_init_45 : decode cX8_init 45 = .ok (.bipush 20, 2) := by decide +kernel
theorem dX8_init_47 : decode cX8_init 47 = .ok (.newarray .int, 2) := by decide +kernel
theorem dX8_init_49 : decode cX8_init 49 = .ok (.putfield 26, 3) := by decide +kernel
theorem dX8_init_52 : decode cX8_init 52 = .ok (.aload_n 0, 1) := by decide +kernel
theorem dX8_init_53 : decode cX8_init 53 = .ok (.sipush 500, 3) := by decide +kernel
theorem dX8_init_56 : decode cX8_init 56 = .ok (.newarray .int, 2) := by decide +kernel
theorem dX8_init_58 : decode cX8_init 58 = .ok (.putfield 29, 3) := by decide +kernel
theorem dX8_init_61 : decode cX8_init 61 = .ok (.aload_n 0, 1) := by decide +kernel
theorem dX8_init_62 : decode cX8_init 62 = .ok (.bipush 61, 2) := by decide +kernel
theorem dX8_init_64 : decode cX8_init 64 = .ok (.newarray .long, 2) := by decide +kernel
theorem dX8_init_66 : decode cX8_init 66 = .ok (.putfield 32, 3) := by decide +kernel
theorem dX8_init_69 : decode cX8_init 69 = .ok (.aload_n 0, 1) := by decide +kernel
theorem dX8_init_70 : decode cX8_init 70 = .ok (.bipush 61, 2) := by decide +kernel
theorem dX8_init_72 : decode cX8_init 72 = .ok (.newarray .int, 2) := by decide +kernel
theorem dX8_init_74 : decode cX8_init 74 = .ok (.putfield 35, 3) := by decide +kernel
theorem dX8_init_77 : decode cX8_init 77 = .ok (.aload_n 0, 1) := by decide +kernel
theorem dX8_init_78 : decode cX8_init 78 = .ok (.bipush 61, 2) := by decide +kernel
theorem dX8_init_80 : decode cX8_init 80 = .ok (.newarray .long, 2) := by decide +kernel
theorem dX8_init_82 : decode cX8_init 82 = .ok (.putfield 38, 3) := by decide +kernel
theorem dX8_init_85 : decode cX8_init 85 = .ok (.aload_n 0, 1) := by decide +kernel
theorem dX8_init_86 : decode cX8_init 86 = .ok (.bipush 61, 2) := by decide +kernel
theorem dX8_init_88 : decode cX8_init 88 = .ok (.newarray .long, 2) := by decide +kernel
theorem dX8_init_90 : decode cX8_init 90 = .ok (.putfield 41, 3) := by decide +kernel
theorem dX8_init_93 : decode cX8_init 93 = .ok (.aload_n 0, 1) := by decide +kernel
theorem dX8_init_94 : decode cX8_init 94 = .ok (.bipush 60, 2) := by decide +kernel
theorem dX8_init_96 : decode cX8_init 96 = .ok (.newarray .long, 2) := by decide +kernel
theorem dX8_init_98 : decode cX8_init 98 = .ok (.putfield 44, 3) := by decide +kernel
theorem dX8_init_101 : decode cX8_init 101 = .ok (.aload_n 0, 1) := by decide +kernel
theorem dX8_init_102 : decode cX8_init 102 = .ok (.bipush 60, 2) := by decide +kernel
theorem dX8_init_104 : decode cX8_init 104 = .ok (.newarray .int, 2) := by decide +kernel
theorem dX8_init_106 : decode cX8_init 106 = .ok (.putfield 47, 3) := by decide +kernel
theorem dX8_init_109 : decode cX8_init 109 = .ok (.aload_n 0, 1) := by decide +kernel
theorem dX8_init_110 : decode cX8_init 110 = .ok (.bipush 60, 2) := by decide +kernel
theorem dX8_init_112 : decode cX8_init 112 = .ok (.newarray .long, 2) := by decide +kernel
theorem dX8_init_114 : decode cX8_init 114 = .ok (.putfield 50, 3) := by decide +kernel
theorem dX8_init_117 : decode cX8_init 117 = .ok (.aload_n 0, 1) := by decide +kernel
theorem dX8_init_118 : decode cX8_init 118 = .ok (.bipush 60, 2) := by decide +kernel
theorem dX8_init_120 : decode cX8_init 120 = .ok (.newarray .long, 2) := by decide +kernel
theorem dX8_init_122 : decode cX8_init 122 = .ok (.putfield 53, 3) := by decide +kernel
theorem dX8_init_125 : decode cX8_init 125 = .ok (.aload_n 0, 1) := by decide +kernel
theorem dX8_init_126 : decode cX8_init 126 = .ok (.bipush 60, 2) := by decide +kernel
theorem dX8_init_128 : decode cX8_init 128 = .ok (.newarray .int, 2) := by decide +kernel
theorem dX8_init_130 : decode cX8_init 130 = .ok (.putfield 56, 3) := by decide +kernel
theorem dX8_init_133 : decode cX8_init 133 = .ok (.aload_n 0, 1) := by decide +kernel
theorem dX8_init_134 : decode cX8_init 134 = .ok (.bipush 60, 2) := by decide +kernel
theorem dX8_init_136 : decode cX8_init 136 = .ok (.newarray .long, 2) := by decide +kernel
theorem dX8_init_138 : decode cX8_init 138 = .ok (.putfield 59, 3) := by decide +kernel
theorem dX8_init_141 : decode cX8_init 141 = .ok (.aload_n 0, 1) := by decide +kernel
theorem dX8_init_142 : decode cX8_init 142 = .ok (.bipush 100, 2) := by decide +kernel
theorem dX8_init_144 : decode cX8_init 144 = .ok (.newarray .long, 2) := by decide +kernel
theorem dX8_init_146 : decode cX8_init 146 = .ok (.putfield 62, 3) := by decide +kernel
theorem dX8_init_149 : decode cX8_init 149 = .ok (.aload_n 0, 1) := by decide +kernel
theorem dX8_init_150 : decode cX8_init 150 = .ok (.bipush 100, 2) := by decide +kernel
theorem dX8_init_152 : decode cX8_init 152 = .ok (.newarray .long, 2) := by decide +kernel
theorem dX8_init_154 : decode cX8_init 154 = .ok (.putfield 65, 3) := by decide +kernel
theorem dX8_init_157 : decode cX8_init 157 = .ok (.aload_n 0, 1) := by decide +kernel
theorem dX8_init_158 : decode cX8_init 158 = .ok (.ldc2_w 68, 3) := by decide +kernel
theorem dX8_init_161 : decode cX8_init 161 = .ok (.putfield 70, 3) := by decide +kernel
theorem dX8_init_164 : decode cX8_init 164 = .ok (.aload_n 0, 1) := by decide +kernel
theorem dX8_init_165 : decode cX8_init 165 = .ok (.bipush 120, 2) := by decide +kernel
theorem dX8_init_167 : decode cX8_init 167 = .ok (.newarray .long, 2) := by decide +kernel
theorem dX8_init_169 : decode cX8_init 169 = .ok (.putfield 74, 3) := by decide +kernel
theorem dX8_init_172 : decode cX8_init 172 = .ok (.aload_n 0, 1) := by decide +kernel
theorem dX8_init_173 : decode cX8_init 173 = .ok (.iload_n 1, 1) := by decide +kernel
theorem dX8_init_174 : decode cX8_init 174 = .ok (.iconst 1, 1) := by decide +kernel
theorem dX8_init_175 : decode cX8_init 175 = .ok (.if_icmp .ge 7, 3) := by decide +kernel
theorem dX8_init_178 : decode cX8_init 178 = .ok (.iconst 1, 1) := by decide +kernel
theorem dX8_init_179 : decode cX8_init 179 = .ok (.goto 15, 3) := by decide +kernel
theorem dX8_init_182 : decode cX8_init 182 = .ok (.iload_n 1, 1) := by decide +kernel
theorem dX8_init_183 : decode cX8_init 183 = .ok (.bipush 40, 2) := by decide +kernel
theorem dX8_init_185 : decode cX8_init 185 = .ok (.if_icmp .le 8, 3) := by decide +kernel
theorem dX8_init_188 : decode cX8_init 188 = .ok (.bipush 40, 2) := by decide +kernel
theorem dX8_init_190 : decode cX8_init 190 = .ok (.goto 4, 3) := by decide +kernel
theorem dX8_init_193 : decode cX8_init 193 = .ok (.iload_n 1, 1) := by decide +kernel
theorem dX8_init_194 : decode cX8_init 194 = .ok (.putfield 77, 3) := by decide +kernel
theorem dX8_init_197 : decode cX8_init 197 = .ok (.return_, 1) := by decide +kernel
theorem dX8_thrown_0 : decode cX8_thrown 0 = .ok (.aload_n 0, 1) := by decide +kernel
theorem dX8_thrown_1 : decode cX8_thrown 1 = .ok (.getfield 81, 3) := by decide +kernel
theorem dX8_thrown_4 : decode cX8_thrown 4 = .ok (.ireturn, 1) := by decide +kernel
theorem dX8_isIn_0 : decode cX8_isIn 0 = .ok (.lload_n 0, 1) := by decide +kernel
theorem dX8_isIn_1 : decode cX8_isIn 1 = .ok (.lload_n 2, 1) := by decide +kernel
theorem dX8_isIn_2 : decode cX8_isIn 2 = .ok (.lcmp, 1) := by decide +kernel
theorem dX8_isIn_3 : decode cX8_isIn 3 = .ok (.ifCond .lt 14, 3) := by decide +kernel
theorem dX8_isIn_6 : decode cX8_isIn 6 = .ok (.lload_n 0, 1) := by decide +kernel
theorem dX8_isIn_7 : decode cX8_isIn 7 = .ok (.lload 4, 2) := by decide +kernel
theorem dX8_isIn_9 : decode cX8_isIn 9 = .ok (.lcmp, 1) := by decide +kernel
theorem dX8_isIn_10 : decode cX8_isIn 10 = .ok (.ifCond .gt 7, 3) := by decide +kernel
theorem dX8_isIn_13 : decode cX8_isIn 13 = .ok (.iconst 1, 1) := by decide +kernel
theorem dX8_isIn_14 : decode cX8_isIn 14 = .ok (.goto 4, 3) := by decide +kernel
theorem dX8_isIn_17 : decode cX8_isIn 17 = .ok (.iconst 0, 1) := by decide +kernel
theorem dX8_isIn_18 : decode cX8_isIn 18 = .ok (.ireturn, 1) := by decide +kernel
theorem dX8_may_0 : decode cX8_may 0 = .ok (.aload_n 0, 1) := by decide +kernel
theorem dX8_may_1 : decode cX8_may 1 = .ok (.iload_n 1, 1) := by decide +kernel
theorem dX8_may_2 : decode cX8_may 2 = .ok (.ifCond .ne 7, 3) := by decide +kernel
theorem dX8_may_5 : decode cX8_may 5 = .ok (.iconst 1, 1) := by decide +kernel
theorem dX8_may_6 : decode cX8_may 6 = .ok (.goto 12, 3) := by decide +kernel
theorem dX8_may_9 : decode cX8_may 9 = .ok (.iload_n 2, 1) := by decide +kernel
theorem dX8_may_10 : decode cX8_may 10 = .ok (.ifCond .ne 7, 3) := by decide +kernel
theorem dX8_may_13 : decode cX8_may 13 = .ok (.iconst 2, 1) := by decide +kernel
theorem dX8_may_14 : decode cX8_may 14 = .ok (.goto 4, 3) := by decide +kernel
theorem dX8_may_17 : decode cX8_may 17 = .ok (.iconst 0, 1) := by decide +kernel
theorem dX8_may_18 : decode cX8_may 18 = .ok (.putfield 81, 3) := by decide +kernel
theorem dX8_may_21 : decode cX8_may 21 = .ok (.aload_n 0, 1) := by decide +kernel
theorem dX8_may_22 : decode cX8_may 22 = .ok (.getfield 81, 3) := by decide +kernel
theorem dX8_may_25 : decode cX8_may 25 = .ok (.ifCond .ne 7, 3) := by decide +kernel
theorem dX8_may_28 : decode cX8_may 28 = .ok (.iconst 1, 1) := by decide +kernel
theorem dX8_may_29 : decode cX8_may 29 = .ok (.goto 4, 3) := by decide +kernel
theorem dX8_may_32 : decode cX8_may 32 = .ok (.iconst 0, 1) := by decide +kernel
theorem dX8_may_33 : decode cX8_may 33 = .ok (.ireturn, 1) := by decide +kernel
theorem dX8_areThere_0 : decode cX8_areThere 0 = .ok (.lload_n 1, 1) := by decide +kernel
theorem dX8_areThere_1 : decode cX8_areThere 1 = .ok (.aload_n 0, 1) := by decide +kernel
theorem dX8_areThere_2 : decode cX8_areThere 2 = .ok (.getfield 77, 3) := by decide +kernel
theorem dX8_areThere_5 : decode cX8_areThere 5 = .ok (.lshr, 1) := by decide +kernel
theorem dX8_areThere_6 : decode cX8_areThere 6 = .ok (.lconst 0, 1) := by decide +kernel
theorem dX8_areThere_7 : decode cX8_areThere 7 = .ok (.lcmp, 1) := by decide +kernel
theorem dX8_areThere_8 : decode cX8_areThere 8 = .ok (.ifCond .ne 7, 3) := by decide +kernel
theorem dX8_areThere_11 : decode cX8_areThere 11 = .ok (.iconst 1, 1) := by decide +kernel
theorem dX8_areThere_12 : decode cX8_areThere 12 = .ok (.goto 4, 3) := by decide +kernel
theorem dX8_areThere_15 : decode cX8_areThere 15 = .ok (.iconst 0, 1) := by decide +kernel
theorem dX8_areThere_16 : decode cX8_areThere 16 = .ok (.ireturn, 1) := by decide +kernel
theorem dX8_bits_0 : decode cX8_bits 0 = .ok (.iconst 0, 1) := by decide +kernel
theorem dX8_bits_1 : decode cX8_bits 1 = .ok (.istore_n 2, 1) := by decide +kernel
theorem dX8_bits_2 : decode cX8_bits 2 = .ok (.iconst 0, 1) := by decide +kernel
theorem dX8_bits_3 : decode cX8_bits 3 = .ok (.istore_n 3, 1) := by decide +kernel
theorem dX8_bits_4 : decode cX8_bits 4 = .ok (.iload_n 3, 1) := by decide +kernel
theorem dX8_bits_5 : decode cX8_bits 5 = .ok (.bipush 63, 2) := by decide +kernel
theorem dX8_bits_7 : decode cX8_bits 7 = .ok (.if_icmp .ge 27, 3) := by decide +kernel
theorem dX8_bits_10 : decode cX8_bits 10 = .ok (.iload_n 2, 1) := by decide +kernel
theorem dX8_bits_11 : decode cX8_bits 11 = .ok (.lload_n 0, 1) := by decide +kernel
theorem dX8_bits_12 : decode cX8_bits 12 = .ok (.iload_n 3, 1) := by decide +kernel
theorem dX8_bits_13 : decode cX8_bits 13 = .ok (.lshr, 1) := by decide +kernel
theorem dX8_bits_14 : decode cX8_bits 14 = .ok (.lconst 1, 1) := by decide +kernel
theorem dX8_bits_15 : decode cX8_bits 15 = .ok (.land, 1) := by decide +kernel
theorem dX8_bits_16 : decode cX8_bits 16 = .ok (.lconst 1, 1) := by decide +kernel
theorem dX8_bits_17 : decode cX8_bits 17 = .ok (.lcmp, 1) := by decide +kernel
theorem dX8_bits_18 : decode cX8_bits 18 = .ok (.ifCond .ne 7, 3) := by decide +kernel
theorem dX8_bits_21 : decode cX8_bits 21 = .ok (.iconst 1, 1) := by decide +kernel
theorem dX8_bits_22 : decode cX8_bits 22 = .ok (.goto 4, 3) := by decide +kernel
theorem dX8_bits_25 : decode cX8_bits 25 = .ok (.iconst 0, 1) := by decide +kernel
theorem dX8_bits_26 : decode cX8_bits 26 = .ok (.iadd, 1) := by decide +kernel
theorem dX8_bits_27 : decode cX8_bits 27 = .ok (.istore_n 2, 1) := by decide +kernel
theorem dX8_bits_28 : decode cX8_bits 28 = .ok (.iinc 3 1, 3) := by decide +kernel
theorem dX8_bits_31 : decode cX8_bits 31 = .ok (.goto (-27), 3) := by decide +kernel
theorem dX8_bits_34 : decode cX8_bits 34 = .ok (.iload_n 2, 1) := by decide +kernel
theorem dX8_bits_35 : decode cX8_bits 35 = .ok (.ireturn, 1) := by decide +kernel
set_option maxRecDepth 20000 in
theorem ggX8_parity_X8_bits : GoodIn wsX8_parity wsX8_bits := goodIn_r _ [4] (by decide +kernel) (by decide +kernel)
set_option maxRecDepth 20000 in
theorem gX8_parity_X8_bits : GoodIn wsX8_parity (va_wsS RX8 84 yX8_bits wsX8_bits) := goodIn_app (goodIn_of _ (by decide +kernel)) ggX8_parity_X8_bits
theorem dX8_parity_0 : decode cX8_parity 0 = .ok (.lload_n 0, 1) := by decide +kernel
theorem dX8_parity_1 : decode cX8_parity 1 = .ok (.invokestatic 84, 3) := by decide +kernel
theorem dX8_parity_4 : decode cX8_parity 4 = .ok (.iconst 1, 1) := by decide +kernel
theorem dX8_parity_5 : decode cX8_parity 5 = .ok (.iand, 1) := by decide +kernel
theorem dX8_parity_6 : decode cX8_parity 6 = .ok (.ireturn, 1) := by decide +kernel
theorem dX8_lowest_0 : decode cX8_lowest 0 = .ok (.lload_n 0, 1) := by decide +kernel
theorem dX8_lowest_1 : decode cX8_lowest 1 = .ok (.lload_n 0, 1) := by decide +kernel
theorem dX8_lowest_2 : decode cX8_lowest 2 = .ok (.lneg, 1) := by decide +kernel
theorem dX8_lowest_3 : decode cX8_lowest 3 = .ok (.land, 1) := by decide +kernel
theorem dX8_lowest_4 : decode cX8_lowest 4 = .ok (.lreturn, 1) := by decide +kernel
theorem dX8_highest_0 : decode cX8_highest 0 = .ok (.ldc2_w 88, 3) := by decide +kernel
theorem dX8_highest_3 : decode cX8_highest 3 = .ok (.lstore_n 2, 1) := by decide +kernel
theorem dX8_highest_4 : decode cX8_highest 4 = .ok (.lload_n 0, 1) := by decide +kernel
theorem dX8_highest_5 : decode cX8_highest 5 = .ok (.lload_n 2, 1) := by decide +kernel
theorem dX8_highest_6 : decode cX8_highest 6 = .ok (.land, 1) := by decide +kernel
theorem dX8_highest_7 : decode cX8_highest 7 = .ok (.lconst 0, 1) := by decide +kernel
theorem dX8_highest_8 : decode cX8_highest 8 = .ok (.lcmp, 1) := by decide +kernel
theorem dX8_highest_9 : decode cX8_highest 9 = .ok (.ifCond .ne 10, 3) := by decide +kernel
theorem dX8_highest_12 : decode cX8_highest 12 = .ok (.lload_n 2, 1) := by decide +kernel
theorem dX8_highest_13 : decode cX8_highest 13 = .ok (.iconst 1, 1) := by decide +kernel
theorem dX8_highest_14 : decode cX8_highest 14 = .ok (.lshr, 1) := by decide +kernel
theorem dX8_highest_15 : decode cX8_highest 15 = .ok (.lstore_n 2, 1) := by decide +kernel
theorem dX8_highest_16 : decode cX8_highest 16 = .ok (.goto (-12), 3) := by decide +kernel
theorem dX8_highest_19 : decode cX8_highest 19 = .ok (.lload_n 2, 1) := by decide +kernel
theorem dX8_highest_20 : decode cX8_highest 20 = .ok (.lreturn, 1) := by decide +kernel
set_option maxRecDepth 20000 in
theorem ggX8_equation_X8_areThere : GoodIn wsX8_equation wsX8_areThere := goodIn_r _ [8, 9, 18, 19, 20, 21, 22, 23, 24, 25, 26, 27, 28, 29, 30, 31, 32, 33, 34, 35, 36, 37, 38, 39, 40, 41, 42, 43, 44, 45, 46, 47, 48, 49, 50, 51, 52, 53, 54, 55, 56, 57, 58, 59, 60] (by decide +kernel) (by decide +kernel)
set_option maxRecDepth 20000 in
theorem gX8_equation_X8_areThere : GoodIn wsX8_equation (wsV RX8 90 RX8 yX8_areThere wsX8_areThere) := goodIn_app (goodIn_of _ (by decide +kernel)) ggX8_equation_X8_areThere
set_option maxRecDepth 20000 in
theorem ggX8_equation_X8_isIn : GoodIn wsX8_equation wsX8_isIn := goodIn_r _ [12] (by decide +kernel) (by decide +kernel)
set_option maxRecDepth 20000 in
theorem gX8_equation_X8_isIn : GoodIn wsX8_equation (va_wsS RX8 94 yX8_isIn wsX8_isIn) := goodIn_app (goodIn_of _ (by decide +kernel)) ggX8_equation_X8_isIn
set_option maxRecDepth 20000 in
theorem ggX8_equation_X8_may : GoodIn wsX8_equation wsX8_may := goodIn_r _ [16, 17, 18, 19, 20, 21, 22, 23, 24, 25, 26, 27, 28, 29, 30, 31, 32, 33, 34, 35, 36, 37, 38, 39, 40, 41, 42, 43, 44, 45, 46, 47, 48, 49, 50, 51, 52, 53, 54, 55, 56, 57, 58, 59, 60] (by decide +kernel) (by decide +kernel)
set_option maxRecDepth 20000 in
theorem gX8_equation_X8_may : GoodIn wsX8_equation (wsV RX8 101 RX8 yX8_may wsX8_may) := goodIn_app (goodIn_of _ (by decide +kernel)) ggX8_equation_X8_may
theorem dX8_equation_0 : decode cX8_equation 0 = .ok (.aload_n 0, 1) := by decide +kernel
theorem dX8_equation_1 : decode cX8_equation 1 = .ok (.aload_n 0, 1) := by decide +kernel
theorem dX8_equation_2 : decode cX8_equation 2 = .ok (.lload_n 1, 1) := by decide +kernel
theorem dX8_equation_3 : decode cX8_equation 3 = .ok (.invokevirtual 90, 3) := by decide +kernel
theorem dX8_equation_6 : decode cX8_equation 6 = .ok (.ifCond .eq 17, 3) := by decide +kernel
theorem dX8_equation_9 : decode cX8_equation 9 = .ok (.iload_n 3, 1) := by decide +kernel
theorem dX8_equation_10 : decode cX8_equation 10 = .ok (.i2l, 1) := by decide +kernel
theorem dX8_equation_11 : decode cX8_equation 11 = .ok (.lconst 0, 1) := by decide +kernel
theorem dX8_equation_12 : decode cX8_equation 12 = .ok (.lconst 1, 1) := by decide +kernel
theorem dX8_equation_13 : decode cX8_equation 13 = .ok (.invokestatic 94, 3) := by decide +kernel
theorem dX8_equation_16 : decode cX8_equation 16 = .ok (.ifCond .eq 7, 3) := by decide +kernel
theorem dX8_equation_19 : decode cX8_equation 19 = .ok (.iconst 1, 1) := by decide +kernel
theorem dX8_equation_20 : decode cX8_equation 20 = .ok (.goto 4, 3) := by decide +kernel
theorem dX8_equation_23 : decode cX8_equation 23 = .ok (.iconst 0, 1) := by decide +kernel
theorem dX8_equation_24 : decode cX8_equation 24 = .ok (.aload_n 0, 1) := by decide +kernel
theorem dX8_equation_25 : decode cX8_equation 25 = .ok (.getfield 98, 3) := by decide +kernel
theorem dX8_equation_28 : decode cX8_equation 28 = .ok (.bipush 60, 2) := by decide +kernel
theorem dX8_equation_30 : decode cX8_equation 30 = .ok (.if_icmp .ge 7, 3) := by decide +kernel
theorem dX8_equation_33 : decode cX8_equation 33 = .ok (.iconst 1, 1) := by decide +kernel
theorem dX8_equation_34 : decode cX8_equation 34 = .ok (.goto 4, 3) := by decide +kernel
theorem dX8_equation_37 : decode cX8_equation 37 = .ok (.iconst 0, 1) := by decide +kernel
theorem dX8_equation_38 : decode cX8_equation 38 = .ok (.invokevirtual 101, 3) := by decide +kernel
theorem dX8_equation_41 : decode cX8_equation 41 = .ok (.ifCond .ne 5, 3) := by decide +kernel
theorem dX8_equation_44 : decode cX8_equation 44 = .ok (.iconst 0, 1) := by decide +kernel
theorem dX8_equation_45 : decode cX8_equation 45 = .ok (.ireturn, 1) := by decide +kernel
theorem dX8_equation_46 : decode cX8_equation 46 = .ok (.aload_n 0, 1) := by decide +kernel
theorem dX8_equation_47 : decode cX8_equation 47 = .ok (.getfield 7, 3) := by decide +kernel
theorem dX8_equation_50 : decode cX8_equation 50 = .ok (.aload_n 0, 1) := by decide +kernel
theorem dX8_equation_51 : decode cX8_equation 51 = .ok (.getfield 98, 3) := by decide +kernel
theorem dX8_equation_54 : decode cX8_equation 54 = .ok (.lload_n 1, 1) := by decide +kernel
theorem dX8_equation_55 : decode cX8_equation 55 = .ok (.lastore, 1) := by decide +kernel
theorem dX8_equation_56 : decode cX8_equation 56 = .ok (.aload_n 0, 1) := by decide +kernel
theorem dX8_equation_57 : decode cX8_equation 57 = .ok (.getfield 13, 3) := by decide +kernel
theorem dX8_equation_60 : decode cX8_equation 60 = .ok (.aload_n 0, 1) := by decide +kernel
theorem dX8_equation_61 : decode cX8_equation 61 = .ok (.getfield 98, 3) := by decide +kernel
theorem dX8_equation_64 : decode cX8_equation 64 = .ok (.iload_n 3, 1) := by decide +kernel
theorem dX8_equation_65 : decode cX8_equation 65 = .ok (.iastore, 1) := by decide +kernel
theorem dX8_equation_66 : decode cX8_equation 66 = .ok (.aload_n 0, 1) := by decide +kernel
theorem dX8_equation_67 : decode cX8_equation 67 = .ok (.dup, 1) := by decide +kernel
theorem dX8_equation_68 : decode cX8_equation 68 = .ok (.getfield 98, 3) := by decide +kernel
theorem dX8_equation_71 : decode cX8_equation 71 = .ok (.iconst 1, 1) := by decide +kernel
theorem dX8_equation_72 : decode cX8_equation 72 = .ok (.iadd, 1) := by decide +kernel
theorem dX8_equation_73 : decode cX8_equation 73 = .ok (.putfield 98, 3) := by decide +kernel
theorem dX8_equation_76 : decode cX8_equation 76 = .ok (.aload_n 0, 1) := by decide +kernel
theorem dX8_equation_77 : decode cX8_equation 77 = .ok (.getfield 98, 3) := by decide +kernel
theorem dX8_equation_80 : decode cX8_equation 80 = .ok (.iconst 1, 1) := by decide +kernel
theorem dX8_equation_81 : decode cX8_equation 81 = .ok (.isub, 1) := by decide +kernel
theorem dX8_equation_82 : decode cX8_equation 82 = .ok (.ireturn, 1) := by decide +kernel
set_option maxRecDepth 20000 in
theorem ggX8_clause_X8_areThere : GoodIn wsX8_clause wsX8_areThere := goodIn_r _ [8, 9, 15, 16, 17, 18, 19, 20, 21, 22, 23, 24, 25, 26, 27, 28, 29, 30, 31, 32, 33, 34, 35, 36, 37, 38, 39, 40, 41, 42, 43, 44, 45, 46, 47, 48, 49, 50, 51, 52, 53, 54, 55, 56, 57] (by decide +kernel) (by decide +kernel)
set_option maxRecDepth 20000 in
theorem gX8_clause_X8_areThere : GoodIn wsX8_clause (wsV RX8 90 RX8 yX8_areThere wsX8_areThere) := goodIn_app (goodIn_of _ (by decide +kernel)) ggX8_clause_X8_areThere
set_option maxRecDepth 20000 in
theorem ggX8_clause_X8_may : GoodIn wsX8_clause wsX8_may := goodIn_r _ [13, 14, 15, 16, 17, 18, 19, 20, 21, 22, 23, 24, 25, 26, 27, 28, 29, 30, 31, 32, 33, 34, 35, 36, 37, 38, 39, 40, 41, 42, 43, 44, 45, 46, 47, 48, 49, 50, 51, 52, 53, 54, 55, 56, 57] (by decide +kernel) (by decide +kernel)
set_option maxRecDepth 20000 in
theorem gX8_clause_X8_may : GoodIn wsX8_clause (wsV RX8 101 RX8 yX8_may wsX8_may) := goodIn_app (goodIn_of _ (by decide +kernel)) ggX8_clause_X8_may
theorem dX8_clause_0 : decode cX8_clause 0 = .ok (.aload_n 0, 1) := by decide +kernel
theorem dX8_clause_1 : decode cX8_clause 1 = .ok (.aload_n 0, 1) := by decide +kernel
theorem dX8_clause_2 : decode cX8_clause 2 = .ok (.lload_n 1, 1) := by decide +kernel
theorem dX8_clause_3 : decode cX8_clause 3 = .ok (.invokevirtual 90, 3) := by decide +kernel
theorem dX8_clause_6 : decode cX8_clause 6 = .ok (.ifCond .eq 23, 3) := by decide +kernel
theorem dX8_clause_9 : decode cX8_clause 9 = .ok (.aload_n 0, 1) := by decide +kernel
theorem dX8_clause_10 : decode cX8_clause 10 = .ok (.lload_n 3, 1) := by decide +kernel
theorem dX8_clause_11 : decode cX8_clause 11 = .ok (.invokevirtual 90, 3) := by decide +kernel
theorem dX8_clause_14 : decode cX8_clause 14 = .ok (.ifCond .eq 15, 3) := by decide +kernel
theorem dX8_clause_17 : decode cX8_clause 17 = .ok (.lload_n 1, 1) := by decide +kernel
theorem dX8_clause_18 : decode cX8_clause 18 = .ok (.lload_n 3, 1) := by decide +kernel
theorem dX8_clause_19 : decode cX8_clause 19 = .ok (.land, 1) := by decide +kernel
theorem dX8_clause_20 : decode cX8_clause 20 = .ok (.lconst 0, 1) := by decide +kernel
theorem dX8_clause_21 : decode cX8_clause 21 = .ok (.lcmp, 1) := by decide +kernel
theorem dX8_clause_22 : decode cX8_clause 22 = .ok (.ifCond .ne 7, 3) := by decide +kernel
theorem dX8_clause_25 : decode cX8_clause 25 = .ok (.iconst 1, 1) := by decide +kernel
theorem dX8_clause_26 : decode cX8_clause 26 = .ok (.goto 4, 3) := by decide +kernel
theorem dX8_clause_29 : decode cX8_clause 29 = .ok (.iconst 0, 1) := by decide +kernel
theorem dX8_clause_30 : decode cX8_clause 30 = .ok (.aload_n 0, 1) := by decide +kernel
theorem dX8_clause_31 : decode cX8_clause 31 = .ok (.getfield 105, 3) := by decide +kernel
theorem dX8_clause_34 : decode cX8_clause 34 = .ok (.bipush 60, 2) := by decide +kernel
theorem dX8_clause_36 : decode cX8_clause 36 = .ok (.if_icmp .ge 7, 3) := by decide +kernel
theorem dX8_clause_39 : decode cX8_clause 39 = .ok (.iconst 1, 1) := by decide +kernel
theorem dX8_clause_40 : decode cX8_clause 40 = .ok (.goto 4, 3) := by decide +kernel
theorem dX8_clause_43 : decode cX8_clause 43 = .ok (.iconst 0, 1) := by decide +kernel
theorem dX8_clause_44 : decode cX8_clause 44 = .ok (.invokevirtual 101, 3) := by decide +kernel
theorem dX8_clause_47 : decode cX8_clause 47 = .ok (.ifCond .ne 5, 3) := by decide +kernel
theorem dX8_clause_50 : decode cX8_clause 50 = .ok (.iconst 0, 1) := by decide +kernel
theorem dX8_clause_51 : decode cX8_clause 51 = .ok (.ireturn, 1) := by decide +kernel
theorem dX8_clause_52 : decode cX8_clause 52 = .ok (.aload_n 0, 1) := by decide +kernel
theorem dX8_clause_53 : decode cX8_clause 53 = .ok (.getfield 17, 3) := by decide +kernel
theorem dX8_clause_56 : decode cX8_clause 56 = .ok (.aload_n 0, 1) := by decide +kernel
theorem dX8_clause_57 : decode cX8_clause 57 = .ok (.getfield 105, 3) := by decide +kernel
theorem dX8_clause_60 : decode cX8_clause 60 = .ok (.lload_n 1, 1) := by decide +kernel
theorem dX8_clause_61 : decode cX8_clause 61 = .ok (.lastore, 1) := by decide +kernel
theorem dX8_clause_62 : decode cX8_clause 62 = .ok (.aload_n 0, 1) := by decide +kernel
theorem dX8_clause_63 : decode cX8_clause 63 = .ok (.getfield 20, 3) := by decide +kernel
theorem dX8_clause_66 : decode cX8_clause 66 = .ok (.aload_n 0, 1) := by decide +kernel
theorem dX8_clause_67 : decode cX8_clause 67 = .ok (.getfield 105, 3) := by decide +kernel
theorem dX8_clause_70 : decode cX8_clause 70 = .ok (.lload_n 3, 1) := by decide +kernel
theorem dX8_clause_71 : decode cX8_clause 71 = .ok (.lastore, 1) := by decide +kernel
theorem dX8_clause_72 : decode cX8_clause 72 = .ok (.aload_n 0, 1) := by decide +kernel
theorem dX8_clause_73 : decode cX8_clause 73 = .ok (.dup, 1) := by decide +kernel
theorem dX8_clause_74 : decode cX8_clause 74 = .ok (.getfield 105, 3) := by decide +kernel
theorem dX8_clause_77 : decode cX8_clause 77 = .ok (.iconst 1, 1) := by decide +kernel
theorem dX8_clause_78 : decode cX8_clause 78 = .ok (.iadd, 1) := by decide +kernel
theorem dX8_clause_79 : decode cX8_clause 79 = .ok (.putfield 105, 3) := by decide +kernel
theorem dX8_clause_82 : decode cX8_clause 82 = .ok (.aload_n 0, 1) := by decide +kernel
theorem dX8_clause_83 : decode cX8_clause 83 = .ok (.getfield 105, 3) := by decide +kernel
theorem dX8_clause_86 : decode cX8_clause 86 = .ok (.iconst 1, 1) := by decide +kernel
theorem dX8_clause_87 : decode cX8_clause 87 = .ok (.isub, 1) := by decide +kernel
theorem dX8_clause_88 : decode cX8_clause 88 = .ok (.ireturn, 1) := by decide +kernel
set_option maxRecDepth 20000 in
theorem ggX8_push_X8_may : GoodIn wsX8_push wsX8_may := goodIn_r _ [10, 11, 12, 13, 14, 15, 16, 17, 18, 19, 20, 21, 22, 23, 24, 25, 26, 27, 28, 29, 30, 31, 32, 33, 34, 35, 36, 37, 38, 39, 40, 41, 42, 43, 44, 45, 46, 47, 48, 49, 50, 51, 52, 53, 54] (by decide +kernel) (by decide +kernel)
set_option maxRecDepth 20000 in
theorem gX8_push_X8_may : GoodIn wsX8_push (wsV RX8 101 RX8 yX8_may wsX8_may) := goodIn_app (goodIn_of _ (by decide +kernel)) ggX8_push_X8_may
theorem dX8_push_0 : decode cX8_push 0 = .ok (.aload_n 0, 1) := by decide +kernel
theorem dX8_push_1 : decode cX8_push 1 = .ok (.aload_n 0, 1) := by decide +kernel
theorem dX8_push_2 : decode cX8_push 2 = .ok (.getfield 108, 3) := by decide +kernel
theorem dX8_push_5 : decode cX8_push 5 = .ok (.bipush 20, 2) := by decide +kernel
theorem dX8_push_7 : decode cX8_push 7 = .ok (.if_icmp .ge 7, 3) := by decide +kernel
theorem dX8_push_10 : decode cX8_push 10 = .ok (.iconst 1, 1) := by decide +kernel
theorem dX8_push_11 : decode cX8_push 11 = .ok (.goto 4, 3) := by decide +kernel
theorem dX8_push_14 : decode cX8_push 14 = .ok (.iconst 0, 1) := by decide +kernel
theorem dX8_push_15 : decode cX8_push 15 = .ok (.iconst 1, 1) := by decide +kernel
theorem dX8_push_16 : decode cX8_push 16 = .ok (.invokevirtual 101, 3) := by decide +kernel
theorem dX8_push_19 : decode cX8_push 19 = .ok (.ifCond .ne 5, 3) := by decide +kernel
theorem dX8_push_22 : decode cX8_push 22 = .ok (.iconst 0, 1) := by decide +kernel
theorem dX8_push_23 : decode cX8_push 23 = .ok (.ireturn, 1) := by decide +kernel
theorem dX8_push_24 : decode cX8_push 24 = .ok (.aload_n 0, 1) := by decide +kernel
theorem dX8_push_25 : decode cX8_push 25 = .ok (.getfield 23, 3) := by decide +kernel
theorem dX8_push_28 : decode cX8_push 28 = .ok (.aload_n 0, 1) := by decide +kernel
theorem dX8_push_29 : decode cX8_push 29 = .ok (.getfield 108, 3) := by decide +kernel
theorem dX8_push_32 : decode cX8_push 32 = .ok (.aload_n 0, 1) := by decide +kernel
theorem dX8_push_33 : decode cX8_push 33 = .ok (.getfield 98, 3) := by decide +kernel
theorem dX8_push_36 : decode cX8_push 36 = .ok (.iastore, 1) := by decide +kernel
theorem dX8_push_37 : decode cX8_push 37 = .ok (.aload_n 0, 1) := by decide +kernel
theorem dX8_push_38 : decode cX8_push 38 = .ok (.getfield 26, 3) := by decide +kernel
theorem dX8_push_41 : decode cX8_push 41 = .ok (.aload_n 0, 1) := by decide +kernel
theorem dX8_push_42 : decode cX8_push 42 = .ok (.getfield 108, 3) := by decide +kernel
theorem dX8_push_45 : decode cX8_push 45 = .ok (.aload_n 0, 1) := by decide +kernel
theorem dX8_push_46 : decode cX8_push 46 = .ok (.getfield 105, 3) := by decide +kernel
theorem dX8_push_49 : decode cX8_push 49 = .ok (.iastore, 1) := by decide +kernel
theorem dX8_push_50 : decode cX8_push 50 = .ok (.aload_n 0, 1) := by decide +kernel
theorem dX8_push_51 : decode cX8_push 51 = .ok (.dup, 1) := by decide +kernel
theorem dX8_push_52 : decode cX8_push 52 = .ok (.getfield 108, 3) := by decide +kernel
theorem dX8_push_55 : decode cX8_push 55 = .ok (.iconst 1, 1) := by decide +kernel
theorem dX8_push_56 : decode cX8_push 56 = .ok (.iadd, 1) := by decide +kernel
theorem dX8_push_57 : decode cX8_push 57 = .ok (.putfield 108, 3) := by decide +kernel
theorem dX8_push_60 : decode cX8_push 60 = .ok (.aload_n 0, 1) := by decide +kernel
theorem dX8_push_61 : decode cX8_push 61 = .ok (.getfield 108, 3) := by decide +kernel
theorem dX8_push_64 : decode cX8_push 64 = .ok (.ireturn, 1) := by decide +kernel
set_option maxRecDepth 20000 in
theorem ggX8_pop_X8_isIn : GoodIn wsX8_pop wsX8_isIn := goodIn_r _ [9] (by decide +kernel) (by decide +kernel)
set_option maxRecDepth 20000 in
theorem gX8_pop_X8_isIn : GoodIn wsX8_pop (va_wsS RX8 94 yX8_isIn wsX8_isIn) := goodIn_app (goodIn_of _ (by decide +kernel)) ggX8_pop_X8_isIn
set_option maxRecDepth 20000 in
theorem ggX8_pop_X8_may : GoodIn wsX8_pop wsX8_may := goodIn_r _ [13, 14, 15, 16, 17, 18, 19, 20, 21, 22, 23, 24, 25, 26, 27, 28, 29, 30, 31, 32, 33, 34, 35, 36, 37, 38, 39, 40, 41, 42, 43, 44, 45, 46, 47, 48, 49, 50, 51, 52, 53, 54, 55, 56, 57] (by decide +kernel) (by decide +kernel)
set_option maxRecDepth 20000 in
theorem gX8_pop_X8_may : GoodIn wsX8_pop (wsV RX8 101 RX8 yX8_may wsX8_may) := goodIn_app (goodIn_of _ (by decide +kernel)) ggX8_pop_X8_may
theorem dX8_pop_0 : decode cX8_pop 0 = .ok (.aload_n 0, 1) := by decide +kernel
theorem dX8_pop_1 : decode cX8_pop 1 = .ok (.iload_n 1, 1) := by decide +kernel
theorem dX8_pop_2 : decode cX8_pop 2 = .ok (.i2l, 1) := by decide +kernel
theorem dX8_pop_3 : decode cX8_pop 3 = .ok (.lconst 0, 1) := by decide +kernel
theorem dX8_pop_4 : decode cX8_pop 4 = .ok (.aload_n 0, 1) := by decide +kernel
theorem dX8_pop_5 : decode cX8_pop 5 = .ok (.getfield 108, 3) := by decide +kernel
theorem dX8_pop_8 : decode cX8_pop 8 = .ok (.i2l, 1) := by decide +kernel
theorem dX8_pop_9 : decode cX8_pop 9 = .ok (.invokestatic 94, 3) := by decide +kernel
theorem dX8_pop_12 : decode cX8_pop 12 = .ok (.iconst 1, 1) := by decide +kernel
theorem dX8_pop_13 : decode cX8_pop 13 = .ok (.invokevirtual 101, 3) := by decide +kernel
theorem dX8_pop_16 : decode cX8_pop 16 = .ok (.ifCond .ne 5, 3) := by decide +kernel
theorem dX8_pop_19 : decode cX8_pop 19 = .ok (.iconst 0, 1) := by decide +kernel
theorem dX8_pop_20 : decode cX8_pop 20 = .ok (.ireturn, 1) := by decide +kernel
theorem dX8_pop_21 : decode cX8_pop 21 = .ok (.aload_n 0, 1) := by decide +kernel
theorem dX8_pop_22 : decode cX8_pop 22 = .ok (.dup, 1) := by decide +kernel
theorem dX8_pop_23 : decode cX8_pop 23 = .ok (.getfield 108, 3) := by decide +kernel
theorem dX8_pop_26 : decode cX8_pop 26 = .ok (.iload_n 1, 1) := by decide +kernel
theorem dX8_pop_27 : decode cX8_pop 27 = .ok (.isub, 1) := by decide +kernel
theorem dX8_pop_28 : decode cX8_pop 28 = .ok (.putfield 108, 3) := by decide +kernel
theorem dX8_pop_31 : decode cX8_pop 31 = .ok (.iload_n 1, 1) := by decide +kernel
theorem dX8_pop_32 : decode cX8_pop 32 = .ok (.ifCond .le 29, 3) := by decide +kernel
theorem dX8_pop_35 : decode cX8_pop 35 = .ok (.aload_n 0, 1) := by decide +kernel
theorem dX8_pop_36 : decode cX8_pop 36 = .ok (.aload_n 0, 1) := by decide +kernel
theorem dX8_pop_37 : decode cX8_pop 37 = .ok (.getfield 23, 3) := by decide +kernel
theorem dX8_pop_40 : decode cX8_pop 40 = .ok (.aload_n 0, 1) := by decide +kernel
theorem dX8_pop_41 : decode cX8_pop 41 = .ok (.getfield 108, 3) := by decide +kernel
theorem dX8_pop_44 : decode cX8_pop 44 = .ok (.iaload, 1) := by decide +kernel
theorem dX8_pop_45 : decode cX8_pop 45 = .ok (.putfield 98, 3) := by decide +kernel
theorem dX8_pop_48 : decode cX8_pop 48 = .ok (.aload_n 0, 1) := by decide +kernel
theorem dX8_pop_49 : decode cX8_pop 49 = .ok (.aload_n 0, 1) := by decide +kernel
theorem dX8_pop_50 : decode cX8_pop 50 = .ok (.getfield 26, 3) := by decide +kernel
theorem dX8_pop_53 : decode cX8_pop 53 = .ok (.aload_n 0, 1) := by decide +kernel
theorem dX8_pop_54 : decode cX8_pop 54 = .ok (.getfield 108, 3) := by decide +kernel
theorem dX8_pop_57 : decode cX8_pop 57 = .ok (.iaload, 1) := by decide +kernel
theorem dX8_pop_58 : decode cX8_pop 58 = .ok (.putfield 105, 3) := by decide +kernel
theorem dX8_pop_61 : decode cX8_pop 61 = .ok (.aload_n 0, 1) := by decide +kernel
theorem dX8_pop_62 : decode cX8_pop 62 = .ok (.getfield 98, 3) := by decide +kernel
theorem dX8_pop_65 : decode cX8_pop 65 = .ok (.aload_n 0, 1) := by decide +kernel
theorem dX8_pop_66 : decode cX8_pop 66 = .ok (.getfield 105, 3) := by decide +kernel
theorem dX8_pop_69 : decode cX8_pop 69 = .ok (.iadd, 1) := by decide +kernel
theorem dX8_pop_70 : decode cX8_pop 70 = .ok (.ireturn, 1) := by decide +kernel
set_option maxRecDepth 20000 in
theorem ggX8_told_X8_isIn : GoodIn wsX8_told wsX8_isIn := goodIn_r _ [11] (by decide +kernel) (by decide +kernel)
set_option maxRecDepth 20000 in
theorem gX8_told_X8_isIn : GoodIn wsX8_told (va_wsS RX8 94 yX8_isIn wsX8_isIn) := goodIn_app (goodIn_of _ (by decide +kernel)) ggX8_told_X8_isIn
set_option maxRecDepth 20000 in
theorem ggX8_told_X8_may : GoodIn wsX8_told wsX8_may := goodIn_r _ [15, 16, 17, 18, 19, 20, 21, 22, 23, 24, 25, 26, 27, 28, 29, 30, 31, 32, 33, 34, 35, 36, 37, 38, 39, 40, 41, 42, 43, 44, 45, 46, 47, 48, 49, 50, 51, 52, 53, 54, 55, 56, 57, 58, 59] (by decide +kernel) (by decide +kernel)
set_option maxRecDepth 20000 in
theorem gX8_told_X8_may : GoodIn wsX8_told (wsV RX8 101 RX8 yX8_may wsX8_may) := goodIn_app (goodIn_of _ (by decide +kernel)) ggX8_told_X8_may
theorem dX8_told_0 : decode cX8_told 0 = .ok (.iload_n 2, 1) := by decide +kernel
theorem dX8_told_1 : decode cX8_told 1 = .ok (.i2l, 1) := by decide +kernel
theorem dX8_told_2 : decode cX8_told 2 = .ok (.lconst 0, 1) := by decide +kernel
theorem dX8_told_3 : decode cX8_told 3 = .ok (.ldc2_w 111, 3) := by decide +kernel
theorem dX8_told_6 : decode cX8_told 6 = .ok (.invokestatic 94, 3) := by decide +kernel
theorem dX8_told_9 : decode cX8_told 9 = .ok (.istore_n 3, 1) := by decide +kernel
theorem dX8_told_10 : decode cX8_told 10 = .ok (.aload_n 0, 1) := by decide +kernel
theorem dX8_told_11 : decode cX8_told 11 = .ok (.iload_n 3, 1) := by decide +kernel
theorem dX8_told_12 : decode cX8_told 12 = .ok (.ifCond .eq 31, 3) := by decide +kernel
theorem dX8_told_15 : decode cX8_told 15 = .ok (.iload_n 1, 1) := by decide +kernel
theorem dX8_told_16 : decode cX8_told 16 = .ok (.i2l, 1) := by decide +kernel
theorem dX8_told_17 : decode cX8_told 17 = .ok (.lconst 0, 1) := by decide +kernel
theorem dX8_told_18 : decode cX8_told 18 = .ok (.iload_n 2, 1) := by decide +kernel
theorem dX8_told_19 : decode cX8_told 19 = .ok (.iconst 2, 1) := by decide +kernel
theorem dX8_told_20 : decode cX8_told 20 = .ok (.if_icmp .ge 10, 3) := by decide +kernel
theorem dX8_told_23 : decode cX8_told 23 = .ok (.aload_n 0, 1) := by decide +kernel
theorem dX8_told_24 : decode cX8_told 24 = .ok (.getfield 98, 3) := by decide +kernel
theorem dX8_told_27 : decode cX8_told 27 = .ok (.goto 7, 3) := by decide +kernel
theorem dX8_told_30 : decode cX8_told 30 = .ok (.aload_n 0, 1) := by decide +kernel
theorem dX8_told_31 : decode cX8_told 31 = .ok (.getfield 105, 3) := by decide +kernel
theorem dX8_told_34 : decode cX8_told 34 = .ok (.iconst 1, 1) := by decide +kernel
theorem dX8_told_35 : decode cX8_told 35 = .ok (.isub, 1) := by decide +kernel
theorem dX8_told_36 : decode cX8_told 36 = .ok (.i2l, 1) := by decide +kernel
theorem dX8_told_37 : decode cX8_told 37 = .ok (.invokestatic 94, 3) := by decide +kernel
theorem dX8_told_40 : decode cX8_told 40 = .ok (.ifCond .eq 7, 3) := by decide +kernel
theorem dX8_told_43 : decode cX8_told 43 = .ok (.iconst 1, 1) := by decide +kernel
theorem dX8_told_44 : decode cX8_told 44 = .ok (.goto 4, 3) := by decide +kernel
theorem dX8_told_47 : decode cX8_told 47 = .ok (.iconst 0, 1) := by decide +kernel
theorem dX8_told_48 : decode cX8_told 48 = .ok (.iload_n 3, 1) := by decide +kernel
theorem dX8_told_49 : decode cX8_told 49 = .ok (.invokevirtual 101, 3) := by decide +kernel
theorem dX8_told_52 : decode cX8_told 52 = .ok (.ifCond .ne 5, 3) := by decide +kernel
theorem dX8_told_55 : decode cX8_told 55 = .ok (.lconst 0, 1) := by decide +kernel
theorem dX8_told_56 : decode cX8_told 56 = .ok (.lreturn, 1) := by decide +kernel
theorem dX8_told_57 : decode cX8_told 57 = .ok (.iload_n 2, 1) := by decide +kernel
theorem dX8_told_58 : decode cX8_told 58 = .ok (.ifCond .ne 12, 3) := by decide +kernel
theorem dX8_told_61 : decode cX8_told 61 = .ok (.aload_n 0, 1) := by decide +kernel
theorem dX8_told_62 : decode cX8_told 62 = .ok (.getfield 7, 3) := by decide +kernel
theorem dX8_told_65 : decode cX8_told 65 = .ok (.iload_n 1, 1) := by decide +kernel
theorem dX8_told_66 : decode cX8_told 66 = .ok (.laload, 1) := by decide +kernel
theorem dX8_told_67 : decode cX8_told 67 = .ok (.goto 38, 3) := by decide +kernel
theorem dX8_told_70 : decode cX8_told 70 = .ok (.iload_n 2, 1) := by decide +kernel
theorem dX8_told_71 : decode cX8_told 71 = .ok (.iconst 1, 1) := by decide +kernel
theorem dX8_told_72 : decode cX8_told 72 = .ok (.if_icmp .ne 13, 3) := by decide +kernel
theorem dX8_told_75 : decode cX8_told 75 = .ok (.aload_n 0, 1) := by decide +kernel
theorem dX8_told_76 : decode cX8_told 76 = .ok (.getfield 13, 3) := by decide +kernel
theorem dX8_told_79 : decode cX8_told 79 = .ok (.iload_n 1, 1) := by decide +kernel
theorem dX8_told_80 : decode cX8_told 80 = .ok (.iaload, 1) := by decide +kernel
theorem dX8_told_81 : decode cX8_told 81 = .ok (.i2l, 1) := by decide +kernel
theorem dX8_told_82 : decode cX8_told 82 = .ok (.goto 23, 3) := by decide +kernel
theorem dX8_told_85 : decode cX8_told 85 = .ok (.iload_n 2, 1) := by decide +kernel
theorem dX8_told_86 : decode cX8_told 86 = .ok (.iconst 2, 1) := by decide +kernel
theorem dX8_told_87 : decode cX8_told 87 = .ok (.if_icmp .ne 12, 3) := by decide +kernel
theorem dX8_told_90 : decode cX8_told 90 = .ok (.aload_n 0, 1) := by decide +kernel
theorem dX8_told_91 : decode cX8_told 91 = .ok (.getfield 17, 3) := by decide +kernel
theorem dX8_told_94 : decode cX8_told 94 = .ok (.iload_n 1, 1) := by decide +kernel
theorem dX8_told_95 : decode cX8_told 95 = .ok (.laload, 1) := by decide +kernel
theorem dX8_told_96 : decode cX8_told 96 = .ok (.goto 9, 3) := by decide +kernel
theorem dX8_told_99 : decode cX8_told 99 = .ok (.aload_n 0, 1) := by decide +kernel
theorem dX8_told_100 : decode cX8_told 100 = .ok (.getfield 20, 3) := by decide +kernel
theorem dX8_told_103 : decode cX8_told 103 = .ok (.iload_n 1, 1) := by decide +kernel
theorem dX8_told_104 : decode cX8_told 104 = .ok (.laload, 1) := by decide +kernel
theorem dX8_told_105 : decode cX8_told 105 = .ok (.lreturn, 1) := by decide +kernel
set_option maxRecDepth 20000 in
theorem ggX8_feed_X8_isIn : GoodIn wsX8_feed wsX8_isIn := goodIn_r _ [8] (by decide +kernel) (by decide +kernel)
set_option maxRecDepth 20000 in
theorem gX8_feed_X8_isIn : GoodIn wsX8_feed (va_wsS RX8 94 yX8_isIn wsX8_isIn) := goodIn_app (goodIn_of _ (by decide +kernel)) ggX8_feed_X8_isIn
set_option maxRecDepth 20000 in
theorem ggX8_feed_X8_may : GoodIn wsX8_feed wsX8_may := goodIn_r _ [12, 13, 14, 15, 16, 17, 18, 19, 20, 21, 22, 23, 24, 25, 26, 27, 28, 29, 30, 31, 32, 33, 34, 35, 36, 37, 38, 39, 40, 41, 42, 43, 44, 45, 46, 47, 48, 49, 50, 51, 52, 53, 54, 55, 56] (by decide +kernel) (by decide +kernel)
set_option maxRecDepth 20000 in
theorem gX8_feed_X8_may : GoodIn wsX8_feed (wsV RX8 101 RX8 yX8_may wsX8_may) := goodIn_app (goodIn_of _ (by decide +kernel)) ggX8_feed_X8_may
theorem dX8_feed_0 : decode cX8_feed 0 = .ok (.aload_n 0, 1) := by decide +kernel
theorem dX8_feed_1 : decode cX8_feed 1 = .ok (.iload_n 3, 1) := by decide +kernel
theorem dX8_feed_2 : decode cX8_feed 2 = .ok (.i2l, 1) := by decide +kernel
theorem dX8_feed_3 : decode cX8_feed 3 = .ok (.lconst 1, 1) := by decide +kernel
theorem dX8_feed_4 : decode cX8_feed 4 = .ok (.ldc2_w 113, 3) := by decide +kernel
theorem dX8_feed_7 : decode cX8_feed 7 = .ok (.invokestatic 94, 3) := by decide +kernel
theorem dX8_feed_10 : decode cX8_feed 10 = .ok (.aload_n 0, 1) := by decide +kernel
theorem dX8_feed_11 : decode cX8_feed 11 = .ok (.getfield 115, 3) := by decide +kernel
theorem dX8_feed_14 : decode cX8_feed 14 = .ok (.iload_n 3, 1) := by decide +kernel
theorem dX8_feed_15 : decode cX8_feed 15 = .ok (.iadd, 1) := by decide +kernel
theorem dX8_feed_16 : decode cX8_feed 16 = .ok (.sipush 500, 3) := by decide +kernel
theorem dX8_feed_19 : decode cX8_feed 19 = .ok (.if_icmp .gt 7, 3) := by decide +kernel
theorem dX8_feed_22 : decode cX8_feed 22 = .ok (.iconst 1, 1) := by decide +kernel
theorem dX8_feed_23 : decode cX8_feed 23 = .ok (.goto 4, 3) := by decide +kernel
theorem dX8_feed_26 : decode cX8_feed 26 = .ok (.iconst 0, 1) := by decide +kernel
theorem dX8_feed_27 : decode cX8_feed 27 = .ok (.invokevirtual 101, 3) := by decide +kernel
theorem dX8_feed_30 : decode cX8_feed 30 = .ok (.ifCond .ne 5, 3) := by decide +kernel
theorem dX8_feed_33 : decode cX8_feed 33 = .ok (.iconst 0, 1) := by decide +kernel
theorem dX8_feed_34 : decode cX8_feed 34 = .ok (.ireturn, 1) := by decide +kernel
theorem dX8_feed_35 : decode cX8_feed 35 = .ok (.iload_n 3, 1) := by decide +kernel
theorem dX8_feed_36 : decode cX8_feed 36 = .ok (.iconst 1, 1) := by decide +kernel
theorem dX8_feed_37 : decode cX8_feed 37 = .ok (.isub, 1) := by decide +kernel
theorem dX8_feed_38 : decode cX8_feed 38 = .ok (.istore 4, 2) := by decide +kernel
theorem dX8_feed_40 : decode cX8_feed 40 = .ok (.iload 4, 2) := by decide +kernel
