theorem dL_cell_0 : decode cL_cell 0 = .ok (.iload_n 1, 1) := by decide +kernel
theorem dL_cell_1 : decode cL_cell 1 = .ok (.aload_n 0, 1) := by decide +kernel
theorem dL_cell_2 : decode cL_cell 2 = .ok (.arraylength, 1) := by decide +kernel
theorem dL_cell_3 : decode cL_cell 3 = .ok (.if_icmp .ge 9, 3) := by decide +kernel
theorem dL_cell_6 : decode cL_cell 6 = .ok (.aload_n 0, 1) := by decide +kernel
theorem dL_cell_7 : decode cL_cell 7 = .ok (.iload_n 1, 1) := by decide +kernel
theorem dL_cell_8 : decode cL_cell 8 = .ok (.iaload, 1) := by decide +kernel
theorem dL_cell_9 : decode cL_cell 9 = .ok (.goto 4, 3) := by decide +kernel
theorem dL_cell_12 : decode cL_cell 12 = .ok (.iconst 0, 1) := by decide +kernel
theorem dL_cell_13 : decode cL_cell 13 = .ok (.ireturn, 1) := by decide +kernel
theorem dL_equation_0 : decode cL_equation 0 = .ok (.aload 4, 2) := by decide +kernel
theorem dL_equation_2 : decode cL_equation 2 = .ok (.iconst 0, 1) := by decide +kernel
theorem dL_equation_3 : decode cL_equation 3 = .ok (.aload_n 0, 1) := by decide +kernel
theorem dL_equation_4 : decode cL_equation 4 = .ok (.lload_n 1, 1) := by decide +kernel
theorem dL_equation_5 : decode cL_equation 5 = .ok (.iload_n 3, 1) := by decide +kernel
theorem dL_equation_6 : decode cL_equation 6 = .ok (.invokevirtual 7, 3) := by decide +kernel
theorem dL_equation_9 : decode cL_equation 9 = .ok (.i2l, 1) := by decide +kernel
theorem dL_equation_10 : decode cL_equation 10 = .ok (.lastore, 1) := by decide +kernel
theorem dL_equation_11 : decode cL_equation 11 = .ok (.goto 11, 3) := by decide +kernel
theorem dL_equation_14 : decode cL_equation 14 = .ok (.astore 5, 2) := by decide +kernel
theorem dL_equation_16 : decode cL_equation 16 = .ok (.iconst 1, 1) := by decide +kernel
theorem dL_equation_17 : decode cL_equation 17 = .ok (.ireturn, 1) := by decide +kernel
theorem dL_equation_18 : decode cL_equation 18 = .ok (.astore 5, 2) := by decide +kernel
theorem dL_equation_20 : decode cL_equation 20 = .ok (.iconst 2, 1) := by decide +kernel
theorem dL_equation_21 : decode cL_equation 21 = .ok (.ireturn, 1) := by decide +kernel
theorem dL_equation_22 : decode cL_equation 22 = .ok (.iconst 0, 1) := by decide +kernel
theorem dL_equation_23 : decode cL_equation 23 = .ok (.ireturn, 1) := by decide +kernel
theorem dL_clause_0 : decode cL_clause 0 = .ok (.aload 5, 2) := by decide +kernel
theorem dL_clause_2 : decode cL_clause 2 = .ok (.iconst 0, 1) := by decide +kernel
theorem dL_clause_3 : decode cL_clause 3 = .ok (.aload_n 0, 1) := by decide +kernel
theorem dL_clause_4 : decode cL_clause 4 = .ok (.lload_n 1, 1) := by decide +kernel
theorem dL_clause_5 : decode cL_clause 5 = .ok (.lload_n 3, 1) := by decide +kernel
theorem dL_clause_6 : decode cL_clause 6 = .ok (.invokevirtual 17, 3) := by decide +kernel
theorem dL_clause_9 : decode cL_clause 9 = .ok (.i2l, 1) := by decide +kernel
theorem dL_clause_10 : decode cL_clause 10 = .ok (.lastore, 1) := by decide +kernel
theorem dL_clause_11 : decode cL_clause 11 = .ok (.goto 11, 3) := by decide +kernel
theorem dL_clause_14 : decode cL_clause 14 = .ok (.astore 6, 2) := by decide +kernel
theorem dL_clause_16 : decode cL_clause 16 = .ok (.iconst 1, 1) := by decide +kernel
theorem dL_clause_17 : decode cL_clause 17 = .ok (.ireturn, 1) := by decide +kernel
theorem dL_clause_18 : decode cL_clause 18 = .ok (.astore 6, 2) := by decide +kernel
theorem dL_clause_20 : decode cL_clause 20 = .ok (.iconst 2, 1) := by decide +kernel
theorem dL_clause_21 : decode cL_clause 21 = .ok (.ireturn, 1) := by decide +kernel
theorem dL_clause_22 : decode cL_clause 22 = .ok (.iconst 0, 1) := by decide +kernel
theorem dL_clause_23 : decode cL_clause 23 = .ok (.ireturn, 1) := by decide +kernel
theorem dL_feed_0 : decode cL_feed 0 = .ok (.aload 4, 2) := by decide +kernel
theorem dL_feed_2 : decode cL_feed 2 = .ok (.iconst 0, 1) := by decide +kernel
theorem dL_feed_3 : decode cL_feed 3 = .ok (.aload_n 0, 1) := by decide +kernel
theorem dL_feed_4 : decode cL_feed 4 = .ok (.lload_n 1, 1) := by decide +kernel
theorem dL_feed_5 : decode cL_feed 5 = .ok (.iload_n 3, 1) := by decide +kernel
theorem dL_feed_6 : decode cL_feed 6 = .ok (.invokevirtual 21, 3) := by decide +kernel
theorem dL_feed_9 : decode cL_feed 9 = .ok (.i2l, 1) := by decide +kernel
theorem dL_feed_10 : decode cL_feed 10 = .ok (.lastore, 1) := by decide +kernel
theorem dL_feed_11 : decode cL_feed 11 = .ok (.goto 11, 3) := by decide +kernel
theorem dL_feed_14 : decode cL_feed 14 = .ok (.astore 5, 2) := by decide +kernel
theorem dL_feed_16 : decode cL_feed 16 = .ok (.iconst 1, 1) := by decide +kernel
theorem dL_feed_17 : decode cL_feed 17 = .ok (.ireturn, 1) := by decide +kernel
theorem dL_feed_18 : decode cL_feed 18 = .ok (.astore 5, 2) := by decide +kernel
theorem dL_feed_20 : decode cL_feed 20 = .ok (.iconst 2, 1) := by decide +kernel
theorem dL_feed_21 : decode cL_feed 21 = .ok (.ireturn, 1) := by decide +kernel
theorem dL_feed_22 : decode cL_feed 22 = .ok (.iconst 0, 1) := by decide +kernel
theorem dL_feed_23 : decode cL_feed 23 = .ok (.ireturn, 1) := by decide +kernel
theorem dL_push_0 : decode cL_push 0 = .ok (.aload_n 1, 1) := by decide +kernel
theorem dL_push_1 : decode cL_push 1 = .ok (.iconst 0, 1) := by decide +kernel
theorem dL_push_2 : decode cL_push 2 = .ok (.aload_n 0, 1) := by decide +kernel
theorem dL_push_3 : decode cL_push 3 = .ok (.invokevirtual 24, 3) := by decide +kernel
theorem dL_push_6 : decode cL_push 6 = .ok (.i2l, 1) := by decide +kernel
theorem dL_push_7 : decode cL_push 7 = .ok (.lastore, 1) := by decide +kernel
theorem dL_push_8 : decode cL_push 8 = .ok (.goto 6, 3) := by decide +kernel
theorem dL_push_11 : decode cL_push 11 = .ok (.astore_n 2, 1) := by decide +kernel
theorem dL_push_12 : decode cL_push 12 = .ok (.iconst 1, 1) := by decide +kernel
theorem dL_push_13 : decode cL_push 13 = .ok (.ireturn, 1) := by decide +kernel
theorem dL_push_14 : decode cL_push 14 = .ok (.iconst 0, 1) := by decide +kernel
theorem dL_push_15 : decode cL_push 15 = .ok (.ireturn, 1) := by decide +kernel
theorem dL_pop_0 : decode cL_pop 0 = .ok (.aload_n 2, 1) := by decide +kernel
theorem dL_pop_1 : decode cL_pop 1 = .ok (.iconst 0, 1) := by decide +kernel
theorem dL_pop_2 : decode cL_pop 2 = .ok (.aload_n 0, 1) := by decide +kernel
theorem dL_pop_3 : decode cL_pop 3 = .ok (.iload_n 1, 1) := by decide +kernel
theorem dL_pop_4 : decode cL_pop 4 = .ok (.invokevirtual 28, 3) := by decide +kernel
theorem dL_pop_7 : decode cL_pop 7 = .ok (.i2l, 1) := by decide +kernel
theorem dL_pop_8 : decode cL_pop 8 = .ok (.lastore, 1) := by decide +kernel
theorem dL_pop_9 : decode cL_pop 9 = .ok (.goto 6, 3) := by decide +kernel
theorem dL_pop_12 : decode cL_pop 12 = .ok (.astore_n 3, 1) := by decide +kernel
theorem dL_pop_13 : decode cL_pop 13 = .ok (.iconst 1, 1) := by decide +kernel
theorem dL_pop_14 : decode cL_pop 14 = .ok (.ireturn, 1) := by decide +kernel
theorem dL_pop_15 : decode cL_pop 15 = .ok (.iconst 0, 1) := by decide +kernel
theorem dL_pop_16 : decode cL_pop 16 = .ok (.ireturn, 1) := by decide +kernel
theorem dL_told_0 : decode cL_told 0 = .ok (.aload_n 3, 1) := by decide +kernel
theorem dL_told_1 : decode cL_told 1 = .ok (.iconst 0, 1) := by decide +kernel
theorem dL_told_2 : decode cL_told 2 = .ok (.aload_n 0, 1) := by decide +kernel
theorem dL_told_3 : decode cL_told 3 = .ok (.iload_n 1, 1) := by decide +kernel
theorem dL_told_4 : decode cL_told 4 = .ok (.iload_n 2, 1) := by decide +kernel
theorem dL_told_5 : decode cL_told 5 = .ok (.invokevirtual 32, 3) := by decide +kernel
theorem dL_told_8 : decode cL_told 8 = .ok (.lastore, 1) := by decide +kernel
theorem dL_told_9 : decode cL_told 9 = .ok (.goto 11, 3) := by decide +kernel
theorem dL_told_12 : decode cL_told 12 = .ok (.astore 4, 2) := by decide +kernel
theorem dL_told_14 : decode cL_told 14 = .ok (.iconst 1, 1) := by decide +kernel
theorem dL_told_15 : decode cL_told 15 = .ok (.ireturn, 1) := by decide +kernel
theorem dL_told_16 : decode cL_told 16 = .ok (.astore 4, 2) := by decide +kernel
theorem dL_told_18 : decode cL_told 18 = .ok (.iconst 2, 1) := by decide +kernel
theorem dL_told_19 : decode cL_told 19 = .ok (.ireturn, 1) := by decide +kernel
theorem dL_told_20 : decode cL_told 20 = .ok (.iconst 0, 1) := by decide +kernel
theorem dL_told_21 : decode cL_told 21 = .ok (.ireturn, 1) := by decide +kernel
theorem dL_row_0 : decode cL_row 0 = .ok (.aload_n 2, 1) := by decide +kernel
theorem dL_row_1 : decode cL_row 1 = .ok (.iconst 0, 1) := by decide +kernel
theorem dL_row_2 : decode cL_row 2 = .ok (.aload_n 0, 1) := by decide +kernel
theorem dL_row_3 : decode cL_row 3 = .ok (.iload_n 1, 1) := by decide +kernel
theorem dL_row_4 : decode cL_row 4 = .ok (.invokevirtual 38, 3) := by decide +kernel
theorem dL_row_7 : decode cL_row 7 = .ok (.lastore, 1) := by decide +kernel
theorem dL_row_8 : decode cL_row 8 = .ok (.goto 6, 3) := by decide +kernel
theorem dL_row_11 : decode cL_row 11 = .ok (.astore_n 3, 1) := by decide +kernel
theorem dL_row_12 : decode cL_row 12 = .ok (.iconst 1, 1) := by decide +kernel
theorem dL_row_13 : decode cL_row 13 = .ok (.ireturn, 1) := by decide +kernel
theorem dL_row_14 : decode cL_row 14 = .ok (.iconst 0, 1) := by decide +kernel
theorem dL_row_15 : decode cL_row 15 = .ok (.ireturn, 1) := by decide +kernel
theorem dL_sum_0 : decode cL_sum 0 = .ok (.aload_n 3, 1) := by decide +kernel
theorem dL_sum_1 : decode cL_sum 1 = .ok (.iconst 0, 1) := by decide +kernel
theorem dL_sum_2 : decode cL_sum 2 = .ok (.aload_n 0, 1) := by decide +kernel
theorem dL_sum_3 : decode cL_sum 3 = .ok (.lload_n 1, 1) := by decide +kernel
theorem dL_sum_4 : decode cL_sum 4 = .ok (.invokevirtual 42, 3) := by decide +kernel
theorem dL_sum_7 : decode cL_sum 7 = .ok (.i2l, 1) := by decide +kernel
theorem dL_sum_8 : decode cL_sum 8 = .ok (.lastore, 1) := by decide +kernel
theorem dL_sum_9 : decode cL_sum 9 = .ok (.goto 7, 3) := by decide +kernel
theorem dL_sum_12 : decode cL_sum 12 = .ok (.astore 4, 2) := by decide +kernel
theorem dL_sum_14 : decode cL_sum 14 = .ok (.iconst 1, 1) := by decide +kernel
theorem dL_sum_15 : decode cL_sum 15 = .ok (.ireturn, 1) := by decide +kernel
theorem dL_sum_16 : decode cL_sum 16 = .ok (.iconst 0, 1) := by decide +kernel
theorem dL_sum_17 : decode cL_sum 17 = .ok (.ireturn, 1) := by decide +kernel
theorem dL_follow_0 : decode cL_follow 0 = .ok (.aload 6, 2) := by decide +kernel
theorem dL_follow_2 : decode cL_follow 2 = .ok (.iconst 0, 1) := by decide +kernel
theorem dL_follow_3 : decode cL_follow 3 = .ok (.aload_n 0, 1) := by decide +kernel
theorem dL_follow_4 : decode cL_follow 4 = .ok (.lload_n 1, 1) := by decide +kernel
theorem dL_follow_5 : decode cL_follow 5 = .ok (.lload_n 3, 1) := by decide +kernel
theorem dL_follow_6 : decode cL_follow 6 = .ok (.iload 5, 2) := by decide +kernel
theorem dL_follow_8 : decode cL_follow 8 = .ok (.invokevirtual 46, 3) := by decide +kernel
theorem dL_follow_11 : decode cL_follow 11 = .ok (.lastore, 1) := by decide +kernel
theorem dL_follow_12 : decode cL_follow 12 = .ok (.goto 7, 3) := by decide +kernel
theorem dL_follow_15 : decode cL_follow 15 = .ok (.astore 7, 2) := by decide +kernel
theorem dL_follow_17 : decode cL_follow 17 = .ok (.iconst 1, 1) := by decide +kernel
theorem dL_follow_18 : decode cL_follow 18 = .ok (.ireturn, 1) := by decide +kernel
theorem dL_follow_19 : decode cL_follow 19 = .ok (.iconst 0, 1) := by decide +kernel
theorem dL_follow_20 : decode cL_follow 20 = .ok (.ireturn, 1) := by decide +kernel
theorem dL_solve_0 : decode cL_solve 0 = .ok (.aload_n 2, 1) := by decide +kernel
theorem dL_solve_1 : decode cL_solve 1 = .ok (.iconst 0, 1) := by decide +kernel
theorem dL_solve_2 : decode cL_solve 2 = .ok (.aload_n 0, 1) := by decide +kernel
theorem dL_solve_3 : decode cL_solve 3 = .ok (.iload_n 1, 1) := by decide +kernel
theorem dL_solve_4 : decode cL_solve 4 = .ok (.invokevirtual 50, 3) := by decide +kernel
theorem dL_solve_7 : decode cL_solve 7 = .ok (.i2l, 1) := by decide +kernel
theorem dL_solve_8 : decode cL_solve 8 = .ok (.lastore, 1) := by decide +kernel
theorem dL_solve_9 : decode cL_solve 9 = .ok (.goto 6, 3) := by decide +kernel
theorem dL_solve_12 : decode cL_solve 12 = .ok (.astore_n 3, 1) := by decide +kernel
theorem dL_solve_13 : decode cL_solve 13 = .ok (.iconst 1, 1) := by decide +kernel
theorem dL_solve_14 : decode cL_solve 14 = .ok (.ireturn, 1) := by decide +kernel
theorem dL_solve_15 : decode cL_solve 15 = .ok (.iconst 0, 1) := by decide +kernel
theorem dL_solve_16 : decode cL_solve 16 = .ok (.ireturn, 1) := by decide +kernel
theorem dL_models_0 : decode cL_models 0 = .ok (.aload_n 2, 1) := by decide +kernel
theorem dL_models_1 : decode cL_models 1 = .ok (.iconst 0, 1) := by decide +kernel
theorem dL_models_2 : decode cL_models 2 = .ok (.aload_n 0, 1) := by decide +kernel
theorem dL_models_3 : decode cL_models 3 = .ok (.iload_n 1, 1) := by decide +kernel
theorem dL_models_4 : decode cL_models 4 = .ok (.invokevirtual 53, 3) := by decide +kernel
theorem dL_models_7 : decode cL_models 7 = .ok (.lastore, 1) := by decide +kernel
theorem dL_models_8 : decode cL_models 8 = .ok (.goto 6, 3) := by decide +kernel
theorem dL_models_11 : decode cL_models 11 = .ok (.astore_n 3, 1) := by decide +kernel
theorem dL_models_12 : decode cL_models 12 = .ok (.iconst 1, 1) := by decide +kernel
theorem dL_models_13 : decode cL_models 13 = .ok (.ireturn, 1) := by decide +kernel
theorem dL_models_14 : decode cL_models 14 = .ok (.iconst 0, 1) := by decide +kernel
theorem dL_models_15 : decode cL_models 15 = .ok (.ireturn, 1) := by decide +kernel
theorem dL_must_0 : decode cL_must 0 = .ok (.aload_n 3, 1) := by decide +kernel
theorem dL_must_1 : decode cL_must 1 = .ok (.iconst 0, 1) := by decide +kernel
theorem dL_must_2 : decode cL_must 2 = .ok (.aload_n 0, 1) := by decide +kernel
theorem dL_must_3 : decode cL_must 3 = .ok (.iload_n 1, 1) := by decide +kernel
theorem dL_must_4 : decode cL_must 4 = .ok (.iload_n 2, 1) := by decide +kernel
theorem dL_must_5 : decode cL_must 5 = .ok (.invokevirtual 56, 3) := by decide +kernel
theorem dL_must_8 : decode cL_must 8 = .ok (.i2l, 1) := by decide +kernel
theorem dL_must_9 : decode cL_must 9 = .ok (.lastore, 1) := by decide +kernel
theorem dL_must_10 : decode cL_must 10 = .ok (.goto 11, 3) := by decide +kernel
theorem dL_must_13 : decode cL_must 13 = .ok (.astore 4, 2) := by decide +kernel
theorem dL_must_15 : decode cL_must 15 = .ok (.iconst 1, 1) := by decide +kernel
theorem dL_must_16 : decode cL_must 16 = .ok (.ireturn, 1) := by decide +kernel
theorem dL_must_17 : decode cL_must 17 = .ok (.astore 4, 2) := by decide +kernel
theorem dL_must_19 : decode cL_must 19 = .ok (.iconst 2, 1) := by decide +kernel
theorem dL_must_20 : decode cL_must 20 = .ok (.ireturn, 1) := by decide +kernel
theorem dL_must_21 : decode cL_must 21 = .ok (.iconst 0, 1) := by decide +kernel
theorem dL_must_22 : decode cL_must 22 = .ok (.ireturn, 1) := by decide +kernel
theorem dL_gate_0 : decode cL_gate 0 = .ok (.aload_n 2, 1) := by decide +kernel
theorem dL_gate_1 : decode cL_gate 1 = .ok (.iconst 0, 1) := by decide +kernel
theorem dL_gate_2 : decode cL_gate 2 = .ok (.aload_n 0, 1) := by decide +kernel
theorem dL_gate_3 : decode cL_gate 3 = .ok (.iload_n 1, 1) := by decide +kernel
theorem dL_gate_4 : decode cL_gate 4 = .ok (.invokevirtual 60, 3) := by decide +kernel
theorem dL_gate_7 : decode cL_gate 7 = .ok (.lastore, 1) := by decide +kernel
theorem dL_gate_8 : decode cL_gate 8 = .ok (.goto 6, 3) := by decide +kernel
theorem dL_gate_11 : decode cL_gate 11 = .ok (.astore_n 3, 1) := by decide +kernel
theorem dL_gate_12 : decode cL_gate 12 = .ok (.iconst 1, 1) := by decide +kernel
theorem dL_gate_13 : decode cL_gate 13 = .ok (.ireturn, 1) := by decide +kernel
theorem dL_gate_14 : decode cL_gate 14 = .ok (.iconst 0, 1) := by decide +kernel
theorem dL_gate_15 : decode cL_gate 15 = .ok (.ireturn, 1) := by decide +kernel
theorem dL_count_0 : decode cL_count 0 = .ok (.aload_n 2, 1) := by decide +kernel
theorem dL_count_1 : decode cL_count 1 = .ok (.iconst 0, 1) := by decide +kernel
theorem dL_count_2 : decode cL_count 2 = .ok (.aload_n 0, 1) := by decide +kernel
theorem dL_count_3 : decode cL_count 3 = .ok (.iload_n 1, 1) := by decide +kernel
theorem dL_count_4 : decode cL_count 4 = .ok (.invokevirtual 63, 3) := by decide +kernel
theorem dL_count_7 : decode cL_count 7 = .ok (.i2l, 1) := by decide +kernel
theorem dL_count_8 : decode cL_count 8 = .ok (.lastore, 1) := by decide +kernel
theorem dL_count_9 : decode cL_count 9 = .ok (.goto 6, 3) := by decide +kernel
theorem dL_count_12 : decode cL_count 12 = .ok (.astore_n 3, 1) := by decide +kernel
theorem dL_count_13 : decode cL_count 13 = .ok (.iconst 1, 1) := by decide +kernel
theorem dL_count_14 : decode cL_count 14 = .ok (.ireturn, 1) := by decide +kernel
theorem dL_count_15 : decode cL_count 15 = .ok (.iconst 0, 1) := by decide +kernel
theorem dL_count_16 : decode cL_count 16 = .ok (.ireturn, 1) := by decide +kernel
theorem dL_law_0 : decode cL_law 0 = .ok (.new 8, 3) := by decide +kernel
theorem dL_law_3 : decode cL_law 3 = .ok (.dup, 1) := by decide +kernel
theorem dL_law_4 : decode cL_law 4 = .ok (.aload_n 0, 1) := by decide +kernel
theorem dL_law_5 : decode cL_law 5 = .ok (.iconst 0, 1) := by decide +kernel
theorem dL_law_6 : decode cL_law 6 = .ok (.invokestatic 66, 3) := by decide +kernel
theorem dL_law_9 : decode cL_law 9 = .ok (.invokespecial 72, 3) := by decide +kernel
theorem dL_law_12 : decode cL_law 12 = .ok (.astore_n 1, 1) := by decide +kernel
theorem dL_law_13 : decode cL_law 13 = .ok (.new 75, 3) := by decide +kernel
theorem dL_law_16 : decode cL_law 16 = .ok (.dup, 1) := by decide +kernel
theorem dL_law_17 : decode cL_law 17 = .ok (.aload_n 0, 1) := by decide +kernel
theorem dL_law_18 : decode cL_law 18 = .ok (.iconst 0, 1) := by decide +kernel
theorem dL_law_19 : decode cL_law 19 = .ok (.invokestatic 66, 3) := by decide +kernel
theorem dL_law_22 : decode cL_law 22 = .ok (.invokespecial 77, 3) := by decide +kernel
theorem dL_law_25 : decode cL_law 25 = .ok (.astore_n 2, 1) := by decide +kernel
theorem dL_law_26 : decode cL_law 26 = .ok (.iconst 1, 1) := by decide +kernel
theorem dL_law_27 : decode cL_law 27 = .ok (.newarray .long, 2) := by decide +kernel
theorem dL_law_29 : decode cL_law 29 = .ok (.astore_n 3, 1) := by decide +kernel
theorem dL_law_30 : decode cL_law 30 = .ok (.iconst 1, 1) := by decide +kernel
theorem dL_law_31 : decode cL_law 31 = .ok (.istore 4, 2) := by decide +kernel
theorem dL_law_33 : decode cL_law 33 = .ok (.iload 4, 2) := by decide +kernel
theorem dL_law_35 : decode cL_law 35 = .ok (.aload_n 0, 1) := by decide +kernel
theorem dL_law_36 : decode cL_law 36 = .ok (.arraylength, 1) := by decide +kernel
theorem dL_law_37 : decode cL_law 37 = .ok (.bipush 6, 2) := by decide +kernel
theorem dL_law_39 : decode cL_law 39 = .ok (.isub, 1) := by decide +kernel
theorem dL_law_40 : decode cL_law 40 = .ok (.if_icmp .gt 1393, 3) := by decide +kernel
theorem dL_law_43 : decode cL_law 43 = .ok (.aload_n 0, 1) := by decide +kernel
theorem dL_law_44 : decode cL_law 44 = .ok (.iload 4, 2) := by decide +kernel
theorem dL_law_46 : decode cL_law 46 = .ok (.iaload, 1) := by decide +kernel
theorem dL_law_47 : decode cL_law 47 = .ok (.bipush 31, 2) := by decide +kernel
theorem dL_law_49 : decode cL_law 49 = .ok (.iand, 1) := by decide +kernel
theorem dL_law_50 : decode cL_law 50 = .ok (.tableswitch 1377 0 23 #[110, 210, 342, 442, 455, 468, 512, 568, 635, 648, 703, 717, 731, 789, 877, 1036, 1092, 1106, 1161, 1174, 1242, 1255, 1310, 1366], 110) := by decide +kernel
theorem dL_law_160 : decode cL_law 160 = .ok (.aload_n 1, 1) := by decide +kernel
theorem dL_law_161 : decode cL_law 161 = .ok (.aload_n 0, 1) := by decide +kernel
theorem dL_law_162 : decode cL_law 162 = .ok (.iload 4, 2) := by decide +kernel
theorem dL_law_164 : decode cL_law 164 = .ok (.iconst 1, 1) := by decide +kernel
theorem dL_law_165 : decode cL_law 165 = .ok (.iadd, 1) := by decide +kernel
theorem dL_law_166 : decode cL_law 166 = .ok (.iaload, 1) := by decide +kernel
theorem dL_law_167 : decode cL_law 167 = .ok (.i2l, 1) := by decide +kernel
theorem dL_law_168 : decode cL_law 168 = .ok (.bipush 32, 2) := by decide +kernel
theorem dL_law_170 : decode cL_law 170 = .ok (.lshl, 1) := by decide +kernel
theorem dL_law_171 : decode cL_law 171 = .ok (.aload_n 0, 1) := by decide +kernel
theorem dL_law_172 : decode cL_law 172 = .ok (.iload 4, 2) := by decide +kernel
theorem dL_law_174 : decode cL_law 174 = .ok (.iconst 2, 1) := by decide +kernel
theorem dL_law_175 : decode cL_law 175 = .ok (.iadd, 1) := by decide +kernel
theorem dL_law_176 : decode cL_law 176 = .ok (.iaload, 1) := by decide +kernel
theorem dL_law_177 : decode cL_law 177 = .ok (.i2l, 1) := by decide +kernel
theorem dL_law_178 : decode cL_law 178 = .ok (.ldc2_w 78, 3) := by decide +kernel
theorem dL_law_181 : decode cL_law 181 = .ok (.land, 1) := by decide +kernel
theorem dL_law_182 : decode cL_law 182 = .ok (.lor, 1) := by decide +kernel
theorem dL_law_183 : decode cL_law 183 = .ok (.aload_n 0, 1) := by decide +kernel
theorem dL_law_184 : decode cL_law 184 = .ok (.iload 4, 2) := by decide +kernel
theorem dL_law_186 : decode cL_law 186 = .ok (.iconst 3, 1) := by decide +kernel
theorem dL_law_187 : decode cL_law 187 = .ok (.iadd, 1) := by decide +kernel
theorem dL_law_188 : decode cL_law 188 = .ok (.iaload, 1) := by decide +kernel
theorem dL_law_189 : decode cL_law 189 = .ok (.aload_n 3, 1) := by decide +kernel
theorem dL_law_190 : decode cL_law 190 = .ok (.invokestatic 80, 3) := by decide +kernel
theorem dL_law_193 : decode cL_law 193 = .ok (.istore 5, 2) := by decide +kernel
theorem dL_law_195 : decode cL_law 195 = .ok (.aload_n 2, 1) := by decide +kernel
theorem dL_law_196 : decode cL_law 196 = .ok (.aload_n 0, 1) := by decide +kernel
theorem dL_law_197 : decode cL_law 197 = .ok (.iload 4, 2) := by decide +kernel
theorem dL_law_199 : decode cL_law 199 = .ok (.iconst 1, 1) := by decide +kernel
theorem dL_law_200 : decode cL_law 200 = .ok (.iadd, 1) := by decide +kernel
theorem dL_law_201 : decode cL_law 201 = .ok (.iaload, 1) := by decide +kernel
theorem dL_law_202 : decode cL_law 202 = .ok (.i2l, 1) := by decide +kernel
theorem dL_law_203 : decode cL_law 203 = .ok (.bipush 32, 2) := by decide +kernel
theorem dL_law_205 : decode cL_law 205 = .ok (.lshl, 1) := by decide +kernel
theorem dL_law_206 : decode cL_law 206 = .ok (.aload_n 0, 1) := by decide +kernel
theorem dL_law_207 : decode cL_law 207 = .ok (.iload 4, 2) := by decide +kernel
theorem dL_law_209 : decode cL_law 209 = .ok (.iconst 2, 1) := by decide +kernel
theorem dL_law_210 : decode cL_law 210 = .ok (.iadd, 1) := by decide +kernel
theorem dL_law_211 : decode cL_law 211 = .ok (.iaload, 1) := by decide +kernel
theorem dL_law_212 : decode cL_law 212 = .ok (.i2l, 1) := by decide +kernel
theorem dL_law_213 : decode cL_law 213 = .ok (.ldc2_w 78, 3) := by decide +kernel
theorem dL_law_216 : decode cL_law 216 = .ok (.land, 1) := by decide +kernel
theorem dL_law_217 : decode cL_law 217 = .ok (.lor, 1) := by decide +kernel
theorem dL_law_218 : decode cL_law 218 = .ok (.aload_n 0, 1) := by decide +kernel
theorem dL_law_219 : decode cL_law 219 = .ok (.iload 4, 2) := by decide +kernel
theorem dL_law_221 : decode cL_law 221 = .ok (.iconst 3, 1) := by decide +kernel
theorem dL_law_222 : decode cL_law 222 = .ok (.iadd, 1) := by decide +kernel
theorem dL_law_223 : decode cL_law 223 = .ok (.iaload, 1) := by decide +kernel
theorem dL_law_224 : decode cL_law 224 = .ok (.invokevirtual 83, 3) := by decide +kernel
theorem dL_law_227 : decode cL_law 227 = .ok (.istore 6, 2) := by decide +kernel
theorem dL_law_229 : decode cL_law 229 = .ok (.aload_n 2, 1) := by decide +kernel
theorem dL_law_230 : decode cL_law 230 = .ok (.invokevirtual 84, 3) := by decide +kernel
theorem dL_law_233 : decode cL_law 233 = .ok (.iload 5, 2) := by decide +kernel
theorem dL_law_235 : decode cL_law 235 = .ok (.if_icmp .eq 5, 3) := by decide +kernel
theorem dL_law_238 : decode cL_law 238 = .ok (.iconst 0, 1) := by decide +kernel
theorem dL_law_239 : decode cL_law 239 = .ok (.ireturn, 1) := by decide +kernel
theorem dL_law_240 : decode cL_law 240 = .ok (.iload 5, 2) := by decide +kernel
theorem dL_law_242 : decode cL_law 242 = .ok (.ifCond .ne 15, 3) := by decide +kernel
theorem dL_law_245 : decode cL_law 245 = .ok (.aload_n 3, 1) := by decide +kernel
theorem dL_law_246 : decode cL_law 246 = .ok (.iconst 0, 1) := by decide +kernel
