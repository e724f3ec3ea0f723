theorem in_X8_makeRows_X8 : ∀ w ∈ wsX80, w ∈ wsX8_makeRows := by decide +kernel
theorem lk_0_X8_makeRows : Cond.fieldLink RX8 172 "ParityClausesModel" "rowCount" "I" ∈ wsX8_makeRows := by decide +kernel
theorem lk_1_X8_makeRows : Cond.fieldLink RX8 175 "ParityClausesModel" "isImpossible" "Z" ∈ wsX8_makeRows := by decide +kernel
theorem lk_2_X8_makeRows : Cond.fieldLink RX8 98 "ParityClausesModel" "equations" "I" ∈ wsX8_makeRows := by decide +kernel
theorem lk_3_X8_makeRows : Cond.fieldLink RX8 7 "ParityClausesModel" "eSet" "[J" ∈ wsX8_makeRows := by decide +kernel
theorem lk_4_X8_makeRows : Cond.constantLong RX8 68 (-1) ∈ wsX8_makeRows := by decide +kernel
theorem lk_5_X8_makeRows : Cond.fieldLink RX8 13 "ParityClausesModel" "eRight" "[I" ∈ wsX8_makeRows := by decide +kernel
theorem lk_6_X8_makeRows : Cond.fieldLink RX8 44 "ParityClausesModel" "rSet" "[J" ∈ wsX8_makeRows := by decide +kernel
theorem lk_7_X8_makeRows : Cond.fieldLink RX8 47 "ParityClausesModel" "rRight" "[I" ∈ wsX8_makeRows := by decide +kernel
abbrev rm_X8_makeRows : Room := { frames := 3, cells := 0, slots := 0, locals := 73 }
set_option maxHeartbeats 4000000 in
set_option maxRecDepth 100000 in
theorem cm_X8_makeRows (l : Launch) (D : va_G) (cI cL : ClassId) (q0 q0_eSet q0_eRight q0_rSet q0_rRight : Nat) (n0_eSet n0_eRight n0_rSet n0_rRight : Nat) (f0_equations : Int32) (f0_rowCount : Int32) (f0_isImpossible : Bool) (h0_eSet : Nat → Int64) (h0_eRight : Nat → Int32) (h0_rSet : Nat → Int64) (h0_rRight : Nat → Int32) (v0_thrown v0_n v0_clauses v0_cYes v0_cNo v0_levels v0_levelEquations v0_levelClauses v0_tape v0_tapeSize v0_faultIs v0_faultAt v0_at v0_newEquations v0_newClauses v0_newSet v0_newRight v0_newYes v0_newNo v0_lineYes v0_lineNo v0_sumSet v0_sumOf v0_sumRight v0_empty v0_empties v0_taken v0_ones v0_waitTaken v0_waitOnes v0_nodeCount v0_lastModel v0_modelCount v0_modelIs v0_gSet v0_gateCount : Value) (x1 : Int64) (x3 : Int64) (x5 : Bool) (r0 : Int32 × Bool × (Nat → Int64) × (Nat → Int32)) (hr0 : D_X8_makeRows f0_equations f0_rowCount f0_isImpossible n0_eSet h0_eSet n0_eRight h0_eRight n0_rSet h0_rSet n0_rRight h0_rRight x1 x3 x5 = some r0) (sz : Nat) : Met l yX8_makeRows wsX8_makeRows rm_X8_makeRows (PcW D cI cL [.ref q0, .long x1, .long x3, .int (bI x5)] [(q0, .inr (8, [v0_thrown, v0_n, .int f0_equations, .ref q0_eSet, .ref q0_eRight, v0_clauses, v0_cYes, v0_cNo, v0_levels, v0_levelEquations, v0_levelClauses, v0_tape, v0_tapeSize, v0_faultIs, v0_faultAt, v0_at, v0_newEquations, v0_newClauses, v0_newSet, v0_newRight, v0_newYes, v0_newNo, v0_lineYes, v0_lineNo, .int f0_rowCount, .ref q0_rSet, .ref q0_rRight, .int (bI f0_isImpossible), v0_sumSet, v0_sumOf, v0_sumRight, v0_empty, v0_empties, v0_taken, v0_ones, v0_waitTaken, v0_waitOnes, v0_nodeCount, v0_lastModel, v0_modelCount, v0_modelIs, v0_gSet, v0_gateCount])), (q0_eSet, .inl (cL, n0_eSet, .inr (.inl h0_eSet))), (q0_eRight, .inl (cI, n0_eRight, .inl h0_eRight)), (q0_rSet, .inl (cL, n0_rSet, .inr (.inl h0_rSet))), (q0_rRight, .inl (cI, n0_rRight, .inl h0_rRight))] sz) (QvW D [(q0, .inr (8, [v0_thrown, v0_n, .int f0_equations, .ref q0_eSet, .ref q0_eRight, v0_clauses, v0_cYes, v0_cNo, v0_levels, v0_levelEquations, v0_levelClauses, v0_tape, v0_tapeSize, v0_faultIs, v0_faultAt, v0_at, v0_newEquations, v0_newClauses, v0_newSet, v0_newRight, v0_newYes, v0_newNo, v0_lineYes, v0_lineNo, .int f0_rowCount, .ref q0_rSet, .ref q0_rRight, .int (bI f0_isImpossible), v0_sumSet, v0_sumOf, v0_sumRight, v0_empty, v0_empties, v0_taken, v0_ones, v0_waitTaken, v0_waitOnes, v0_nodeCount, v0_lastModel, v0_modelCount, v0_modelIs, v0_gSet, v0_gateCount])), (q0_eSet, .inl (cL, n0_eSet, .inr (.inl h0_eSet))), (q0_eRight, .inl (cI, n0_eRight, .inl h0_eRight)), (q0_rSet, .inl (cL, n0_rSet, .inr (.inl h0_rSet))), (q0_rRight, .inl (cI, n0_rRight, .inl h0_rRight))] (fun _ : Unit => [(q0, .inr (8, [v0_thrown, v0_n, .int f0_equations, .ref q0_eSet, .ref q0_eRight, v0_clauses, v0_cYes, v0_cNo, v0_levels, v0_levelEquations, v0_levelClauses, v0_tape, v0_tapeSize, v0_faultIs, v0_faultAt, v0_at, v0_newEquations, v0_newClauses, v0_newSet, v0_newRight, v0_newYes, v0_newNo, v0_lineYes, v0_lineNo, .int r0.1, .ref q0_rSet, .ref q0_rRight, .int (bI r0.2.1), v0_sumSet, v0_sumOf, v0_sumRight, v0_empty, v0_empties, v0_taken, v0_ones, v0_waitTaken, v0_waitOnes, v0_nodeCount, v0_lastModel, v0_modelCount, v0_modelIs, v0_gSet, v0_gateCount])), (q0_eSet, .inl (cL, n0_eSet, .inr (.inl h0_eSet))), (q0_eRight, .inl (cI, n0_eRight, .inl h0_eRight)), (q0_rSet, .inl (cL, n0_rSet, .inr (.inl r0.2.2.1))), (q0_rRight, .inl (cI, n0_rRight, .inl r0.2.2.2))]) tU sz) 0 0 (va_A [(q0, .inr (8, [v0_thrown, v0_n, .int f0_equations, .ref q0_eSet, .ref q0_eRight, v0_clauses, v0_cYes, v0_cNo, v0_levels, v0_levelEquations, v0_levelClauses, v0_tape, v0_tapeSize, v0_faultIs, v0_faultAt, v0_at, v0_newEquations, v0_newClauses, v0_newSet, v0_newRight, v0_newYes, v0_newNo, v0_lineYes, v0_lineNo, .int f0_rowCount, .ref q0_rSet, .ref q0_rRight, .int (bI f0_isImpossible), v0_sumSet, v0_sumOf, v0_sumRight, v0_empty, v0_empties, v0_taken, v0_ones, v0_waitTaken, v0_waitOnes, v0_nodeCount, v0_lastModel, v0_modelCount, v0_modelIs, v0_gSet, v0_gateCount])), (q0_eSet, .inl (cL, n0_eSet, .inr (.inl h0_eSet))), (q0_eRight, .inl (cI, n0_eRight, .inl h0_eRight)), (q0_rSet, .inl (cL, n0_rSet, .inr (.inl h0_rSet))), (q0_rRight, .inl (cI, n0_rRight, .inl h0_rRight))] sz) := by
  refine Met.ofW (cc := cX8_makeRows) (maxL := 11) (ret := none) (by decide) rfl ?_
  intro p e s m args below meth c s₁ B hml hv
  obtain ⟨hargs, hsz, hP, hEV, hD0⟩ := hv
  have hx := B.exec
  have hb := B.bytes
  have hr := B.returns
  have hts := atoms_spec (ws := wsX8_makeRows) B.pre
  have hown : s.vm.findClass RX8 = some m.cls := findClass_of_methodNamed B.named
  have hlocks := B.notSynchronized
  have hK := hEV.K
  have lk_0 := hts _ lk_0_X8_makeRows
  have lk_1 := hts _ lk_1_X8_makeRows
  have lk_2 := hts _ lk_2_X8_makeRows
  have lk_3 := hts _ lk_3_X8_makeRows
  have lk_4 := hts _ lk_4_X8_makeRows
  have lk_5 := hts _ lk_5_X8_makeRows
  have lk_6 := hts _ lk_6_X8_makeRows
  have lk_7 := hts _ lk_7_X8_makeRows
  subst hsz
  unfold QvW PoW
  have hD := hD0.self (sz := s.heap.size)
  generalize hAe : va_A [(q0, .inr (8, [v0_thrown, v0_n, .int f0_equations, .ref q0_eSet, .ref q0_eRight, v0_clauses, v0_cYes, v0_cNo, v0_levels, v0_levelEquations, v0_levelClauses, v0_tape, v0_tapeSize, v0_faultIs, v0_faultAt, v0_at, v0_newEquations, v0_newClauses, v0_newSet, v0_newRight, v0_newYes, v0_newNo, v0_lineYes, v0_lineNo, .int f0_rowCount, .ref q0_rSet, .ref q0_rRight, .int (bI f0_isImpossible), v0_sumSet, v0_sumOf, v0_sumRight, v0_empty, v0_empties, v0_taken, v0_ones, v0_waitTaken, v0_waitOnes, v0_nodeCount, v0_lastModel, v0_modelCount, v0_modelIs, v0_gSet, v0_gateCount])), (q0_eSet, .inl (cL, n0_eSet, .inr (.inl h0_eSet))), (q0_eRight, .inl (cI, n0_eRight, .inl h0_eRight)), (q0_rSet, .inl (cL, n0_rSet, .inr (.inl h0_rSet))), (q0_rRight, .inl (cI, n0_rRight, .inl h0_rRight))] s.heap.size = A at hD ⊢
  have hA : ∀ q : Nat, s.heap.size ≤ q → A q := fun q h => by rw [← hAe]; exact Or.inr h
  have hent : entryFrame m args 11 = entryFrame m ([.ref q0, .long x1, .long x3, .int (bI x5)] : List Value).toArray 11 := by rw [hargs]
  rw [hent]
  refine kx_Q (fun Q hQ => ?_)
  refine kx_H (fun H hH => ?_)
  have hP : va_P D vwCl [(q0, .inr (8, [v0_thrown, v0_n, .int f0_equations, .ref q0_eSet, .ref q0_eRight, v0_clauses, v0_cYes, v0_cNo, v0_levels, v0_levelEquations, v0_levelClauses, v0_tape, v0_tapeSize, v0_faultIs, v0_faultAt, v0_at, v0_newEquations, v0_newClauses, v0_newSet, v0_newRight, v0_newYes, v0_newNo, v0_lineYes, v0_lineNo, .int f0_rowCount, .ref q0_rSet, .ref q0_rRight, .int (bI f0_isImpossible), v0_sumSet, v0_sumOf, v0_sumRight, v0_empty, v0_empties, v0_taken, v0_ones, v0_waitTaken, v0_waitOnes, v0_nodeCount, v0_lastModel, v0_modelCount, v0_modelIs, v0_gSet, v0_gateCount])), (q0_eSet, .inl (cL, n0_eSet, .inr (.inl h0_eSet))), (q0_eRight, .inl (cI, n0_eRight, .inl h0_eRight)), (q0_rSet, .inl (cL, n0_rSet, .inr (.inl h0_rSet))), (q0_rRight, .inl (cI, n0_rRight, .inl h0_rRight))] H := by rw [hH]; exact hP
  have hS : va_S A s.heap H [] := by rw [hH]; exact va_S.rf
  have hl := lv_entry ([.ref q0, .long x1, .long x3, .int (bI x5)]) (n := 11) (Nat.le_of_ble_eq_true rfl)
  rw [lg_entry_eq]
  generalize (lg_sl ([.ref q0, .long x1, .long x3, .int (bI x5)]) ++ List.replicate (11 - (lg_sl ([.ref q0, .long x1, .long x3, .int (bI x5)])).length) Slot.unset).toArray = ls at hl ⊢
  have hl : lv_has ls 11 [(0, .ref q0), (1, .long x1), (3, .long x3), (5, .int (bI x5))] := hl
  have hloop : ∀ n9 : Nat, (∀ (x6 : Int32) (f0_rowCount : Int32) (f0_isImpossible : Bool) (h0_rSet : Nat → Int64) (h0_rRight : Nat → Int32), iter (st_X8_makeRows f0_equations n0_eSet h0_eSet n0_eRight h0_eRight n0_rSet n0_rRight x1 x3 x5) n9 (.inl (x6, f0_rowCount, f0_isImpossible, h0_rSet, h0_rRight)) = some r0 → ∀ (H : Heap) (locs : List Loc) (ls : Array Slot), va_P D vwCl [(q0, .inr (8, [v0_thrown, v0_n, .int f0_equations, .ref q0_eSet, .ref q0_eRight, v0_clauses, v0_cYes, v0_cNo, v0_levels, v0_levelEquations, v0_levelClauses, v0_tape, v0_tapeSize, v0_faultIs, v0_faultAt, v0_at, v0_newEquations, v0_newClauses, v0_newSet, v0_newRight, v0_newYes, v0_newNo, v0_lineYes, v0_lineNo, .int f0_rowCount, .ref q0_rSet, .ref q0_rRight, .int (bI f0_isImpossible), v0_sumSet, v0_sumOf, v0_sumRight, v0_empty, v0_empties, v0_taken, v0_ones, v0_waitTaken, v0_waitOnes, v0_nodeCount, v0_lastModel, v0_modelCount, v0_modelIs, v0_gSet, v0_gateCount])), (q0_eSet, .inl (cL, n0_eSet, .inr (.inl h0_eSet))), (q0_eRight, .inl (cI, n0_eRight, .inl h0_eRight)), (q0_rSet, .inl (cL, n0_rSet, .inr (.inl h0_rSet))), (q0_rRight, .inl (cI, n0_rRight, .inl h0_rRight))] H → va_D A [(q0, .inr (8, [v0_thrown, v0_n, .int f0_equations, .ref q0_eSet, .ref q0_eRight, v0_clauses, v0_cYes, v0_cNo, v0_levels, v0_levelEquations, v0_levelClauses, v0_tape, v0_tapeSize, v0_faultIs, v0_faultAt, v0_at, v0_newEquations, v0_newClauses, v0_newSet, v0_newRight, v0_newYes, v0_newNo, v0_lineYes, v0_lineNo, .int f0_rowCount, .ref q0_rSet, .ref q0_rRight, .int (bI f0_isImpossible), v0_sumSet, v0_sumOf, v0_sumRight, v0_empty, v0_empties, v0_taken, v0_ones, v0_waitTaken, v0_waitOnes, v0_nodeCount, v0_lastModel, v0_modelCount, v0_modelIs, v0_gSet, v0_gateCount])), (q0_eSet, .inl (cL, n0_eSet, .inr (.inl h0_eSet))), (q0_eRight, .inl (cI, n0_eRight, .inl h0_eRight)), (q0_rSet, .inl (cL, n0_rSet, .inr (.inl h0_rSet))), (q0_rRight, .inl (cI, n0_rRight, .inl h0_rRight))] → va_S A s.heap H locs → lv_has ls 11 [(0, .ref q0), (1, .long x1), (3, .long x3), (5, .int (bI x5)), (6, .int x6)] → W p l e (headSpec wsX8_makeRows rm_X8_makeRows).room s m args below meth c H locs 0 0 Q (F0 m 13 ls [])) ∧ (∀ (x6 : Int32) (x7 : Int64) (x9 : Int32) (x10 : Int32) (f0_rowCount : Int32) (f0_isImpossible : Bool) (h0_rSet : Nat → Int64) (h0_rRight : Nat → Int32), iter (st_X8_makeRows f0_equations n0_eSet h0_eSet n0_eRight h0_eRight n0_rSet n0_rRight x1 x3 x5) n9 (.inr (x6, x7, x9, x10, f0_rowCount, f0_isImpossible, h0_rSet, h0_rRight)) = some r0 → ∀ (H : Heap) (locs : List Loc) (ls : Array Slot), va_P D vwCl [(q0, .inr (8, [v0_thrown, v0_n, .int f0_equations, .ref q0_eSet, .ref q0_eRight, v0_clauses, v0_cYes, v0_cNo, v0_levels, v0_levelEquations, v0_levelClauses, v0_tape, v0_tapeSize, v0_faultIs, v0_faultAt, v0_at, v0_newEquations, v0_newClauses, v0_newSet, v0_newRight, v0_newYes, v0_newNo, v0_lineYes, v0_lineNo, .int f0_rowCount, .ref q0_rSet, .ref q0_rRight, .int (bI f0_isImpossible), v0_sumSet, v0_sumOf, v0_sumRight, v0_empty, v0_empties, v0_taken, v0_ones, v0_waitTaken, v0_waitOnes, v0_nodeCount, v0_lastModel, v0_modelCount, v0_modelIs, v0_gSet, v0_gateCount])), (q0_eSet, .inl (cL, n0_eSet, .inr (.inl h0_eSet))), (q0_eRight, .inl (cI, n0_eRight, .inl h0_eRight)), (q0_rSet, .inl (cL, n0_rSet, .inr (.inl h0_rSet))), (q0_rRight, .inl (cI, n0_rRight, .inl h0_rRight))] H → va_D A [(q0, .inr (8, [v0_thrown, v0_n, .int f0_equations, .ref q0_eSet, .ref q0_eRight, v0_clauses, v0_cYes, v0_cNo, v0_levels, v0_levelEquations, v0_levelClauses, v0_tape, v0_tapeSize, v0_faultIs, v0_faultAt, v0_at, v0_newEquations, v0_newClauses, v0_newSet, v0_newRight, v0_newYes, v0_newNo, v0_lineYes, v0_lineNo, .int f0_rowCount, .ref q0_rSet, .ref q0_rRight, .int (bI f0_isImpossible), v0_sumSet, v0_sumOf, v0_sumRight, v0_empty, v0_empties, v0_taken, v0_ones, v0_waitTaken, v0_waitOnes, v0_nodeCount, v0_lastModel, v0_modelCount, v0_modelIs, v0_gSet, v0_gateCount])), (q0_eSet, .inl (cL, n0_eSet, .inr (.inl h0_eSet))), (q0_eRight, .inl (cI, n0_eRight, .inl h0_eRight)), (q0_rSet, .inl (cL, n0_rSet, .inr (.inl h0_rSet))), (q0_rRight, .inl (cI, n0_rRight, .inl h0_rRight))] → va_S A s.heap H locs → lv_has ls 11 [(0, .ref q0), (1, .long x1), (3, .long x3), (5, .int (bI x5)), (6, .int x6), (7, .long x7), (9, .int x9), (10, .int x10)] → W p l e (headSpec wsX8_makeRows rm_X8_makeRows).room s m args below meth c H locs 0 0 Q (F0 m 62 ls [])) := by
    intro n9
    induction n9 with
    | zero => exact ⟨(fun _ _ _ _ _ h => nomatch h), (fun _ _ _ _ _ _ _ _ h => nomatch h)⟩
    | succ n9 ih =>
      refine ⟨?_, ?_⟩
      · intro x6 f0_rowCount f0_isImpossible h0_rSet h0_rRight h H locs ls hP hD hS hl
        have h : run1 (iter (st_X8_makeRows f0_equations n0_eSet h0_eSet n0_eRight h0_eRight n0_rSet n0_rRight x1 x3 x5) n9) (b_X8_makeRows_13 f0_equations n0_eSet h0_eSet n0_eRight h0_eRight n0_rSet n0_rRight x1 x3 x5 x6 f0_rowCount f0_isImpossible h0_rSet h0_rRight) = some r0 := h
        unfold b_X8_makeRows_13 at h
        refine lv_iload hx hb dX8_makeRows_13 (lv_at hl 4 rfl) ?_
        refine lv_aload_n hx hb dX8_makeRows_15 rfl (lv_at hl 0 rfl) ?_
        refine va_get (D := D) (ci := 8) (v := .int f0_equations) (C := RX8) (T := TX8) (N := 43) hx hb hts in_X8_makeRows_X8 hown hK hP 0 rfl rfl 2 (by decide) lk_2 (fun _ h9 => h9) rfl dX8_makeRows_16 ?_
        refine lv_icmp_ge (tgt := 154) hx hb dX8_makeRows_19 (by decide) (fun c_1 => ?_) (fun c_1 => ?_)
        · have k_2 : f0_equations ≤ x6 := c_1
          have h := cw_t k_2 h
          refine lv_aload_n hx hb dX8_makeRows_154 rfl (lv_at hl 0 rfl) ?_
          refine lv_aload_n hx hb dX8_makeRows_155 rfl (lv_at hl 0 rfl) ?_
          refine va_get (D := D) (ci := 8) (v := .int (bI f0_isImpossible)) (C := RX8) (T := TX8) (N := 43) hx hb hts in_X8_makeRows_X8 hown hK hP 0 rfl rfl 27 (by decide) lk_1 (fun _ h9 => h9) rfl dX8_makeRows_156 ?_
          refine lv_if_eq (tgt := 166) hx hb dX8_makeRows_159 (by decide) (fun c_3 => ?_) (fun c_3 => ?_)
          · have k_4 : ¬ (f0_isImpossible = true) := (kx_z c_3)
            have h := cw_f k_4 h
            refine lv_aload_n hx hb dX8_makeRows_166 rfl (lv_at hl 0 rfl) ?_
            refine va_get (D := D) (ci := 8) (v := .int f0_rowCount) (C := RX8) (T := TX8) (N := 43) hx hb hts in_X8_makeRows_X8 hown hK hP 0 rfl rfl 24 (by decide) lk_0 (fun _ h9 => h9) rfl dX8_makeRows_167 ?_
            refine va_put (D := D) (ci := 8) (v := .int f0_rowCount) (ty := .int) (C := RX8) (T := TX8) (N := 43) hx hb hts in_X8_makeRows_X8 tyX8 tyX8_ok nmX8 hown hK hP hD hS 0 rfl rfl 24 (by decide) lk_0 (fun _ h9 => h9) rfl (by decide +kernel) rfl rfl (Nat.le_of_ble_eq_true rfl) dX8_makeRows_170 (fun H locs hP hD hS => ?_)
            have hP : va_P D vwCl [(q0, .inr (8, [v0_thrown, v0_n, .int f0_equations, .ref q0_eSet, .ref q0_eRight, v0_clauses, v0_cYes, v0_cNo, v0_levels, v0_levelEquations, v0_levelClauses, v0_tape, v0_tapeSize, v0_faultIs, v0_faultAt, v0_at, v0_newEquations, v0_newClauses, v0_newSet, v0_newRight, v0_newYes, v0_newNo, v0_lineYes, v0_lineNo, .int f0_rowCount, .ref q0_rSet, .ref q0_rRight, .int (bI f0_isImpossible), v0_sumSet, v0_sumOf, v0_sumRight, v0_empty, v0_empties, v0_taken, v0_ones, v0_waitTaken, v0_waitOnes, v0_nodeCount, v0_lastModel, v0_modelCount, v0_modelIs, v0_gSet, v0_gateCount])), (q0_eSet, .inl (cL, n0_eSet, .inr (.inl h0_eSet))), (q0_eRight, .inl (cI, n0_eRight, .inl h0_eRight)), (q0_rSet, .inl (cL, n0_rSet, .inr (.inl h0_rSet))), (q0_rRight, .inl (cI, n0_rRight, .inl h0_rRight))] H := hP
            have hD : va_D A [(q0, .inr (8, [v0_thrown, v0_n, .int f0_equations, .ref q0_eSet, .ref q0_eRight, v0_clauses, v0_cYes, v0_cNo, v0_levels, v0_levelEquations, v0_levelClauses, v0_tape, v0_tapeSize, v0_faultIs, v0_faultAt, v0_at, v0_newEquations, v0_newClauses, v0_newSet, v0_newRight, v0_newYes, v0_newNo, v0_lineYes, v0_lineNo, .int f0_rowCount, .ref q0_rSet, .ref q0_rRight, .int (bI f0_isImpossible), v0_sumSet, v0_sumOf, v0_sumRight, v0_empty, v0_empties, v0_taken, v0_ones, v0_waitTaken, v0_waitOnes, v0_nodeCount, v0_lastModel, v0_modelCount, v0_modelIs, v0_gSet, v0_gateCount])), (q0_eSet, .inl (cL, n0_eSet, .inr (.inl h0_eSet))), (q0_eRight, .inl (cI, n0_eRight, .inl h0_eRight)), (q0_rSet, .inl (cL, n0_rSet, .inr (.inl h0_rSet))), (q0_rRight, .inl (cI, n0_rRight, .inl h0_rRight))] := hD
            have h := Option.some.inj h
            subst h
            subst hQ
            exact W.vret hx hb hr (fun t ht hW => ⟨⟨(), rfl, trivial, by rw [ht]; exact hP, hD⟩, hS.F ht⟩) hS.2.2 dX8_makeRows_173
          · have k_4 : f0_isImpossible = true := (kx_nz c_3)
            have h := cw_t k_4 h
            refine lv_iconst (v := (0 : Int32)) hx hb dX8_makeRows_162 (by decide) ?_
            refine lv_goto (tgt := 170) hx hb dX8_makeRows_163 (by decide) ?_
            refine va_put (D := D) (ci := 8) (v := .int (0 : Int32)) (ty := .int) (C := RX8) (T := TX8) (N := 43) hx hb hts in_X8_makeRows_X8 tyX8 tyX8_ok nmX8 hown hK hP hD hS 0 rfl rfl 24 (by decide) lk_0 (fun _ h9 => h9) rfl (by decide +kernel) rfl rfl (Nat.le_of_ble_eq_true rfl) dX8_makeRows_170 (fun H locs hP hD hS => ?_)
            have hP : va_P D vwCl [(q0, .inr (8, [v0_thrown, v0_n, .int f0_equations, .ref q0_eSet, .ref q0_eRight, v0_clauses, v0_cYes, v0_cNo, v0_levels, v0_levelEquations, v0_levelClauses, v0_tape, v0_tapeSize, v0_faultIs, v0_faultAt, v0_at, v0_newEquations, v0_newClauses, v0_newSet, v0_newRight, v0_newYes, v0_newNo, v0_lineYes, v0_lineNo, .int (0 : Int32), .ref q0_rSet, .ref q0_rRight, .int (bI f0_isImpossible), v0_sumSet, v0_sumOf, v0_sumRight, v0_empty, v0_empties, v0_taken, v0_ones, v0_waitTaken, v0_waitOnes, v0_nodeCount, v0_lastModel, v0_modelCount, v0_modelIs, v0_gSet, v0_gateCount])), (q0_eSet, .inl (cL, n0_eSet, .inr (.inl h0_eSet))), (q0_eRight, .inl (cI, n0_eRight, .inl h0_eRight)), (q0_rSet, .inl (cL, n0_rSet, .inr (.inl h0_rSet))), (q0_rRight, .inl (cI, n0_rRight, .inl h0_rRight))] H := hP
            have hD : va_D A [(q0, .inr (8, [v0_thrown, v0_n, .int f0_equations, .ref q0_eSet, .ref q0_eRight, v0_clauses, v0_cYes, v0_cNo, v0_levels, v0_levelEquations, v0_levelClauses, v0_tape, v0_tapeSize, v0_faultIs, v0_faultAt, v0_at, v0_newEquations, v0_newClauses, v0_newSet, v0_newRight, v0_newYes, v0_newNo, v0_lineYes, v0_lineNo, .int (0 : Int32), .ref q0_rSet, .ref q0_rRight, .int (bI f0_isImpossible), v0_sumSet, v0_sumOf, v0_sumRight, v0_empty, v0_empties, v0_taken, v0_ones, v0_waitTaken, v0_waitOnes, v0_nodeCount, v0_lastModel, v0_modelCount, v0_modelIs, v0_gSet, v0_gateCount])), (q0_eSet, .inl (cL, n0_eSet, .inr (.inl h0_eSet))), (q0_eRight, .inl (cI, n0_eRight, .inl h0_eRight)), (q0_rSet, .inl (cL, n0_rSet, .inr (.inl h0_rSet))), (q0_rRight, .inl (cI, n0_rRight, .inl h0_rRight))] := hD
            have h := Option.some.inj h
            subst h
            subst hQ
            exact W.vret hx hb hr (fun t ht hW => ⟨⟨(), rfl, trivial, by rw [ht]; exact hP, hD⟩, hS.F ht⟩) hS.2.2 dX8_makeRows_173
        · have k_2 : ¬ (f0_equations ≤ x6) := c_1
          have h := cw_f k_2 h
          refine lv_aload_n hx hb dX8_makeRows_22 rfl (lv_at hl 0 rfl) ?_
          refine va_get (D := D) (ci := 8) (v := .ref q0_eSet) (C := RX8) (T := TX8) (N := 43) hx hb hts in_X8_makeRows_X8 hown hK hP 0 rfl rfl 3 (by decide) lk_3 (fun _ h9 => h9) rfl dX8_makeRows_23 ?_
          refine lv_iload hx hb dX8_makeRows_26 (lv_at hl 4 rfl) ?_
          obtain ⟨b_5, h⟩ := cw_i h
          refine va_lald hx hb hK hP 1 1 rfl rfl b_5 dX8_makeRows_28 ?_
          refine lv_lload_n hx hb dX8_makeRows_29 rfl (lv_at hl 1 rfl) ?_
          refine lv_ldc2 hx hb hown lk_4 dX8_makeRows_30 ?_
          refine lv_lxor hx hb dX8_makeRows_33 ?_
          refine lv_land hx hb dX8_makeRows_34 ?_
          refine lv_lstore (lv' := [(7, .long ((h0_eSet x6.toNatClampNeg) &&& (x1 ^^^ (-1 : Int64)))), (0, .ref q0), (1, .long x1), (3, .long x3), (5, .int (bI x5)), (6, .int x6)]) hx hb dX8_makeRows_35 hl (by decide) rfl (fun ls hl => ?_)
          refine lv_aload_n hx hb dX8_makeRows_37 rfl (lv_at hl 1 rfl) ?_
          refine va_get (D := D) (ci := 8) (v := .ref q0_eRight) (C := RX8) (T := TX8) (N := 43) hx hb hts in_X8_makeRows_X8 hown hK hP 0 rfl rfl 4 (by decide) lk_5 (fun _ h9 => h9) rfl dX8_makeRows_38 ?_
          refine lv_iload hx hb dX8_makeRows_41 (lv_at hl 5 rfl) ?_
          obtain ⟨b_6, h⟩ := cw_i h
          refine va_iald hx hb hK hP 2 0 rfl rfl b_6 dX8_makeRows_43 ?_
          refine lv_aload_n hx hb dX8_makeRows_44 rfl (lv_at hl 1 rfl) ?_
          refine va_get (D := D) (ci := 8) (v := .ref q0_eSet) (C := RX8) (T := TX8) (N := 43) hx hb hts in_X8_makeRows_X8 hown hK hP 0 rfl rfl 3 (by decide) lk_3 (fun _ h9 => h9) rfl dX8_makeRows_45 ?_
          refine lv_iload hx hb dX8_makeRows_48 (lv_at hl 5 rfl) ?_
          obtain ⟨b_7, h⟩ := cw_i h
          refine va_lald hx hb hK hP 1 1 rfl rfl b_7 dX8_makeRows_50 ?_
          refine lv_lload_n hx hb dX8_makeRows_51 rfl (lv_at hl 3 rfl) ?_
          refine lv_land hx hb dX8_makeRows_52 ?_
          obtain ⟨u_8, hu_9, h⟩ := cw_b h
          refine kx_i (ws' := fun _ => [(q0, .inr (8, [v0_thrown, v0_n, .int f0_equations, .ref q0_eSet, .ref q0_eRight, v0_clauses, v0_cYes, v0_cNo, v0_levels, v0_levelEquations, v0_levelClauses, v0_tape, v0_tapeSize, v0_faultIs, v0_faultAt, v0_at, v0_newEquations, v0_newClauses, v0_newSet, v0_newRight, v0_newYes, v0_newNo, v0_lineYes, v0_lineNo, .int f0_rowCount, .ref q0_rSet, .ref q0_rRight, .int (bI f0_isImpossible), v0_sumSet, v0_sumOf, v0_sumRight, v0_empty, v0_empties, v0_taken, v0_ones, v0_waitTaken, v0_waitOnes, v0_nodeCount, v0_lastModel, v0_modelCount, v0_modelIs, v0_gSet, v0_gateCount])), (q0_eSet, .inl (cL, n0_eSet, .inr (.inl h0_eSet))), (q0_eRight, .inl (cI, n0_eRight, .inl h0_eRight)), (q0_rSet, .inl (cL, n0_rSet, .inr (.inl h0_rSet))), (q0_rRight, .inl (cI, n0_rRight, .inl h0_rRight))]) hP hD hS hA [] [0, 1, 2, 3, 4] [0, 1, 2, 3, 4] rfl rfl (by decide) (by decide) (fun _ => rfl) (by decide) (va_runS (As := [.long ((h0_eSet x6.toNatClampNeg) &&& x3)]) (rest := [.int (h0_eRight x6.toNatClampNeg)]) ⟨hx, hb, hml, hown, hts⟩ (cm_X8_parity l D cI cL (x0 := (h0_eSet x6.toNatClampNeg) &&& x3) (r0 := u_8) (hr0 := hu_9) (sz := H.size)) (va_cwS 1 hts gX8_makeRows_X8_parity rfl rfl rfl (by decide +kernel) ⟨Nat.le_of_ble_eq_true rfl, Nat.le_of_ble_eq_true rfl⟩) (kx_preS hEV hP hD [] rfl (by decide)) rfl rfl hl.1 rfl (lv_room (Nat.le_of_ble_eq_true rfl)) dX8_makeRows_53 ⟨Nat.le_of_ble_eq_true rfl, Nat.le_of_ble_eq_true rfl⟩) (fun _ H locs _ hP hD hS => ?_)
          refine lv_ixor hx hb dX8_makeRows_56 ?_
          refine lv_istore (lv' := [(9, .int ((h0_eRight x6.toNatClampNeg) ^^^ u_8)), (7, .long ((h0_eSet x6.toNatClampNeg) &&& (x1 ^^^ (-1 : Int64)))), (0, .ref q0), (1, .long x1), (3, .long x3), (5, .int (bI x5)), (6, .int x6)]) hx hb dX8_makeRows_57 hl (by decide) rfl (fun ls hl => ?_)
          refine lv_iconst (v := (0 : Int32)) hx hb dX8_makeRows_59 (by decide) ?_
          refine lv_istore (lv' := [(10, .int (0 : Int32)), (9, .int ((h0_eRight x6.toNatClampNeg) ^^^ u_8)), (7, .long ((h0_eSet x6.toNatClampNeg) &&& (x1 ^^^ (-1 : Int64)))), (0, .ref q0), (1, .long x1), (3, .long x3), (5, .int (bI x5)), (6, .int x6)]) hx hb dX8_makeRows_60 hl (by decide) rfl (fun ls hl => ?_)
          exact ih.2 _ _ _ _ _ _ _ _ h _ _ _ hP hD hS (lv_sub hl [3, 4, 5, 6, 7, 2, 1, 0] rfl)
      · intro x6 x7 x9 x10 f0_rowCount f0_isImpossible h0_rSet h0_rRight h H locs ls hP hD hS hl
        have h : run1 (iter (st_X8_makeRows f0_equations n0_eSet h0_eSet n0_eRight h0_eRight n0_rSet n0_rRight x1 x3 x5) n9) (b_X8_makeRows_62 f0_equations n0_eSet h0_eSet n0_eRight h0_eRight n0_rSet n0_rRight x1 x3 x5 x6 x7 x9 x10 f0_rowCount f0_isImpossible h0_rSet h0_rRight) = some r0 := h
        unfold b_X8_makeRows_62 at h
        refine lv_iload hx hb dX8_makeRows_62 (lv_at hl 7 rfl) ?_
        refine lv_aload_n hx hb dX8_makeRows_64 rfl (lv_at hl 0 rfl) ?_
        refine va_get (D := D) (ci := 8) (v := .int f0_rowCount) (C := RX8) (T := TX8) (N := 43) hx hb hts in_X8_makeRows_X8 hown hK hP 0 rfl rfl 24 (by decide) lk_0 (fun _ h9 => h9) rfl dX8_makeRows_65 ?_
        refine lv_icmp_ge (tgt := 117) hx hb dX8_makeRows_68 (by decide) (fun c_10 => ?_) (fun c_10 => ?_)
        · have k_11 : f0_rowCount ≤ x10 := c_10
          have h := cw_t k_11 h
          refine lv_lload hx hb dX8_makeRows_117 (lv_at hl 5 rfl) ?_
          refine lv_lconst (v := (0 : Int64)) hx hb dX8_makeRows_119 (by decide) ?_
          refine W.lcmp hx hb dX8_makeRows_120 ?_
          refine lv_if_eq (tgt := 137) hx hb dX8_makeRows_121 (by decide) (fun c_12 => ?_) (fun c_12 => ?_)
          · have k_13 : x7 = (0 : Int64) := ((lg_cmp_eq _ _).mp c_12)
            have h := cw_t k_13 h
            refine lv_iload hx hb dX8_makeRows_137 (lv_at hl 6 rfl) ?_
            refine lv_iconst (v := (1 : Int32)) hx hb dX8_makeRows_139 (by decide) ?_
            refine lv_icmp_ne (tgt := 148) hx hb dX8_makeRows_140 (by decide) (fun c_14 => ?_) (fun c_14 => ?_)
            · have k_15 : ¬ (x9 = (1 : Int32)) := c_14
              have h := cw_f k_15 h
              refine lv_iinc (v := x6 + (1 : Int32)) (lv' := [(6, .int (x6 + (1 : Int32))), (0, .ref q0), (1, .long x1), (3, .long x3), (5, .int (bI x5)), (7, .long x7), (9, .int x9), (10, .int x10)]) hx hb dX8_makeRows_148 hl (k := 4) rfl rfl (by decide) rfl (fun ls hl => ?_)
              refine lv_goto (tgt := 13) hx hb dX8_makeRows_151 (by decide) ?_
              exact ih.1 _ _ _ _ _ h _ _ _ hP hD hS (lv_sub hl [1, 2, 3, 4, 0] rfl)
            · have k_15 : x9 = (1 : Int32) := c_14
              have h := cw_t k_15 h
              refine lv_aload_n hx hb dX8_makeRows_143 rfl (lv_at hl 0 rfl) ?_
              refine lv_iconst (v := (1 : Int32)) hx hb dX8_makeRows_144 (by decide) ?_
              refine va_put (D := D) (ci := 8) (v := .int (bI true)) (ty := .boolean) (C := RX8) (T := TX8) (N := 43) hx hb hts in_X8_makeRows_X8 tyX8 tyX8_ok nmX8 hown hK hP hD hS 0 rfl rfl 27 (by decide) lk_1 (fun _ h9 => h9) rfl (by decide +kernel) (bI_n true) (bI_fit true) (Nat.le_of_ble_eq_true rfl) dX8_makeRows_145 (fun H locs hP hD hS => ?_)
              have hP : va_P D vwCl [(q0, .inr (8, [v0_thrown, v0_n, .int f0_equations, .ref q0_eSet, .ref q0_eRight, v0_clauses, v0_cYes, v0_cNo, v0_levels, v0_levelEquations, v0_levelClauses, v0_tape, v0_tapeSize, v0_faultIs, v0_faultAt, v0_at, v0_newEquations, v0_newClauses, v0_newSet, v0_newRight, v0_newYes, v0_newNo, v0_lineYes, v0_lineNo, .int f0_rowCount, .ref q0_rSet, .ref q0_rRight, .int (bI true), v0_sumSet, v0_sumOf, v0_sumRight, v0_empty, v0_empties, v0_taken, v0_ones, v0_waitTaken, v0_waitOnes, v0_nodeCount, v0_lastModel, v0_modelCount, v0_modelIs, v0_gSet, v0_gateCount])), (q0_eSet, .inl (cL, n0_eSet, .inr (.inl h0_eSet))), (q0_eRight, .inl (cI, n0_eRight, .inl h0_eRight)), (q0_rSet, .inl (cL, n0_rSet, .inr (.inl h0_rSet))), (q0_rRight, .inl (cI, n0_rRight, .inl h0_rRight))] H := hP
              have hD : va_D A [(q0, .inr (8, [v0_thrown, v0_n, .int f0_equations, .ref q0_eSet, .ref q0_eRight, v0_clauses, v0_cYes, v0_cNo, v0_levels, v0_levelEquations, v0_levelClauses, v0_tape, v0_tapeSize, v0_faultIs, v0_faultAt, v0_at, v0_newEquations, v0_newClauses, v0_newSet, v0_newRight, v0_newYes, v0_newNo, v0_lineYes, v0_lineNo, .int f0_rowCount, .ref q0_rSet, .ref q0_rRight, .int (bI true), v0_sumSet, v0_sumOf, v0_sumRight, v0_empty, v0_empties, v0_taken, v0_ones, v0_waitTaken, v0_waitOnes, v0_nodeCount, v0_lastModel, v0_modelCount, v0_modelIs, v0_gSet, v0_gateCount])), (q0_eSet, .inl (cL, n0_eSet, .inr (.inl h0_eSet))), (q0_eRight, .inl (cI, n0_eRight, .inl h0_eRight)), (q0_rSet, .inl (cL, n0_rSet, .inr (.inl h0_rSet))), (q0_rRight, .inl (cI, n0_rRight, .inl h0_rRight))] := hD
              refine lv_iinc (v := x6 + (1 : Int32)) (lv' := [(6, .int (x6 + (1 : Int32))), (0, .ref q0), (1, .long x1), (3, .long x3), (5, .int (bI x5)), (7, .long x7), (9, .int x9), (10, .int x10)]) hx hb dX8_makeRows_148 hl (k := 4) rfl rfl (by decide) rfl (fun ls hl => ?_)
              refine lv_goto (tgt := 13) hx hb dX8_makeRows_151 (by decide) ?_
              exact ih.1 _ _ _ _ _ h _ _ _ hP hD hS (lv_sub hl [1, 2, 3, 4, 0] rfl)
          · have k_13 : ¬ (x7 = (0 : Int64)) := (fun z9 => c_12 ((lg_cmp_eq _ _).mpr z9))
            have h := cw_f k_13 h
            refine lv_aload_n hx hb dX8_makeRows_124 rfl (lv_at hl 0 rfl) ?_
            refine lv_lload hx hb dX8_makeRows_125 (lv_at hl 5 rfl) ?_
            refine lv_iload hx hb dX8_makeRows_127 (lv_at hl 6 rfl) ?_
            refine lv_iload hx hb dX8_makeRows_129 (lv_at hl 3 rfl) ?_
            obtain ⟨u_16, hu_17, h⟩ := cw_b h
            refine kx_v (ws' := fun _ => [(q0, .inr (8, [v0_thrown, v0_n, .int f0_equations, .ref q0_eSet, .ref q0_eRight, v0_clauses, v0_cYes, v0_cNo, v0_levels, v0_levelEquations, v0_levelClauses, v0_tape, v0_tapeSize, v0_faultIs, v0_faultAt, v0_at, v0_newEquations, v0_newClauses, v0_newSet, v0_newRight, v0_newYes, v0_newNo, v0_lineYes, v0_lineNo, .int u_16.1, .ref q0_rSet, .ref q0_rRight, .int (bI f0_isImpossible), v0_sumSet, v0_sumOf, v0_sumRight, v0_empty, v0_empties, v0_taken, v0_ones, v0_waitTaken, v0_waitOnes, v0_nodeCount, v0_lastModel, v0_modelCount, v0_modelIs, v0_gSet, v0_gateCount])), (q0_eSet, .inl (cL, n0_eSet, .inr (.inl h0_eSet))), (q0_eRight, .inl (cI, n0_eRight, .inl h0_eRight)), (q0_rSet, .inl (cL, n0_rSet, .inr (.inl u_16.2.1))), (q0_rRight, .inl (cI, n0_rRight, .inl u_16.2.2))]) hP hD hS hA [0, 3, 4] [1, 2] [2, 0, 1, 3, 4] rfl rfl (by decide) (by decide) (fun _ => rfl) (by decide) (va_runV (As := [.long x7, .int x9, .int (bI x5)]) (rest := []) ⟨hx, hb, hml, hown, hts⟩ (cm_X8_putRow l D cI cL (q0 := q0) (q0_rSet := q0_rSet) (q0_rRight := q0_rRight) (n0_rSet := n0_rSet) (n0_rRight := n0_rRight) (f0_rowCount := f0_rowCount) (h0_rSet := h0_rSet) (h0_rRight := h0_rRight) (v0_thrown := v0_thrown) (v0_n := v0_n) (v0_equations := .int f0_equations) (v0_eSet := .ref q0_eSet) (v0_eRight := .ref q0_eRight) (v0_clauses := v0_clauses) (v0_cYes := v0_cYes) (v0_cNo := v0_cNo) (v0_levels := v0_levels) (v0_levelEquations := v0_levelEquations) (v0_levelClauses := v0_levelClauses) (v0_tape := v0_tape) (v0_tapeSize := v0_tapeSize) (v0_faultIs := v0_faultIs) (v0_faultAt := v0_faultAt) (v0_at := v0_at) (v0_newEquations := v0_newEquations) (v0_newClauses := v0_newClauses) (v0_newSet := v0_newSet) (v0_newRight := v0_newRight) (v0_newYes := v0_newYes) (v0_newNo := v0_newNo) (v0_lineYes := v0_lineYes) (v0_lineNo := v0_lineNo) (v0_isImpossible := .int (bI f0_isImpossible)) (v0_sumSet := v0_sumSet) (v0_sumOf := v0_sumOf) (v0_sumRight := v0_sumRight) (v0_empty := v0_empty) (v0_empties := v0_empties) (v0_taken := v0_taken) (v0_ones := v0_ones) (v0_waitTaken := v0_waitTaken) (v0_waitOnes := v0_waitOnes) (v0_nodeCount := v0_nodeCount) (v0_lastModel := v0_lastModel) (v0_modelCount := v0_modelCount) (v0_modelIs := v0_modelIs) (v0_gSet := v0_gSet) (v0_gateCount := v0_gateCount) (x1 := x7) (x3 := x9) (x4 := x5) (r0 := u_16) (hr0 := hu_17) (sz := H.size)) (cwV 3 hts gX8_makeRows_X8_putRow rfl rfl rfl (by decide +kernel) ⟨Nat.le_of_ble_eq_true rfl, Nat.le_of_ble_eq_true rfl⟩) (kx_preV hEV hP hD [0, 3, 4] rfl (by decide) (k0 := 0) (ci := 8) rfl rfl rfl) rfl rfl hl.1 rfl (lv_room (Nat.le_of_ble_eq_true rfl)) dX8_makeRows_131 ⟨Nat.le_of_ble_eq_true rfl, Nat.le_of_ble_eq_true rfl⟩) (fun _ H locs _ hP hD hS => ?_)
            refine lv_goto (tgt := 148) hx hb dX8_makeRows_134 (by decide) ?_
            refine lv_iinc (v := x6 + (1 : Int32)) (lv' := [(6, .int (x6 + (1 : Int32))), (0, .ref q0), (1, .long x1), (3, .long x3), (5, .int (bI x5)), (7, .long x7), (9, .int x9), (10, .int x10)]) hx hb dX8_makeRows_148 hl (k := 4) rfl rfl (by decide) rfl (fun ls hl => ?_)
            refine lv_goto (tgt := 13) hx hb dX8_makeRows_151 (by decide) ?_
            exact ih.1 _ _ _ _ _ h _ _ _ hP hD hS (lv_sub hl [1, 2, 3, 4, 0] rfl)
        · have k_11 : ¬ (f0_rowCount ≤ x10) := c_10
          have h := cw_f k_11 h
          refine lv_lload hx hb dX8_makeRows_71 (lv_at hl 5 rfl) ?_
          refine lv_aload_n hx hb dX8_makeRows_73 rfl (lv_at hl 0 rfl) ?_
          refine lv_iload hx hb dX8_makeRows_74 (lv_at hl 7 rfl) ?_
          refine lv_iload hx hb dX8_makeRows_76 (lv_at hl 3 rfl) ?_
          obtain ⟨u_18, hu_19, h⟩ := cw_b h
          refine kx_l (ws' := fun _ => [(q0, .inr (8, [v0_thrown, v0_n, .int f0_equations, .ref q0_eSet, .ref q0_eRight, v0_clauses, v0_cYes, v0_cNo, v0_levels, v0_levelEquations, v0_levelClauses, v0_tape, v0_tapeSize, v0_faultIs, v0_faultAt, v0_at, v0_newEquations, v0_newClauses, v0_newSet, v0_newRight, v0_newYes, v0_newNo, v0_lineYes, v0_lineNo, .int f0_rowCount, .ref q0_rSet, .ref q0_rRight, .int (bI f0_isImpossible), v0_sumSet, v0_sumOf, v0_sumRight, v0_empty, v0_empties, v0_taken, v0_ones, v0_waitTaken, v0_waitOnes, v0_nodeCount, v0_lastModel, v0_modelCount, v0_modelIs, v0_gSet, v0_gateCount])), (q0_eSet, .inl (cL, n0_eSet, .inr (.inl h0_eSet))), (q0_eRight, .inl (cI, n0_eRight, .inl h0_eRight)), (q0_rSet, .inl (cL, n0_rSet, .inr (.inl h0_rSet))), (q0_rRight, .inl (cI, n0_rRight, .inl h0_rRight))]) hP hD hS hA [0, 3] [1, 2, 4] [3, 0, 1, 4, 2] rfl rfl (by decide) (by decide) (fun _ => rfl) (by decide) (va_runV (As := [.int x10, .int (bI x5)]) (rest := [.long x7]) ⟨hx, hb, hml, hown, hts⟩ (cm_X8_headOf l D cI cL (q0 := q0) (q0_rSet := q0_rSet) (n0_rSet := n0_rSet) (h0_rSet := h0_rSet) (v0_thrown := v0_thrown) (v0_n := v0_n) (v0_equations := .int f0_equations) (v0_eSet := .ref q0_eSet) (v0_eRight := .ref q0_eRight) (v0_clauses := v0_clauses) (v0_cYes := v0_cYes) (v0_cNo := v0_cNo) (v0_levels := v0_levels) (v0_levelEquations := v0_levelEquations) (v0_levelClauses := v0_levelClauses) (v0_tape := v0_tape) (v0_tapeSize := v0_tapeSize) (v0_faultIs := v0_faultIs) (v0_faultAt := v0_faultAt) (v0_at := v0_at) (v0_newEquations := v0_newEquations) (v0_newClauses := v0_newClauses) (v0_newSet := v0_newSet) (v0_newRight := v0_newRight) (v0_newYes := v0_newYes) (v0_newNo := v0_newNo) (v0_lineYes := v0_lineYes) (v0_lineNo := v0_lineNo) (v0_rowCount := .int f0_rowCount) (v0_rRight := .ref q0_rRight) (v0_isImpossible := .int (bI f0_isImpossible)) (v0_sumSet := v0_sumSet) (v0_sumOf := v0_sumOf) (v0_sumRight := v0_sumRight) (v0_empty := v0_empty) (v0_empties := v0_empties) (v0_taken := v0_taken) (v0_ones := v0_ones) (v0_waitTaken := v0_waitTaken) (v0_waitOnes := v0_waitOnes) (v0_nodeCount := v0_nodeCount) (v0_lastModel := v0_lastModel) (v0_modelCount := v0_modelCount) (v0_modelIs := v0_modelIs) (v0_gSet := v0_gSet) (v0_gateCount := v0_gateCount) (x1 := x10) (x2 := x5) (r0 := u_18) (hr0 := hu_19) (sz := H.size)) (cwV 2 hts gX8_makeRows_X8_headOf rfl rfl rfl (by decide +kernel) ⟨Nat.le_of_ble_eq_true rfl, Nat.le_of_ble_eq_true rfl⟩) (kx_preV hEV hP hD [0, 3] rfl (by decide) (k0 := 0) (ci := 8) rfl rfl rfl) rfl rfl hl.1 rfl (lv_room (Nat.le_of_ble_eq_true rfl)) dX8_makeRows_78 ⟨Nat.le_of_ble_eq_true rfl, Nat.le_of_ble_eq_true rfl⟩) (fun _ H locs _ hP hD hS => ?_)
          refine lv_land hx hb dX8_makeRows_81 ?_
          refine lv_lconst (v := (0 : Int64)) hx hb dX8_makeRows_82 (by decide) ?_
          refine W.lcmp hx hb dX8_makeRows_83 ?_
          refine lv_if_eq (tgt := 111) hx hb dX8_makeRows_84 (by decide) (fun c_20 => ?_) (fun c_20 => ?_)
          · have k_21 : (x7 &&& u_18) = (0 : Int64) := ((lg_cmp_eq _ _).mp c_20)
            have h := cw_t k_21 h
            refine lv_iinc (v := x10 + (1 : Int32)) (lv' := [(10, .int (x10 + (1 : Int32))), (0, .ref q0), (1, .long x1), (3, .long x3), (5, .int (bI x5)), (6, .int x6), (7, .long x7), (9, .int x9)]) hx hb dX8_makeRows_111 hl (k := 7) rfl rfl (by decide) rfl (fun ls hl => ?_)
            refine lv_goto (tgt := 62) hx hb dX8_makeRows_114 (by decide) ?_
            exact ih.2 _ _ _ _ _ _ _ _ h _ _ _ hP hD hS (lv_sub hl [1, 2, 3, 4, 5, 6, 7, 0] rfl)
          · have k_21 : ¬ ((x7 &&& u_18) = (0 : Int64)) := (fun z9 => c_20 ((lg_cmp_eq _ _).mpr z9))
            have h := cw_f k_21 h
            refine lv_lload hx hb dX8_makeRows_87 (lv_at hl 5 rfl) ?_
            refine lv_aload_n hx hb dX8_makeRows_89 rfl (lv_at hl 0 rfl) ?_
            refine va_get (D := D) (ci := 8) (v := .ref q0_rSet) (C := RX8) (T := TX8) (N := 43) hx hb hts in_X8_makeRows_X8 hown hK hP 0 rfl rfl 25 (by decide) lk_6 (fun _ h9 => h9) rfl dX8_makeRows_90 ?_
            refine lv_iload hx hb dX8_makeRows_93 (lv_at hl 7 rfl) ?_
            obtain ⟨b_22, h⟩ := cw_i h
            refine va_lald hx hb hK hP 3 1 rfl rfl b_22 dX8_makeRows_95 ?_
            refine lv_lxor hx hb dX8_makeRows_96 ?_
            refine lv_lstore (lv' := [(7, .long (x7 ^^^ (h0_rSet x10.toNatClampNeg))), (0, .ref q0), (1, .long x1), (3, .long x3), (5, .int (bI x5)), (6, .int x6), (9, .int x9), (10, .int x10)]) hx hb dX8_makeRows_97 hl (by decide) rfl (fun ls hl => ?_)
            refine lv_iload hx hb dX8_makeRows_99 (lv_at hl 6 rfl) ?_
            refine lv_aload_n hx hb dX8_makeRows_101 rfl (lv_at hl 1 rfl) ?_
            refine va_get (D := D) (ci := 8) (v := .ref q0_rRight) (C := RX8) (T := TX8) (N := 43) hx hb hts in_X8_makeRows_X8 hown hK hP 0 rfl rfl 26 (by decide) lk_7 (fun _ h9 => h9) rfl dX8_makeRows_102 ?_
            refine lv_iload hx hb dX8_makeRows_105 (lv_at hl 7 rfl) ?_
            obtain ⟨b_23, h⟩ := cw_i h
            refine va_iald hx hb hK hP 4 0 rfl rfl b_23 dX8_makeRows_107 ?_
            refine lv_ixor hx hb dX8_makeRows_108 ?_
            refine lv_istore (lv' := [(9, .int (x9 ^^^ (h0_rRight x10.toNatClampNeg))), (7, .long (x7 ^^^ (h0_rSet x10.toNatClampNeg))), (0, .ref q0), (1, .long x1), (3, .long x3), (5, .int (bI x5)), (6, .int x6), (10, .int x10)]) hx hb dX8_makeRows_109 hl (by decide) rfl (fun ls hl => ?_)
            refine lv_iinc (v := x10 + (1 : Int32)) (lv' := [(10, .int (x10 + (1 : Int32))), (9, .int (x9 ^^^ (h0_rRight x10.toNatClampNeg))), (7, .long (x7 ^^^ (h0_rSet x10.toNatClampNeg))), (0, .ref q0), (1, .long x1), (3, .long x3), (5, .int (bI x5)), (6, .int x6)]) hx hb dX8_makeRows_111 hl (k := 7) rfl rfl (by decide) rfl (fun ls hl => ?_)
            refine lv_goto (tgt := 62) hx hb dX8_makeRows_114 (by decide) ?_
            exact ih.2 _ _ _ _ _ _ _ _ h _ _ _ hP hD hS (lv_sub hl [3, 4, 5, 6, 7, 2, 1, 0] rfl)
  have h := hr0
  unfold D_X8_makeRows at h
  refine lv_aload_n hx hb dX8_makeRows_0 rfl (lv_at hl 0 rfl) ?_
  refine lv_iconst (v := (0 : Int32)) hx hb dX8_makeRows_1 (by decide) ?_
  refine va_put (D := D) (ci := 8) (v := .int (0 : Int32)) (ty := .int) (C := RX8) (T := TX8) (N := 43) hx hb hts in_X8_makeRows_X8 tyX8 tyX8_ok nmX8 hown hK hP hD hS 0 rfl rfl 24 (by decide) lk_0 (fun _ h9 => h9) rfl (by decide +kernel) rfl rfl (Nat.le_of_ble_eq_true rfl) dX8_makeRows_2 (fun H locs hP hD hS => ?_)
  have hP : va_P D vwCl [(q0, .inr (8, [v0_thrown, v0_n, .int f0_equations, .ref q0_eSet, .ref q0_eRight, v0_clauses, v0_cYes, v0_cNo, v0_levels, v0_levelEquations, v0_levelClauses, v0_tape, v0_tapeSize, v0_faultIs, v0_faultAt, v0_at, v0_newEquations, v0_newClauses, v0_newSet, v0_newRight, v0_newYes, v0_newNo, v0_lineYes, v0_lineNo, .int (0 : Int32), .ref q0_rSet, .ref q0_rRight, .int (bI f0_isImpossible), v0_sumSet, v0_sumOf, v0_sumRight, v0_empty, v0_empties, v0_taken, v0_ones, v0_waitTaken, v0_waitOnes, v0_nodeCount, v0_lastModel, v0_modelCount, v0_modelIs, v0_gSet, v0_gateCount])), (q0_eSet, .inl (cL, n0_eSet, .inr (.inl h0_eSet))), (q0_eRight, .inl (cI, n0_eRight, .inl h0_eRight)), (q0_rSet, .inl (cL, n0_rSet, .inr (.inl h0_rSet))), (q0_rRight, .inl (cI, n0_rRight, .inl h0_rRight))] H := hP
  have hD : va_D A [(q0, .inr (8, [v0_thrown, v0_n, .int f0_equations, .ref q0_eSet, .ref q0_eRight, v0_clauses, v0_cYes, v0_cNo, v0_levels, v0_levelEquations, v0_levelClauses, v0_tape, v0_tapeSize, v0_faultIs, v0_faultAt, v0_at, v0_newEquations, v0_newClauses, v0_newSet, v0_newRight, v0_newYes, v0_newNo, v0_lineYes, v0_lineNo, .int (0 : Int32), .ref q0_rSet, .ref q0_rRight, .int (bI f0_isImpossible), v0_sumSet, v0_sumOf, v0_sumRight, v0_empty, v0_empties, v0_taken, v0_ones, v0_waitTaken, v0_waitOnes, v0_nodeCount, v0_lastModel, v0_modelCount, v0_modelIs, v0_gSet, v0_gateCount])), (q0_eSet, .inl (cL, n0_eSet, .inr (.inl h0_eSet))), (q0_eRight, .inl (cI, n0_eRight, .inl h0_eRight)), (q0_rSet, .inl (cL, n0_rSet, .inr (.inl h0_rSet))), (q0_rRight, .inl (cI, n0_rRight, .inl h0_rRight))] := hD
  refine lv_aload_n hx hb dX8_makeRows_5 rfl (lv_at hl 0 rfl) ?_
  refine lv_iconst (v := (0 : Int32)) hx hb dX8_makeRows_6 (by decide) ?_
  refine va_put (D := D) (ci := 8) (v := .int (bI false)) (ty := .boolean) (C := RX8) (T := TX8) (N := 43) hx hb hts in_X8_makeRows_X8 tyX8 tyX8_ok nmX8 hown hK hP hD hS 0 rfl rfl 27 (by decide) lk_1 (fun _ h9 => h9) rfl (by decide +kernel) (bI_n false) (bI_fit false) (Nat.le_of_ble_eq_true rfl) dX8_makeRows_7 (fun H locs hP hD hS => ?_)
  have hP : va_P D vwCl [(q0, .inr (8, [v0_thrown, v0_n, .int f0_equations, .ref q0_eSet, .ref q0_eRight, v0_clauses, v0_cYes, v0_cNo, v0_levels, v0_levelEquations, v0_levelClauses, v0_tape, v0_tapeSize, v0_faultIs, v0_faultAt, v0_at, v0_newEquations, v0_newClauses, v0_newSet, v0_newRight, v0_newYes, v0_newNo, v0_lineYes, v0_lineNo, .int (0 : Int32), .ref q0_rSet, .ref q0_rRight, .int (bI false), v0_sumSet, v0_sumOf, v0_sumRight, v0_empty, v0_empties, v0_taken, v0_ones, v0_waitTaken, v0_waitOnes, v0_nodeCount, v0_lastModel, v0_modelCount, v0_modelIs, v0_gSet, v0_gateCount])), (q0_eSet, .inl (cL, n0_eSet, .inr (.inl h0_eSet))), (q0_eRight, .inl (cI, n0_eRight, .inl h0_eRight)), (q0_rSet, .inl (cL, n0_rSet, .inr (.inl h0_rSet))), (q0_rRight, .inl (cI, n0_rRight, .inl h0_rRight))] H := hP
  have hD : va_D A [(q0, .inr (8, [v0_thrown, v0_n, .int f0_equations, .ref q0_eSet, .ref q0_eRight, v0_clauses, v0_cYes, v0_cNo, v0_levels, v0_levelEquations, v0_levelClauses, v0_tape, v0_tapeSize, v0_faultIs, v0_faultAt, v0_at, v0_newEquations, v0_newClauses, v0_newSet, v0_newRight, v0_newYes, v0_newNo, v0_lineYes, v0_lineNo, .int (0 : Int32), .ref q0_rSet, .ref q0_rRight, .int (bI false), v0_sumSet, v0_sumOf, v0_sumRight, v0_empty, v0_empties, v0_taken, v0_ones, v0_waitTaken, v0_waitOnes, v0_nodeCount, v0_lastModel, v0_modelCount, v0_modelIs, v0_gSet, v0_gateCount])), (q0_eSet, .inl (cL, n0_eSet, .inr (.inl h0_eSet))), (q0_eRight, .inl (cI, n0_eRight, .inl h0_eRight)), (q0_rSet, .inl (cL, n0_rSet, .inr (.inl h0_rSet))), (q0_rRight, .inl (cI, n0_rRight, .inl h0_rRight))] := hD
  refine lv_iconst (v := (0 : Int32)) hx hb dX8_makeRows_10 (by decide) ?_
  refine lv_istore (lv' := [(6, .int (0 : Int32)), (0, .ref q0), (1, .long x1), (3, .long x3), (5, .int (bI x5))]) hx hb dX8_makeRows_11 hl (by decide) rfl (fun ls hl => ?_)
  obtain ⟨n9, hn9⟩ := runw_some h
  exact (hloop n9).1 _ _ _ _ _ hn9 _ _ _ hP hD hS (lv_sub hl [1, 2, 3, 4, 0] rfl)
theorem in_X8_rows_X8 : ∀ w ∈ wsX80, w ∈ wsX8_rows := by decide +kernel
theorem lk_0_X8_rows : Cond.fieldLink RX8 81 "ParityClausesModel" "thrown" "I" ∈ wsX8_rows := by decide +kernel
theorem lk_1_X8_rows : Cond.fieldLink RX8 175 "ParityClausesModel" "isImpossible" "Z" ∈ wsX8_rows := by decide +kernel
theorem lk_2_X8_rows : Cond.fieldLink RX8 172 "ParityClausesModel" "rowCount" "I" ∈ wsX8_rows := by decide +kernel
abbrev rm_X8_rows : Room := { frames := 4, cells := 0, slots := 0, locals := 103 }
set_option maxHeartbeats 4000000 in
set_option maxRecDepth 100000 in
theorem cm_X8_rows (l : Launch) (D : va_G) (cI cL : ClassId) (q0 q0_eSet q0_eRight q0_rSet q0_rRight : Nat) (n0_eSet n0_eRight n0_rSet n0_rRight : Nat) (f0_thrown : Int32) (f0_equations : Int32) (f0_rowCount : Int32) (f0_isImpossible : Bool) (h0_eSet : Nat → Int64) (h0_eRight : Nat → Int32) (h0_rSet : Nat → Int64) (h0_rRight : Nat → Int32) (v0_n v0_clauses v0_cYes v0_cNo v0_levels v0_levelEquations v0_levelClauses v0_tape v0_tapeSize v0_faultIs v0_faultAt v0_at v0_newEquations v0_newClauses v0_newSet v0_newRight v0_newYes v0_newNo v0_lineYes v0_lineNo v0_sumSet v0_sumOf v0_sumRight v0_empty v0_empties v0_taken v0_ones v0_waitTaken v0_waitOnes v0_nodeCount v0_lastModel v0_modelCount v0_modelIs v0_gSet v0_gateCount : Value) (r0 : Int32 × Int32 × Int32 × Bool × (Nat → Int64) × (Nat → Int32)) (hr0 : D_X8_rows f0_thrown f0_equations f0_rowCount f0_isImpossible n0_eSet h0_eSet n0_eRight h0_eRight n0_rSet h0_rSet n0_rRight h0_rRight = some r0) (sz : Nat) : Met l yX8_rows wsX8_rows rm_X8_rows (PcW D cI cL [.ref q0] [(q0, .inr (8, [.int f0_thrown, v0_n, .int f0_equations, .ref q0_eSet, .ref q0_eRight, v0_clauses, v0_cYes, v0_cNo, v0_levels, v0_levelEquations, v0_levelClauses, v0_tape, v0_tapeSize, v0_faultIs, v0_faultAt, v0_at, v0_newEquations, v0_newClauses, v0_newSet, v0_newRight, v0_newYes, v0_newNo, v0_lineYes, v0_lineNo, .int f0_rowCount, .ref q0_rSet, .ref q0_rRight, .int (bI f0_isImpossible), v0_sumSet, v0_sumOf, v0_sumRight, v0_empty, v0_empties, v0_taken, v0_ones, v0_waitTaken, v0_waitOnes, v0_nodeCount, v0_lastModel, v0_modelCount, v0_modelIs, v0_gSet, v0_gateCount])), (q0_eSet, .inl (cL, n0_eSet, .inr (.inl h0_eSet))), (q0_eRight, .inl (cI, n0_eRight, .inl h0_eRight)), (q0_rSet, .inl (cL, n0_rSet, .inr (.inl h0_rSet))), (q0_rRight, .inl (cI, n0_rRight, .inl h0_rRight))] sz) (QiW D [(q0, .inr (8, [.int f0_thrown, v0_n, .int f0_equations, .ref q0_eSet, .ref q0_eRight, v0_clauses, v0_cYes, v0_cNo, v0_levels, v0_levelEquations, v0_levelClauses, v0_tape, v0_tapeSize, v0_faultIs, v0_faultAt, v0_at, v0_newEquations, v0_newClauses, v0_newSet, v0_newRight, v0_newYes, v0_newNo, v0_lineYes, v0_lineNo, .int f0_rowCount, .ref q0_rSet, .ref q0_rRight, .int (bI f0_isImpossible), v0_sumSet, v0_sumOf, v0_sumRight, v0_empty, v0_empties, v0_taken, v0_ones, v0_waitTaken, v0_waitOnes, v0_nodeCount, v0_lastModel, v0_modelCount, v0_modelIs, v0_gSet, v0_gateCount])), (q0_eSet, .inl (cL, n0_eSet, .inr (.inl h0_eSet))), (q0_eRight, .inl (cI, n0_eRight, .inl h0_eRight)), (q0_rSet, .inl (cL, n0_rSet, .inr (.inl h0_rSet))), (q0_rRight, .inl (cI, n0_rRight, .inl h0_rRight))] r0.1 (fun _ : Unit => [(q0, .inr (8, [.int r0.2.1, v0_n, .int f0_equations, .ref q0_eSet, .ref q0_eRight, v0_clauses, v0_cYes, v0_cNo, v0_levels, v0_levelEquations, v0_levelClauses, v0_tape, v0_tapeSize, v0_faultIs, v0_faultAt, v0_at, v0_newEquations, v0_newClauses, v0_newSet, v0_newRight, v0_newYes, v0_newNo, v0_lineYes, v0_lineNo, .int r0.2.2.1, .ref q0_rSet, .ref q0_rRight, .int (bI r0.2.2.2.1), v0_sumSet, v0_sumOf, v0_sumRight, v0_empty, v0_empties, v0_taken, v0_ones, v0_waitTaken, v0_waitOnes, v0_nodeCount, v0_lastModel, v0_modelCount, v0_modelIs, v0_gSet, v0_gateCount])), (q0_eSet, .inl (cL, n0_eSet, .inr (.inl h0_eSet))), (q0_eRight, .inl (cI, n0_eRight, .inl h0_eRight)), (q0_rSet, .inl (cL, n0_rSet, .inr (.inl r0.2.2.2.2.1))), (q0_rRight, .inl (cI, n0_rRight, .inl r0.2.2.2.2.2))]) tU sz) 0 0 (va_A [(q0, .inr (8, [.int f0_thrown, v0_n, .int f0_equations, .ref q0_eSet, .ref q0_eRight, v0_clauses, v0_cYes, v0_cNo, v0_levels, v0_levelEquations, v0_levelClauses, v0_tape, v0_tapeSize, v0_faultIs, v0_faultAt, v0_at, v0_newEquations, v0_newClauses, v0_newSet, v0_newRight, v0_newYes, v0_newNo, v0_lineYes, v0_lineNo, .int f0_rowCount, .ref q0_rSet, .ref q0_rRight, .int (bI f0_isImpossible), v0_sumSet, v0_sumOf, v0_sumRight, v0_empty, v0_empties, v0_taken, v0_ones, v0_waitTaken, v0_waitOnes, v0_nodeCount, v0_lastModel, v0_modelCount, v0_modelIs, v0_gSet, v0_gateCount])), (q0_eSet, .inl (cL, n0_eSet, .inr (.inl h0_eSet))), (q0_eRight, .inl (cI, n0_eRight, .inl h0_eRight)), (q0_rSet, .inl (cL, n0_rSet, .inr (.inl h0_rSet))), (q0_rRight, .inl (cI, n0_rRight, .inl h0_rRight))] sz) := by
  refine Met.ofW (cc := cX8_rows) (maxL := 1) (ret := (some .int)) (by decide) rfl ?_
  intro p e s m args below meth c s₁ B hml hv
  obtain ⟨hargs, hsz, hP, hEV, hD0⟩ := hv
  have hx := B.exec
  have hb := B.bytes
  have hr := B.returns
  have hts := atoms_spec (ws := wsX8_rows) B.pre
  have hown : s.vm.findClass RX8 = some m.cls := findClass_of_methodNamed B.named
  have hlocks := B.notSynchronized
  have hK := hEV.K
  have lk_0 := hts _ lk_0_X8_rows
  have lk_1 := hts _ lk_1_X8_rows
  have lk_2 := hts _ lk_2_X8_rows
  subst hsz
  unfold QiW PoW
  have hD := hD0.self (sz := s.heap.size)
  generalize hAe : va_A [(q0, .inr (8, [.int f0_thrown, v0_n, .int f0_equations, .ref q0_eSet, .ref q0_eRight, v0_clauses, v0_cYes, v0_cNo, v0_levels, v0_levelEquations, v0_levelClauses, v0_tape, v0_tapeSize, v0_faultIs, v0_faultAt, v0_at, v0_newEquations, v0_newClauses, v0_newSet, v0_newRight, v0_newYes, v0_newNo, v0_lineYes, v0_lineNo, .int f0_rowCount, .ref q0_rSet, .ref q0_rRight, .int (bI f0_isImpossible), v0_sumSet, v0_sumOf, v0_sumRight, v0_empty, v0_empties, v0_taken, v0_ones, v0_waitTaken, v0_waitOnes, v0_nodeCount, v0_lastModel, v0_modelCount, v0_modelIs, v0_gSet, v0_gateCount])), (q0_eSet, .inl (cL, n0_eSet, .inr (.inl h0_eSet))), (q0_eRight, .inl (cI, n0_eRight, .inl h0_eRight)), (q0_rSet, .inl (cL, n0_rSet, .inr (.inl h0_rSet))), (q0_rRight, .inl (cI, n0_rRight, .inl h0_rRight))] s.heap.size = A at hD ⊢
  have hA : ∀ q : Nat, s.heap.size ≤ q → A q := fun q h => by rw [← hAe]; exact Or.inr h
  have hent : entryFrame m args 1 = entryFrame m ([.ref q0] : List Value).toArray 1 := by rw [hargs]
  rw [hent]
  refine kx_Q (fun Q hQ => ?_)
  refine kx_H (fun H hH => ?_)
  have hP : va_P D vwCl [(q0, .inr (8, [.int f0_thrown, v0_n, .int f0_equations, .ref q0_eSet, .ref q0_eRight, v0_clauses, v0_cYes, v0_cNo, v0_levels, v0_levelEquations, v0_levelClauses, v0_tape, v0_tapeSize, v0_faultIs, v0_faultAt, v0_at, v0_newEquations, v0_newClauses, v0_newSet, v0_newRight, v0_newYes, v0_newNo, v0_lineYes, v0_lineNo, .int f0_rowCount, .ref q0_rSet, .ref q0_rRight, .int (bI f0_isImpossible), v0_sumSet, v0_sumOf, v0_sumRight, v0_empty, v0_empties, v0_taken, v0_ones, v0_waitTaken, v0_waitOnes, v0_nodeCount, v0_lastModel, v0_modelCount, v0_modelIs, v0_gSet, v0_gateCount])), (q0_eSet, .inl (cL, n0_eSet, .inr (.inl h0_eSet))), (q0_eRight, .inl (cI, n0_eRight, .inl h0_eRight)), (q0_rSet, .inl (cL, n0_rSet, .inr (.inl h0_rSet))), (q0_rRight, .inl (cI, n0_rRight, .inl h0_rRight))] H := by rw [hH]; exact hP
  have hS : va_S A s.heap H [] := by rw [hH]; exact va_S.rf
  have hl := lv_entry ([.ref q0]) (n := 1) (Nat.le_of_ble_eq_true rfl)
  rw [lg_entry_eq]
  generalize (lg_sl ([.ref q0]) ++ List.replicate (1 - (lg_sl ([.ref q0])).length) Slot.unset).toArray = ls at hl ⊢
  have hl : lv_has ls 1 [(0, .ref q0)] := hl
  have h := hr0
  unfold D_X8_rows at h
  refine lv_aload_n hx hb dX8_rows_0 rfl (lv_at hl 0 rfl) ?_
  refine lv_iconst (v := (0 : Int32)) hx hb dX8_rows_1 (by decide) ?_
  refine va_put (D := D) (ci := 8) (v := .int (0 : Int32)) (ty := .int) (C := RX8) (T := TX8) (N := 43) hx hb hts in_X8_rows_X8 tyX8 tyX8_ok nmX8 hown hK hP hD hS 0 rfl rfl 0 (by decide) lk_0 (fun _ h9 => h9) rfl (by decide +kernel) rfl rfl (Nat.le_of_ble_eq_true rfl) dX8_rows_2 (fun H locs hP hD hS => ?_)
  have hP : va_P D vwCl [(q0, .inr (8, [.int (0 : Int32), v0_n, .int f0_equations, .ref q0_eSet, .ref q0_eRight, v0_clauses, v0_cYes, v0_cNo, v0_levels, v0_levelEquations, v0_levelClauses, v0_tape, v0_tapeSize, v0_faultIs, v0_faultAt, v0_at, v0_newEquations, v0_newClauses, v0_newSet, v0_newRight, v0_newYes, v0_newNo, v0_lineYes, v0_lineNo, .int f0_rowCount, .ref q0_rSet, .ref q0_rRight, .int (bI f0_isImpossible), v0_sumSet, v0_sumOf, v0_sumRight, v0_empty, v0_empties, v0_taken, v0_ones, v0_waitTaken, v0_waitOnes, v0_nodeCount, v0_lastModel, v0_modelCount, v0_modelIs, v0_gSet, v0_gateCount])), (q0_eSet, .inl (cL, n0_eSet, .inr (.inl h0_eSet))), (q0_eRight, .inl (cI, n0_eRight, .inl h0_eRight)), (q0_rSet, .inl (cL, n0_rSet, .inr (.inl h0_rSet))), (q0_rRight, .inl (cI, n0_rRight, .inl h0_rRight))] H := hP
  have hD : va_D A [(q0, .inr (8, [.int (0 : Int32), v0_n, .int f0_equations, .ref q0_eSet, .ref q0_eRight, v0_clauses, v0_cYes, v0_cNo, v0_levels, v0_levelEquations, v0_levelClauses, v0_tape, v0_tapeSize, v0_faultIs, v0_faultAt, v0_at, v0_newEquations, v0_newClauses, v0_newSet, v0_newRight, v0_newYes, v0_newNo, v0_lineYes, v0_lineNo, .int f0_rowCount, .ref q0_rSet, .ref q0_rRight, .int (bI f0_isImpossible), v0_sumSet, v0_sumOf, v0_sumRight, v0_empty, v0_empties, v0_taken, v0_ones, v0_waitTaken, v0_waitOnes, v0_nodeCount, v0_lastModel, v0_modelCount, v0_modelIs, v0_gSet, v0_gateCount])), (q0_eSet, .inl (cL, n0_eSet, .inr (.inl h0_eSet))), (q0_eRight, .inl (cI, n0_eRight, .inl h0_eRight)), (q0_rSet, .inl (cL, n0_rSet, .inr (.inl h0_rSet))), (q0_rRight, .inl (cI, n0_rRight, .inl h0_rRight))] := hD
  refine lv_aload_n hx hb dX8_rows_5 rfl (lv_at hl 0 rfl) ?_
  refine lv_lconst (v := (0 : Int64)) hx hb dX8_rows_6 (by decide) ?_
  refine lv_lconst (v := (0 : Int64)) hx hb dX8_rows_7 (by decide) ?_
  refine lv_iconst (v := (1 : Int32)) hx hb dX8_rows_8 (by decide) ?_
  obtain ⟨u_1, hu_2, h⟩ := co_b h
  refine kx_v (ws' := fun _ => [(q0, .inr (8, [.int (0 : Int32), v0_n, .int f0_equations, .ref q0_eSet, .ref q0_eRight, v0_clauses, v0_cYes, v0_cNo, v0_levels, v0_levelEquations, v0_levelClauses, v0_tape, v0_tapeSize, v0_faultIs, v0_faultAt, v0_at, v0_newEquations, v0_newClauses, v0_newSet, v0_newRight, v0_newYes, v0_newNo, v0_lineYes, v0_lineNo, .int u_1.1, .ref q0_rSet, .ref q0_rRight, .int (bI u_1.2.1), v0_sumSet, v0_sumOf, v0_sumRight, v0_empty, v0_empties, v0_taken, v0_ones, v0_waitTaken, v0_waitOnes, v0_nodeCount, v0_lastModel, v0_modelCount, v0_modelIs, v0_gSet, v0_gateCount])), (q0_eSet, .inl (cL, n0_eSet, .inr (.inl h0_eSet))), (q0_eRight, .inl (cI, n0_eRight, .inl h0_eRight)), (q0_rSet, .inl (cL, n0_rSet, .inr (.inl u_1.2.2.1))), (q0_rRight, .inl (cI, n0_rRight, .inl u_1.2.2.2))]) hP hD hS hA [0, 1, 2, 3, 4] [] [0, 1, 2, 3, 4] rfl rfl (by decide) (by decide) (fun _ => rfl) (by decide) (va_runV (As := [.long (0 : Int64), .long (0 : Int64), .int (bI true)]) (rest := []) ⟨hx, hb, hml, hown, hts⟩ (cm_X8_makeRows l D cI cL (q0 := q0) (q0_eSet := q0_eSet) (q0_eRight := q0_eRight) (q0_rSet := q0_rSet) (q0_rRight := q0_rRight) (n0_eSet := n0_eSet) (n0_eRight := n0_eRight) (n0_rSet := n0_rSet) (n0_rRight := n0_rRight) (f0_equations := f0_equations) (f0_rowCount := f0_rowCount) (f0_isImpossible := f0_isImpossible) (h0_eSet := h0_eSet) (h0_eRight := h0_eRight) (h0_rSet := h0_rSet) (h0_rRight := h0_rRight) (v0_thrown := .int (0 : Int32)) (v0_n := v0_n) (v0_clauses := v0_clauses) (v0_cYes := v0_cYes) (v0_cNo := v0_cNo) (v0_levels := v0_levels) (v0_levelEquations := v0_levelEquations) (v0_levelClauses := v0_levelClauses) (v0_tape := v0_tape) (v0_tapeSize := v0_tapeSize) (v0_faultIs := v0_faultIs) (v0_faultAt := v0_faultAt) (v0_at := v0_at) (v0_newEquations := v0_newEquations) (v0_newClauses := v0_newClauses) (v0_newSet := v0_newSet) (v0_newRight := v0_newRight) (v0_newYes := v0_newYes) (v0_newNo := v0_newNo) (v0_lineYes := v0_lineYes) (v0_lineNo := v0_lineNo) (v0_sumSet := v0_sumSet) (v0_sumOf := v0_sumOf) (v0_sumRight := v0_sumRight) (v0_empty := v0_empty) (v0_empties := v0_empties) (v0_taken := v0_taken) (v0_ones := v0_ones) (v0_waitTaken := v0_waitTaken) (v0_waitOnes := v0_waitOnes) (v0_nodeCount := v0_nodeCount) (v0_lastModel := v0_lastModel) (v0_modelCount := v0_modelCount) (v0_modelIs := v0_modelIs) (v0_gSet := v0_gSet) (v0_gateCount := v0_gateCount) (x1 := (0 : Int64)) (x3 := (0 : Int64)) (x5 := true) (r0 := u_1) (hr0 := hu_2) (sz := H.size)) (cwV 3 hts gX8_rows_X8_makeRows rfl rfl rfl (by decide +kernel) ⟨Nat.le_of_ble_eq_true rfl, Nat.le_of_ble_eq_true rfl⟩) (kx_preV hEV hP hD [0, 1, 2, 3, 4] rfl (by decide) (k0 := 0) (ci := 8) rfl rfl rfl) rfl rfl hl.1 rfl (lv_room (Nat.le_of_ble_eq_true rfl)) dX8_rows_9 ⟨Nat.le_of_ble_eq_true rfl, Nat.le_of_ble_eq_true rfl⟩) (fun _ H locs _ hP hD hS => ?_)
  refine lv_aload_n hx hb dX8_rows_12 rfl (lv_at hl 0 rfl) ?_
  refine va_get (D := D) (ci := 8) (v := .int (bI u_1.2.1)) (C := RX8) (T := TX8) (N := 43) hx hb hts in_X8_rows_X8 hown hK hP 0 rfl rfl 27 (by decide) lk_1 (fun _ h9 => h9) rfl dX8_rows_13 ?_
  refine lv_if_eq (tgt := 23) hx hb dX8_rows_16 (by decide) (fun c_3 => ?_) (fun c_3 => ?_)
  · have k_4 : ¬ (u_1.2.1 = true) := (kx_z c_3)
    have h := co_f k_4 h
    refine lv_aload_n hx hb dX8_rows_23 rfl (lv_at hl 0 rfl) ?_
    refine va_get (D := D) (ci := 8) (v := .int u_1.1) (C := RX8) (T := TX8) (N := 43) hx hb hts in_X8_rows_X8 hown hK hP 0 rfl rfl 24 (by decide) lk_2 (fun _ h9 => h9) rfl dX8_rows_24 ?_
    have h := Option.some.inj h
    subst h
    subst hQ
    exact W.iret (v := u_1.1) hx hb hr (fun t ht hW => ⟨⟨u_1.1, (), rfl, ⟨rfl, trivial⟩, by rw [ht]; exact hP, hD⟩, hS.F ht⟩) hS.2.2 dX8_rows_27
  · have k_4 : u_1.2.1 = true := (kx_nz c_3)
    have h := co_t k_4 h
    refine lv_iconst (v := (-1 : Int32)) hx hb dX8_rows_19 (by decide) ?_
    refine lv_goto (tgt := 27) hx hb dX8_rows_20 (by decide) ?_
    have h := Option.some.inj h
    subst h
    subst hQ
    exact W.iret (v := (-1 : Int32)) hx hb hr (fun t ht hW => ⟨⟨(-1 : Int32), (), rfl, ⟨rfl, trivial⟩, by rw [ht]; exact hP, hD⟩, hS.F ht⟩) hS.2.2 dX8_rows_27
theorem in_X8_row_X8 : ∀ w ∈ wsX80, w ∈ wsX8_row := by decide +kernel
theorem lk_0_X8_row : Cond.fieldLink RX8 172 "ParityClausesModel" "rowCount" "I" ∈ wsX8_row := by decide +kernel
theorem lk_1_X8_row : Cond.fieldLink RX8 44 "ParityClausesModel" "rSet" "[J" ∈ wsX8_row := by decide +kernel
theorem lk_2_X8_row : Cond.fieldLink RX8 47 "ParityClausesModel" "rRight" "[I" ∈ wsX8_row := by decide +kernel
theorem lk_3_X8_row : Cond.constantLong RX8 88 (4611686018427387904) ∈ wsX8_row := by decide +kernel
abbrev rm_X8_row : Room := { frames := 4, cells := 0, slots := 0, locals := 103 }
set_option maxHeartbeats 4000000 in
set_option maxRecDepth 100000 in
theorem cm_X8_row (l : Launch) (D : va_G) (cI cL : ClassId) (q0 q0_eSet q0_eRight q0_rSet q0_rRight : Nat) (n0_eSet n0_eRight n0_rSet n0_rRight : Nat) (f0_thrown : Int32) (f0_equations : Int32) (f0_rowCount : Int32) (f0_isImpossible : Bool) (h0_eSet : Nat → Int64) (h0_eRight : Nat → Int32) (h0_rSet : Nat → Int64) (h0_rRight : Nat → Int32) (v0_n v0_clauses v0_cYes v0_cNo v0_levels v0_levelEquations v0_levelClauses v0_tape v0_tapeSize v0_faultIs v0_faultAt v0_at v0_newEquations v0_newClauses v0_newSet v0_newRight v0_newYes v0_newNo v0_lineYes v0_lineNo v0_sumSet v0_sumOf v0_sumRight v0_empty v0_empties v0_taken v0_ones v0_waitTaken v0_waitOnes v0_nodeCount v0_lastModel v0_modelCount v0_modelIs v0_gSet v0_gateCount : Value) (x1 : Int32) (r0 : Int64 × Int32 × Int32 × Bool × (Nat → Int64) × (Nat → Int32)) (hr0 : D_X8_row f0_thrown f0_equations f0_rowCount f0_isImpossible n0_eSet h0_eSet n0_eRight h0_eRight n0_rSet h0_rSet n0_rRight h0_rRight x1 = some r0) (sz : Nat) : Met l yX8_row wsX8_row rm_X8_row (PcW D cI cL [.ref q0, .int x1] [(q0, .inr (8, [.int f0_thrown, v0_n, .int f0_equations, .ref q0_eSet, .ref q0_eRight, v0_clauses, v0_cYes, v0_cNo, v0_levels, v0_levelEquations, v0_levelClauses, v0_tape, v0_tapeSize, v0_faultIs, v0_faultAt, v0_at, v0_newEquations, v0_newClauses, v0_newSet, v0_newRight, v0_newYes, v0_newNo, v0_lineYes, v0_lineNo, .int f0_rowCount, .ref q0_rSet, .ref q0_rRight, .int (bI f0_isImpossible), v0_sumSet, v0_sumOf, v0_sumRight, v0_empty, v0_empties, v0_taken, v0_ones, v0_waitTaken, v0_waitOnes, v0_nodeCount, v0_lastModel, v0_modelCount, v0_modelIs, v0_gSet, v0_gateCount])), (q0_eSet, .inl (cL, n0_eSet, .inr (.inl h0_eSet))), (q0_eRight, .inl (cI, n0_eRight, .inl h0_eRight)), (q0_rSet, .inl (cL, n0_rSet, .inr (.inl h0_rSet))), (q0_rRight, .inl (cI, n0_rRight, .inl h0_rRight))] sz) (QlW D [(q0, .inr (8, [.int f0_thrown, v0_n, .int f0_equations, .ref q0_eSet, .ref q0_eRight, v0_clauses, v0_cYes, v0_cNo, v0_levels, v0_levelEquations, v0_levelClauses, v0_tape, v0_tapeSize, v0_faultIs, v0_faultAt, v0_at, v0_newEquations, v0_newClauses, v0_newSet, v0_newRight, v0_newYes, v0_newNo, v0_lineYes, v0_lineNo, .int f0_rowCount, .ref q0_rSet, .ref q0_rRight, .int (bI f0_isImpossible), v0_sumSet, v0_sumOf, v0_sumRight, v0_empty, v0_empties, v0_taken, v0_ones, v0_waitTaken, v0_waitOnes, v0_nodeCount, v0_lastModel, v0_modelCount, v0_modelIs, v0_gSet, v0_gateCount])), (q0_eSet, .inl (cL, n0_eSet, .inr (.inl h0_eSet))), (q0_eRight, .inl (cI, n0_eRight, .inl h0_eRight)), (q0_rSet, .inl (cL, n0_rSet, .inr (.inl h0_rSet))), (q0_rRight, .inl (cI, n0_rRight, .inl h0_rRight))] r0.1 (fun _ : Unit => [(q0, .inr (8, [.int r0.2.1, v0_n, .int f0_equations, .ref q0_eSet, .ref q0_eRight, v0_clauses, v0_cYes, v0_cNo, v0_levels, v0_levelEquations, v0_levelClauses, v0_tape, v0_tapeSize, v0_faultIs, v0_faultAt, v0_at, v0_newEquations, v0_newClauses, v0_newSet, v0_newRight, v0_newYes, v0_newNo, v0_lineYes, v0_lineNo, .int r0.2.2.1, .ref q0_rSet, .ref q0_rRight, .int (bI r0.2.2.2.1), v0_sumSet, v0_sumOf, v0_sumRight, v0_empty, v0_empties, v0_taken, v0_ones, v0_waitTaken, v0_waitOnes, v0_nodeCount, v0_lastModel, v0_modelCount, v0_modelIs, v0_gSet, v0_gateCount])), (q0_eSet, .inl (cL, n0_eSet, .inr (.inl h0_eSet))), (q0_eRight, .inl (cI, n0_eRight, .inl h0_eRight)), (q0_rSet, .inl (cL, n0_rSet, .inr (.inl r0.2.2.2.2.1))), (q0_rRight, .inl (cI, n0_rRight, .inl r0.2.2.2.2.2))]) tU sz) 0 0 (va_A [(q0, .inr (8, [.int f0_thrown, v0_n, .int f0_equations, .ref q0_eSet, .ref q0_eRight, v0_clauses, v0_cYes, v0_cNo, v0_levels, v0_levelEquations, v0_levelClauses, v0_tape, v0_tapeSize, v0_faultIs, v0_faultAt, v0_at, v0_newEquations, v0_newClauses, v0_newSet, v0_newRight, v0_newYes, v0_newNo, v0_lineYes, v0_lineNo, .int f0_rowCount, .ref q0_rSet, .ref q0_rRight, .int (bI f0_isImpossible), v0_sumSet, v0_sumOf, v0_sumRight, v0_empty, v0_empties, v0_taken, v0_ones, v0_waitTaken, v0_waitOnes, v0_nodeCount, v0_lastModel, v0_modelCount, v0_modelIs, v0_gSet, v0_gateCount])), (q0_eSet, .inl (cL, n0_eSet, .inr (.inl h0_eSet))), (q0_eRight, .inl (cI, n0_eRight, .inl h0_eRight)), (q0_rSet, .inl (cL, n0_rSet, .inr (.inl h0_rSet))), (q0_rRight, .inl (cI, n0_rRight, .inl h0_rRight))] sz) := by
  refine Met.ofW (cc := cX8_row) (maxL := 2) (ret := (some .long)) (by decide) rfl ?_
  intro p e s m args below meth c s₁ B hml hv
  obtain ⟨hargs, hsz, hP, hEV, hD0⟩ := hv
  have hx := B.exec
  have hb := B.bytes
  have hr := B.returns
  have hts := atoms_spec (ws := wsX8_row) B.pre
  have hown : s.vm.findClass RX8 = some m.cls := findClass_of_methodNamed B.named
  have hlocks := B.notSynchronized
  have hK := hEV.K
  have lk_0 := hts _ lk_0_X8_row
  have lk_1 := hts _ lk_1_X8_row
  have lk_2 := hts _ lk_2_X8_row
  have lk_3 := hts _ lk_3_X8_row
  subst hsz
  unfold QlW PoW
  have hD := hD0.self (sz := s.heap.size)
  generalize hAe : va_A [(q0, .inr (8, [.int f0_thrown, v0_n, .int f0_equations, .ref q0_eSet, .ref q0_eRight, v0_clauses, v0_cYes, v0_cNo, v0_levels, v0_levelEquations, v0_levelClauses, v0_tape, v0_tapeSize, v0_faultIs, v0_faultAt, v0_at, v0_newEquations, v0_newClauses, v0_newSet, v0_newRight, v0_newYes, v0_newNo, v0_lineYes, v0_lineNo, .int f0_rowCount, .ref q0_rSet, .ref q0_rRight, .int (bI f0_isImpossible), v0_sumSet, v0_sumOf, v0_sumRight, v0_empty, v0_empties, v0_taken, v0_ones, v0_waitTaken, v0_waitOnes, v0_nodeCount, v0_lastModel, v0_modelCount, v0_modelIs, v0_gSet, v0_gateCount])), (q0_eSet, .inl (cL, n0_eSet, .inr (.inl h0_eSet))), (q0_eRight, .inl (cI, n0_eRight, .inl h0_eRight)), (q0_rSet, .inl (cL, n0_rSet, .inr (.inl h0_rSet))), (q0_rRight, .inl (cI, n0_rRight, .inl h0_rRight))] s.heap.size = A at hD ⊢
  have hA : ∀ q : Nat, s.heap.size ≤ q → A q := fun q h => by rw [← hAe]; exact Or.inr h
  have hent : entryFrame m args 2 = entryFrame m ([.ref q0, .int x1] : List Value).toArray 2 := by rw [hargs]
  rw [hent]
  refine kx_Q (fun Q hQ => ?_)
  refine kx_H (fun H hH => ?_)
  have hP : va_P D vwCl [(q0, .inr (8, [.int f0_thrown, v0_n, .int f0_equations, .ref q0_eSet, .ref q0_eRight, v0_clauses, v0_cYes, v0_cNo, v0_levels, v0_levelEquations, v0_levelClauses, v0_tape, v0_tapeSize, v0_faultIs, v0_faultAt, v0_at, v0_newEquations, v0_newClauses, v0_newSet, v0_newRight, v0_newYes, v0_newNo, v0_lineYes, v0_lineNo, .int f0_rowCount, .ref q0_rSet, .ref q0_rRight, .int (bI f0_isImpossible), v0_sumSet, v0_sumOf, v0_sumRight, v0_empty, v0_empties, v0_taken, v0_ones, v0_waitTaken, v0_waitOnes, v0_nodeCount, v0_lastModel, v0_modelCount, v0_modelIs, v0_gSet, v0_gateCount])), (q0_eSet, .inl (cL, n0_eSet, .inr (.inl h0_eSet))), (q0_eRight, .inl (cI, n0_eRight, .inl h0_eRight)), (q0_rSet, .inl (cL, n0_rSet, .inr (.inl h0_rSet))), (q0_rRight, .inl (cI, n0_rRight, .inl h0_rRight))] H := by rw [hH]; exact hP
  have hS : va_S A s.heap H [] := by rw [hH]; exact va_S.rf
  have hl := lv_entry ([.ref q0, .int x1]) (n := 2) (Nat.le_of_ble_eq_true rfl)
  rw [lg_entry_eq]
  generalize (lg_sl ([.ref q0, .int x1]) ++ List.replicate (2 - (lg_sl ([.ref q0, .int x1])).length) Slot.unset).toArray = ls at hl ⊢
  have hl : lv_has ls 2 [(0, .ref q0), (1, .int x1)] := hl
  have h := hr0
  unfold D_X8_row at h
  refine lv_aload_n hx hb dX8_row_0 rfl (lv_at hl 0 rfl) ?_
  refine lv_lconst (v := (0 : Int64)) hx hb dX8_row_1 (by decide) ?_
  refine lv_lconst (v := (0 : Int64)) hx hb dX8_row_2 (by decide) ?_
  refine lv_iconst (v := (1 : Int32)) hx hb dX8_row_3 (by decide) ?_
  obtain ⟨u_1, hu_2, h⟩ := co_b h
  refine kx_v (ws' := fun _ => [(q0, .inr (8, [.int f0_thrown, v0_n, .int f0_equations, .ref q0_eSet, .ref q0_eRight, v0_clauses, v0_cYes, v0_cNo, v0_levels, v0_levelEquations, v0_levelClauses, v0_tape, v0_tapeSize, v0_faultIs, v0_faultAt, v0_at, v0_newEquations, v0_newClauses, v0_newSet, v0_newRight, v0_newYes, v0_newNo, v0_lineYes, v0_lineNo, .int u_1.1, .ref q0_rSet, .ref q0_rRight, .int (bI u_1.2.1), v0_sumSet, v0_sumOf, v0_sumRight, v0_empty, v0_empties, v0_taken, v0_ones, v0_waitTaken, v0_waitOnes, v0_nodeCount, v0_lastModel, v0_modelCount, v0_modelIs, v0_gSet, v0_gateCount])), (q0_eSet, .inl (cL, n0_eSet, .inr (.inl h0_eSet))), (q0_eRight, .inl (cI, n0_eRight, .inl h0_eRight)), (q0_rSet, .inl (cL, n0_rSet, .inr (.inl u_1.2.2.1))), (q0_rRight, .inl (cI, n0_rRight, .inl u_1.2.2.2))]) hP hD hS hA [0, 1, 2, 3, 4] [] [0, 1, 2, 3, 4] rfl rfl (by decide) (by decide) (fun _ => rfl) (by decide) (va_runV (As := [.long (0 : Int64), .long (0 : Int64), .int (bI true)]) (rest := []) ⟨hx, hb, hml, hown, hts⟩ (cm_X8_makeRows l D cI cL (q0 := q0) (q0_eSet := q0_eSet) (q0_eRight := q0_eRight) (q0_rSet := q0_rSet) (q0_rRight := q0_rRight) (n0_eSet := n0_eSet) (n0_eRight := n0_eRight) (n0_rSet := n0_rSet) (n0_rRight := n0_rRight) (f0_equations := f0_equations) (f0_rowCount := f0_rowCount) (f0_isImpossible := f0_isImpossible) (h0_eSet := h0_eSet) (h0_eRight := h0_eRight) (h0_rSet := h0_rSet) (h0_rRight := h0_rRight) (v0_thrown := .int f0_thrown) (v0_n := v0_n) (v0_clauses := v0_clauses) (v0_cYes := v0_cYes) (v0_cNo := v0_cNo) (v0_levels := v0_levels) (v0_levelEquations := v0_levelEquations) (v0_levelClauses := v0_levelClauses) (v0_tape := v0_tape) (v0_tapeSize := v0_tapeSize) (v0_faultIs := v0_faultIs) (v0_faultAt := v0_faultAt) (v0_at := v0_at) (v0_newEquations := v0_newEquations) (v0_newClauses := v0_newClauses) (v0_newSet := v0_newSet) (v0_newRight := v0_newRight) (v0_newYes := v0_newYes) (v0_newNo := v0_newNo) (v0_lineYes := v0_lineYes) (v0_lineNo := v0_lineNo) (v0_sumSet := v0_sumSet) (v0_sumOf := v0_sumOf) (v0_sumRight := v0_sumRight) (v0_empty := v0_empty) (v0_empties := v0_empties) (v0_taken := v0_taken) (v0_ones := v0_ones) (v0_waitTaken := v0_waitTaken) (v0_waitOnes := v0_waitOnes) (v0_nodeCount := v0_nodeCount) (v0_lastModel := v0_lastModel) (v0_modelCount := v0_modelCount) (v0_modelIs := v0_modelIs) (v0_gSet := v0_gSet) (v0_gateCount := v0_gateCount) (x1 := (0 : Int64)) (x3 := (0 : Int64)) (x5 := true) (r0 := u_1) (hr0 := hu_2) (sz := H.size)) (cwV 3 hts gX8_row_X8_makeRows rfl rfl rfl (by decide +kernel) ⟨Nat.le_of_ble_eq_true rfl, Nat.le_of_ble_eq_true rfl⟩) (kx_preV hEV hP hD [0, 1, 2, 3, 4] rfl (by decide) (k0 := 0) (ci := 8) rfl rfl rfl) rfl rfl hl.1 rfl (lv_room (Nat.le_of_ble_eq_true rfl)) dX8_row_4 ⟨Nat.le_of_ble_eq_true rfl, Nat.le_of_ble_eq_true rfl⟩) (fun _ H locs _ hP hD hS => ?_)
  refine lv_aload_n hx hb dX8_row_7 rfl (lv_at hl 0 rfl) ?_
  refine lv_iload_n hx hb dX8_row_8 rfl (lv_at hl 1 rfl) ?_
  refine lv_i2l (v := x1.toInt64) hx hb dX8_row_9 rfl ?_
  refine lv_lconst (v := (0 : Int64)) hx hb dX8_row_10 (by decide) ?_
  refine lv_aload_n hx hb dX8_row_11 rfl (lv_at hl 0 rfl) ?_
  refine va_get (D := D) (ci := 8) (v := .int u_1.1) (C := RX8) (T := TX8) (N := 43) hx hb hts in_X8_row_X8 hown hK hP 0 rfl rfl 24 (by decide) lk_0 (fun _ h9 => h9) rfl dX8_row_12 ?_
  refine lv_iconst (v := (1 : Int32)) hx hb dX8_row_15 (by decide) ?_
  refine lv_isub hx hb dX8_row_16 ?_
  refine lv_i2l (v := (u_1.1 - (1 : Int32)).toInt64) hx hb dX8_row_17 rfl ?_
  obtain ⟨u_3, hu_4, h⟩ := co_b h
  refine kx_i (ws' := fun _ => [(q0, .inr (8, [.int f0_thrown, v0_n, .int f0_equations, .ref q0_eSet, .ref q0_eRight, v0_clauses, v0_cYes, v0_cNo, v0_levels, v0_levelEquations, v0_levelClauses, v0_tape, v0_tapeSize, v0_faultIs, v0_faultAt, v0_at, v0_newEquations, v0_newClauses, v0_newSet, v0_newRight, v0_newYes, v0_newNo, v0_lineYes, v0_lineNo, .int u_1.1, .ref q0_rSet, .ref q0_rRight, .int (bI u_1.2.1), v0_sumSet, v0_sumOf, v0_sumRight, v0_empty, v0_empties, v0_taken, v0_ones, v0_waitTaken, v0_waitOnes, v0_nodeCount, v0_lastModel, v0_modelCount, v0_modelIs, v0_gSet, v0_gateCount])), (q0_eSet, .inl (cL, n0_eSet, .inr (.inl h0_eSet))), (q0_eRight, .inl (cI, n0_eRight, .inl h0_eRight)), (q0_rSet, .inl (cL, n0_rSet, .inr (.inl u_1.2.2.1))), (q0_rRight, .inl (cI, n0_rRight, .inl u_1.2.2.2))]) hP hD hS hA [] [0, 1, 2, 3, 4] [0, 1, 2, 3, 4] rfl rfl (by decide) (by decide) (fun _ => rfl) (by decide) (va_runS (As := [.long x1.toInt64, .long (0 : Int64), .long ((u_1.1 - (1 : Int32)).toInt64)]) (rest := [.ref q0]) ⟨hx, hb, hml, hown, hts⟩ (cm_X8_isIn l D cI cL (x0 := x1.toInt64) (x2 := (0 : Int64)) (x4 := (u_1.1 - (1 : Int32)).toInt64) (r0 := u_3) (hr0 := hu_4) (sz := H.size)) (va_cwS 3 hts gX8_row_X8_isIn rfl rfl rfl (by decide +kernel) ⟨Nat.le_of_ble_eq_true rfl, Nat.le_of_ble_eq_true rfl⟩) (kx_preS hEV hP hD [] rfl (by decide)) rfl rfl hl.1 rfl (lv_room (Nat.le_of_ble_eq_true rfl)) dX8_row_18 ⟨Nat.le_of_ble_eq_true rfl, Nat.le_of_ble_eq_true rfl⟩) (fun _ H locs _ hP hD hS => ?_)
  refine lv_iconst (v := (1 : Int32)) hx hb dX8_row_21 (by decide) ?_
  obtain ⟨u_5, hu_6, h⟩ := co_b h
  refine kx_i (ws' := fun _ => [(q0, .inr (8, [.int u_5.2, v0_n, .int f0_equations, .ref q0_eSet, .ref q0_eRight, v0_clauses, v0_cYes, v0_cNo, v0_levels, v0_levelEquations, v0_levelClauses, v0_tape, v0_tapeSize, v0_faultIs, v0_faultAt, v0_at, v0_newEquations, v0_newClauses, v0_newSet, v0_newRight, v0_newYes, v0_newNo, v0_lineYes, v0_lineNo, .int u_1.1, .ref q0_rSet, .ref q0_rRight, .int (bI u_1.2.1), v0_sumSet, v0_sumOf, v0_sumRight, v0_empty, v0_empties, v0_taken, v0_ones, v0_waitTaken, v0_waitOnes, v0_nodeCount, v0_lastModel, v0_modelCount, v0_modelIs, v0_gSet, v0_gateCount])), (q0_eSet, .inl (cL, n0_eSet, .inr (.inl h0_eSet))), (q0_eRight, .inl (cI, n0_eRight, .inl h0_eRight)), (q0_rSet, .inl (cL, n0_rSet, .inr (.inl u_1.2.2.1))), (q0_rRight, .inl (cI, n0_rRight, .inl u_1.2.2.2))]) hP hD hS hA [0] [1, 2, 3, 4] [4, 0, 1, 2, 3] rfl rfl (by decide) (by decide) (fun _ => rfl) (by decide) (va_runV (As := [.int (bI u_3), .int (bI true)]) (rest := []) ⟨hx, hb, hml, hown, hts⟩ (cm_X8_may l D cI cL (q0 := q0) (f0_thrown := f0_thrown) (v0_n := v0_n) (v0_equations := .int f0_equations) (v0_eSet := .ref q0_eSet) (v0_eRight := .ref q0_eRight) (v0_clauses := v0_clauses) (v0_cYes := v0_cYes) (v0_cNo := v0_cNo) (v0_levels := v0_levels) (v0_levelEquations := v0_levelEquations) (v0_levelClauses := v0_levelClauses) (v0_tape := v0_tape) (v0_tapeSize := v0_tapeSize) (v0_faultIs := v0_faultIs) (v0_faultAt := v0_faultAt) (v0_at := v0_at) (v0_newEquations := v0_newEquations) (v0_newClauses := v0_newClauses) (v0_newSet := v0_newSet) (v0_newRight := v0_newRight) (v0_newYes := v0_newYes) (v0_newNo := v0_newNo) (v0_lineYes := v0_lineYes) (v0_lineNo := v0_lineNo) (v0_rowCount := .int u_1.1) (v0_rSet := .ref q0_rSet) (v0_rRight := .ref q0_rRight) (v0_isImpossible := .int (bI u_1.2.1)) (v0_sumSet := v0_sumSet) (v0_sumOf := v0_sumOf) (v0_sumRight := v0_sumRight) (v0_empty := v0_empty) (v0_empties := v0_empties) (v0_taken := v0_taken) (v0_ones := v0_ones) (v0_waitTaken := v0_waitTaken) (v0_waitOnes := v0_waitOnes) (v0_nodeCount := v0_nodeCount) (v0_lastModel := v0_lastModel) (v0_modelCount := v0_modelCount) (v0_modelIs := v0_modelIs) (v0_gSet := v0_gSet) (v0_gateCount := v0_gateCount) (x1 := u_3) (x2 := true) (r0 := u_5) (hr0 := hu_6) (sz := H.size)) (cwV 2 hts gX8_row_X8_may rfl rfl rfl (by decide +kernel) ⟨Nat.le_of_ble_eq_true rfl, Nat.le_of_ble_eq_true rfl⟩) (kx_preV hEV hP hD [0] rfl (by decide) (k0 := 0) (ci := 8) rfl rfl rfl) rfl rfl hl.1 rfl (lv_room (Nat.le_of_ble_eq_true rfl)) dX8_row_22 ⟨Nat.le_of_ble_eq_true rfl, Nat.le_of_ble_eq_true rfl⟩) (fun _ H locs _ hP hD hS => ?_)
  refine lv_if_eq (tgt := 55) hx hb dX8_row_25 (by decide) (fun c_7 => ?_) (fun c_7 => ?_)
  · have k_8 : ¬ (u_5.1 = true) := (kx_z c_7)
    have h := co_f k_8 h
    refine lv_lconst (v := (0 : Int64)) hx hb dX8_row_55 (by decide) ?_
    have h := Option.some.inj h
    subst h
    subst hQ
    exact W.lret (v := (0 : Int64)) hx hb hr (fun t ht hW => ⟨⟨(0 : Int64), (), rfl, ⟨rfl, trivial⟩, by rw [ht]; exact hP, hD⟩, hS.F ht⟩) hS.2.2 dX8_row_56
  · have k_8 : u_5.1 = true := (kx_nz c_7)
    have h := co_t k_8 h
    refine lv_aload_n hx hb dX8_row_28 rfl (lv_at hl 0 rfl) ?_
    refine va_get (D := D) (ci := 8) (v := .ref q0_rSet) (C := RX8) (T := TX8) (N := 43) hx hb hts in_X8_row_X8 hown hK hP 0 rfl rfl 25 (by decide) lk_1 (fun _ h9 => h9) rfl dX8_row_29 ?_
    refine lv_iload_n hx hb dX8_row_32 rfl (lv_at hl 1 rfl) ?_
    obtain ⟨b_9, h⟩ := co_i h
    refine va_lald hx hb hK hP 3 1 rfl rfl b_9 dX8_row_33 ?_
    refine lv_aload_n hx hb dX8_row_34 rfl (lv_at hl 0 rfl) ?_
    refine va_get (D := D) (ci := 8) (v := .ref q0_rRight) (C := RX8) (T := TX8) (N := 43) hx hb hts in_X8_row_X8 hown hK hP 0 rfl rfl 26 (by decide) lk_2 (fun _ h9 => h9) rfl dX8_row_35 ?_
    refine lv_iload_n hx hb dX8_row_38 rfl (lv_at hl 1 rfl) ?_
    obtain ⟨b_10, h⟩ := co_i h
    refine va_iald hx hb hK hP 4 0 rfl rfl b_10 dX8_row_39 ?_
    refine lv_iconst (v := (1 : Int32)) hx hb dX8_row_40 (by decide) ?_
    refine lv_icmp_ne (tgt := 50) hx hb dX8_row_41 (by decide) (fun c_11 => ?_) (fun c_11 => ?_)
    · have k_12 : ¬ ((u_1.2.2.2 x1.toNatClampNeg) = (1 : Int32)) := c_11
      have h := co_f k_12 h
      refine lv_lconst (v := (0 : Int64)) hx hb dX8_row_50 (by decide) ?_
      refine lv_lor hx hb dX8_row_51 ?_
      refine lv_goto (tgt := 56) hx hb dX8_row_52 (by decide) ?_
      have h := Option.some.inj h
      subst h
      subst hQ
      exact W.lret (v := (u_1.2.2.1 x1.toNatClampNeg) ||| (0 : Int64)) hx hb hr (fun t ht hW => ⟨⟨(u_1.2.2.1 x1.toNatClampNeg) ||| (0 : Int64), (), rfl, ⟨rfl, trivial⟩, by rw [ht]; exact hP, hD⟩, hS.F ht⟩) hS.2.2 dX8_row_56
    · have k_12 : (u_1.2.2.2 x1.toNatClampNeg) = (1 : Int32) := c_11
      have h := co_t k_12 h
      refine lv_ldc2 hx hb hown lk_3 dX8_row_44 ?_
      refine lv_goto (tgt := 51) hx hb dX8_row_47 (by decide) ?_
      refine lv_lor hx hb dX8_row_51 ?_
      refine lv_goto (tgt := 56) hx hb dX8_row_52 (by decide) ?_
      have h := Option.some.inj h
      subst h
      subst hQ
      exact W.lret (v := (u_1.2.2.1 x1.toNatClampNeg) ||| (4611686018427387904 : Int64)) hx hb hr (fun t ht hW => ⟨⟨(u_1.2.2.1 x1.toNatClampNeg) ||| (4611686018427387904 : Int64), (), rfl, ⟨rfl, trivial⟩, by rw [ht]; exact hP, hD⟩, hS.F ht⟩) hS.2.2 dX8_row_56
theorem in_X8_reduced_X8 : ∀ w ∈ wsX80, w ∈ wsX8_reduced := by decide +kernel
theorem lk_0_X8_reduced : Cond.constantLong RX8 201 (1152921504606846976) ∈ wsX8_reduced := by decide +kernel
theorem lk_1_X8_reduced : Cond.fieldLink RX8 203 "ParityClausesModel" "empties" "I" ∈ wsX8_reduced := by decide +kernel
theorem lk_2_X8_reduced : Cond.fieldLink RX8 59 "ParityClausesModel" "empty" "[J" ∈ wsX8_reduced := by decide +kernel
abbrev rm_X8_reduced : Room := { frames := 1, cells := 0, slots := 0, locals := 23 }
set_option maxHeartbeats 4000000 in
set_option maxRecDepth 100000 in
theorem cm_X8_reduced (l : Launch) (D : va_G) (cI cL : ClassId) (q0 q0_empty : Nat) (n0_empty : Nat) (f0_empties : Int32) (h0_empty : Nat → Int64) (v0_thrown v0_n v0_equations v0_eSet v0_eRight v0_clauses v0_cYes v0_cNo v0_levels v0_levelEquations v0_levelClauses v0_tape v0_tapeSize v0_faultIs v0_faultAt v0_at v0_newEquations v0_newClauses v0_newSet v0_newRight v0_newYes v0_newNo v0_lineYes v0_lineNo v0_rowCount v0_rSet v0_rRight v0_isImpossible v0_sumSet v0_sumOf v0_sumRight v0_taken v0_ones v0_waitTaken v0_waitOnes v0_nodeCount v0_lastModel v0_modelCount v0_modelIs v0_gSet v0_gateCount : Value) (x1 : Int64) (r0 : Int64) (hr0 : D_X8_reduced f0_empties n0_empty h0_empty x1 = some r0) (sz : Nat) : Met l yX8_reduced wsX8_reduced rm_X8_reduced (PcW D cI cL [.ref q0, .long x1] [(q0, .inr (8, [v0_thrown, v0_n, v0_equations, v0_eSet, v0_eRight, v0_clauses, v0_cYes, v0_cNo, v0_levels, v0_levelEquations, v0_levelClauses, v0_tape, v0_tapeSize, v0_faultIs, v0_faultAt, v0_at, v0_newEquations, v0_newClauses, v0_newSet, v0_newRight, v0_newYes, v0_newNo, v0_lineYes, v0_lineNo, v0_rowCount, v0_rSet, v0_rRight, v0_isImpossible, v0_sumSet, v0_sumOf, v0_sumRight, .ref q0_empty, .int f0_empties, v0_taken, v0_ones, v0_waitTaken, v0_waitOnes, v0_nodeCount, v0_lastModel, v0_modelCount, v0_modelIs, v0_gSet, v0_gateCount])), (q0_empty, .inl (cL, n0_empty, .inr (.inl h0_empty)))] sz) (QlW D [(q0, .inr (8, [v0_thrown, v0_n, v0_equations, v0_eSet, v0_eRight, v0_clauses, v0_cYes, v0_cNo, v0_levels, v0_levelEquations, v0_levelClauses, v0_tape, v0_tapeSize, v0_faultIs, v0_faultAt, v0_at, v0_newEquations, v0_newClauses, v0_newSet, v0_newRight, v0_newYes, v0_newNo, v0_lineYes, v0_lineNo, v0_rowCount, v0_rSet, v0_rRight, v0_isImpossible, v0_sumSet, v0_sumOf, v0_sumRight, .ref q0_empty, .int f0_empties, v0_taken, v0_ones, v0_waitTaken, v0_waitOnes, v0_nodeCount, v0_lastModel, v0_modelCount, v0_modelIs, v0_gSet, v0_gateCount])), (q0_empty, .inl (cL, n0_empty, .inr (.inl h0_empty)))] r0 (fun _ : Unit => [(q0, .inr (8, [v0_thrown, v0_n, v0_equations, v0_eSet, v0_eRight, v0_clauses, v0_cYes, v0_cNo, v0_levels, v0_levelEquations, v0_levelClauses, v0_tape, v0_tapeSize, v0_faultIs, v0_faultAt, v0_at, v0_newEquations, v0_newClauses, v0_newSet, v0_newRight, v0_newYes, v0_newNo, v0_lineYes, v0_lineNo, v0_rowCount, v0_rSet, v0_rRight, v0_isImpossible, v0_sumSet, v0_sumOf, v0_sumRight, .ref q0_empty, .int f0_empties, v0_taken, v0_ones, v0_waitTaken, v0_waitOnes, v0_nodeCount, v0_lastModel, v0_modelCount, v0_modelIs, v0_gSet, v0_gateCount])), (q0_empty, .inl (cL, n0_empty, .inr (.inl h0_empty)))]) tU sz) 0 0 (va_A [(q0, .inr (8, [v0_thrown, v0_n, v0_equations, v0_eSet, v0_eRight, v0_clauses, v0_cYes, v0_cNo, v0_levels, v0_levelEquations, v0_levelClauses, v0_tape, v0_tapeSize, v0_faultIs, v0_faultAt, v0_at, v0_newEquations, v0_newClauses, v0_newSet, v0_newRight, v0_newYes, v0_newNo, v0_lineYes, v0_lineNo, v0_rowCount, v0_rSet, v0_rRight, v0_isImpossible, v0_sumSet, v0_sumOf, v0_sumRight, .ref q0_empty, .int f0_empties, v0_taken, v0_ones, v0_waitTaken, v0_waitOnes, v0_nodeCount, v0_lastModel, v0_modelCount, v0_modelIs, v0_gSet, v0_gateCount])), (q0_empty, .inl (cL, n0_empty, .inr (.inl h0_empty)))] sz) := by
  refine Met.ofW (cc := cX8_reduced) (maxL := 8) (ret := (some .long)) (by decide) rfl ?_
  intro p e s m args below meth c s₁ B hml hv
  obtain ⟨hargs, hsz, hP, hEV, hD0⟩ := hv
  have hx := B.exec
  have hb := B.bytes
  have hr := B.returns
  have hts := atoms_spec (ws := wsX8_reduced) B.pre
  have hown : s.vm.findClass RX8 = some m.cls := findClass_of_methodNamed B.named
  have hlocks := B.notSynchronized
  have hK := hEV.K
  have lk_0 := hts _ lk_0_X8_reduced
  have lk_1 := hts _ lk_1_X8_reduced
  have lk_2 := hts _ lk_2_X8_reduced
  subst hsz
  unfold QlW PoW
  have hD := hD0.self (sz := s.heap.size)
  generalize hAe : va_A [(q0, .inr (8, [v0_thrown, v0_n, v0_equations, v0_eSet, v0_eRight, v0_clauses, v0_cYes, v0_cNo, v0_levels, v0_levelEquations, v0_levelClauses, v0_tape, v0_tapeSize, v0_faultIs, v0_faultAt, v0_at, v0_newEquations, v0_newClauses, v0_newSet, v0_newRight, v0_newYes, v0_newNo, v0_lineYes, v0_lineNo, v0_rowCount, v0_rSet, v0_rRight, v0_isImpossible, v0_sumSet, v0_sumOf, v0_sumRight, .ref q0_empty, .int f0_empties, v0_taken, v0_ones, v0_waitTaken, v0_waitOnes, v0_nodeCount, v0_lastModel, v0_modelCount, v0_modelIs, v0_gSet, v0_gateCount])), (q0_empty, .inl (cL, n0_empty, .inr (.inl h0_empty)))] s.heap.size = A at hD ⊢
  have hA : ∀ q : Nat, s.heap.size ≤ q → A q := fun q h => by rw [← hAe]; exact Or.inr h
  have hent : entryFrame m args 8 = entryFrame m ([.ref q0, .long x1] : List Value).toArray 8 := by rw [hargs]
  rw [hent]
  refine kx_Q (fun Q hQ => ?_)
  refine kx_H (fun H hH => ?_)
  have hP : va_P D vwCl [(q0, .inr (8, [v0_thrown, v0_n, v0_equations, v0_eSet, v0_eRight, v0_clauses, v0_cYes, v0_cNo, v0_levels, v0_levelEquations, v0_levelClauses, v0_tape, v0_tapeSize, v0_faultIs, v0_faultAt, v0_at, v0_newEquations, v0_newClauses, v0_newSet, v0_newRight, v0_newYes, v0_newNo, v0_lineYes, v0_lineNo, v0_rowCount, v0_rSet, v0_rRight, v0_isImpossible, v0_sumSet, v0_sumOf, v0_sumRight, .ref q0_empty, .int f0_empties, v0_taken, v0_ones, v0_waitTaken, v0_waitOnes, v0_nodeCount, v0_lastModel, v0_modelCount, v0_modelIs, v0_gSet, v0_gateCount])), (q0_empty, .inl (cL, n0_empty, .inr (.inl h0_empty)))] H := by rw [hH]; exact hP
  have hS : va_S A s.heap H [] := by rw [hH]; exact va_S.rf
  have hl := lv_entry ([.ref q0, .long x1]) (n := 8) (Nat.le_of_ble_eq_true rfl)
  rw [lg_entry_eq]
  generalize (lg_sl ([.ref q0, .long x1]) ++ List.replicate (8 - (lg_sl ([.ref q0, .long x1])).length) Slot.unset).toArray = ls at hl ⊢
  have hl : lv_has ls 8 [(0, .ref q0), (1, .long x1)] := hl
  have hloop : ∀ n9 : Nat, (∀ (x3 : Int64) (x5 : Int64), iter (st_X8_reduced f0_empties n0_empty h0_empty x1) n9 (.inl (x3, x5)) = some r0 → ∀ (H : Heap) (locs : List Loc) (ls : Array Slot), va_P D vwCl [(q0, .inr (8, [v0_thrown, v0_n, v0_equations, v0_eSet, v0_eRight, v0_clauses, v0_cYes, v0_cNo, v0_levels, v0_levelEquations, v0_levelClauses, v0_tape, v0_tapeSize, v0_faultIs, v0_faultAt, v0_at, v0_newEquations, v0_newClauses, v0_newSet, v0_newRight, v0_newYes, v0_newNo, v0_lineYes, v0_lineNo, v0_rowCount, v0_rSet, v0_rRight, v0_isImpossible, v0_sumSet, v0_sumOf, v0_sumRight, .ref q0_empty, .int f0_empties, v0_taken, v0_ones, v0_waitTaken, v0_waitOnes, v0_nodeCount, v0_lastModel, v0_modelCount, v0_modelIs, v0_gSet, v0_gateCount])), (q0_empty, .inl (cL, n0_empty, .inr (.inl h0_empty)))] H → va_D A [(q0, .inr (8, [v0_thrown, v0_n, v0_equations, v0_eSet, v0_eRight, v0_clauses, v0_cYes, v0_cNo, v0_levels, v0_levelEquations, v0_levelClauses, v0_tape, v0_tapeSize, v0_faultIs, v0_faultAt, v0_at, v0_newEquations, v0_newClauses, v0_newSet, v0_newRight, v0_newYes, v0_newNo, v0_lineYes, v0_lineNo, v0_rowCount, v0_rSet, v0_rRight, v0_isImpossible, v0_sumSet, v0_sumOf, v0_sumRight, .ref q0_empty, .int f0_empties, v0_taken, v0_ones, v0_waitTaken, v0_waitOnes, v0_nodeCount, v0_lastModel, v0_modelCount, v0_modelIs, v0_gSet, v0_gateCount])), (q0_empty, .inl (cL, n0_empty, .inr (.inl h0_empty)))] → va_S A s.heap H locs → lv_has ls 8 [(0, .ref q0), (3, .long x3), (5, .long x5)] → W p l e (headSpec wsX8_reduced rm_X8_reduced).room s m args below meth c H locs 0 0 Q (F0 m 7 ls [])) ∧ (∀ (x3 : Int64) (x5 : Int64) (x7 : Int32), iter (st_X8_reduced f0_empties n0_empty h0_empty x1) n9 (.inr (x3, x5, x7)) = some r0 → ∀ (H : Heap) (locs : List Loc) (ls : Array Slot), va_P D vwCl [(q0, .inr (8, [v0_thrown, v0_n, v0_equations, v0_eSet, v0_eRight, v0_clauses, v0_cYes, v0_cNo, v0_levels, v0_levelEquations, v0_levelClauses, v0_tape, v0_tapeSize, v0_faultIs, v0_faultAt, v0_at, v0_newEquations, v0_newClauses, v0_newSet, v0_newRight, v0_newYes, v0_newNo, v0_lineYes, v0_lineNo, v0_rowCount, v0_rSet, v0_rRight, v0_isImpossible, v0_sumSet, v0_sumOf, v0_sumRight, .ref q0_empty, .int f0_empties, v0_taken, v0_ones, v0_waitTaken, v0_waitOnes, v0_nodeCount, v0_lastModel, v0_modelCount, v0_modelIs, v0_gSet, v0_gateCount])), (q0_empty, .inl (cL, n0_empty, .inr (.inl h0_empty)))] H → va_D A [(q0, .inr (8, [v0_thrown, v0_n, v0_equations, v0_eSet, v0_eRight, v0_clauses, v0_cYes, v0_cNo, v0_levels, v0_levelEquations, v0_levelClauses, v0_tape, v0_tapeSize, v0_faultIs, v0_faultAt, v0_at, v0_newEquations, v0_newClauses, v0_newSet, v0_newRight, v0_newYes, v0_newNo, v0_lineYes, v0_lineNo, v0_rowCount, v0_rSet, v0_rRight, v0_isImpossible, v0_sumSet, v0_sumOf, v0_sumRight, .ref q0_empty, .int f0_empties, v0_taken, v0_ones, v0_waitTaken, v0_waitOnes, v0_nodeCount, v0_lastModel, v0_modelCount, v0_modelIs, v0_gSet, v0_gateCount])), (q0_empty, .inl (cL, n0_empty, .inr (.inl h0_empty)))] → va_S A s.heap H locs → lv_has ls 8 [(0, .ref q0), (3, .long x3), (5, .long x5), (7, .int x7)] → W p l e (headSpec wsX8_reduced rm_X8_reduced).room s m args below meth c H locs 0 0 Q (F0 m 17 ls [])) := by
    intro n9
    induction n9 with
    | zero => exact ⟨(fun _ _ h => nomatch h), (fun _ _ _ h => nomatch h)⟩
    | succ n9 ih =>
      refine ⟨?_, ?_⟩
      · intro x3 x5 h H locs ls hP hD hS hl
        have h : run1 (iter (st_X8_reduced f0_empties n0_empty h0_empty x1) n9) (b_X8_reduced_7 f0_empties n0_empty h0_empty x1 x3 x5) = some r0 := h
        unfold b_X8_reduced_7 at h
        refine lv_lload hx hb dX8_reduced_7 (lv_at hl 2 rfl) ?_
        refine lv_lconst (v := (0 : Int64)) hx hb dX8_reduced_9 (by decide) ?_
        refine W.lcmp hx hb dX8_reduced_10 ?_
        refine lv_if_le (tgt := 76) hx hb dX8_reduced_11 (by decide) (fun c_1 => ?_) (fun c_1 => ?_)
        · have k_2 : x5 ≤ (0 : Int64) := ((lg_cmp_le _ _).mp c_1)
          have h := cw_t k_2 h
          refine lv_lload_n hx hb dX8_reduced_76 rfl (lv_at hl 1 rfl) ?_
          have h := Option.some.inj h
          subst h
          subst hQ
          exact W.lret (v := x3) hx hb hr (fun t ht hW => ⟨⟨x3, (), rfl, ⟨rfl, trivial⟩, by rw [ht]; exact hP, hD⟩, hS.F ht⟩) hS.2.2 dX8_reduced_77
        · have k_2 : ¬ (x5 ≤ (0 : Int64)) := (fun z9 => c_1 ((lg_cmp_le _ _).mpr z9))
          have h := cw_f k_2 h
          refine lv_iconst (v := (0 : Int32)) hx hb dX8_reduced_14 (by decide) ?_
          refine lv_istore (lv' := [(7, .int (0 : Int32)), (0, .ref q0), (3, .long x3), (5, .long x5)]) hx hb dX8_reduced_15 hl (by decide) rfl (fun ls hl => ?_)
          exact ih.2 _ _ _ h _ _ _ hP hD hS (lv_sub hl [1, 2, 3, 0] rfl)
      · intro x3 x5 x7 h H locs ls hP hD hS hl
        have h : run1 (iter (st_X8_reduced f0_empties n0_empty h0_empty x1) n9) (b_X8_reduced_17 f0_empties n0_empty h0_empty x1 x3 x5 x7) = some r0 := h
        unfold b_X8_reduced_17 at h
        refine lv_iload hx hb dX8_reduced_17 (lv_at hl 3 rfl) ?_
        refine lv_aload_n hx hb dX8_reduced_19 rfl (lv_at hl 0 rfl) ?_
        refine va_get (D := D) (ci := 8) (v := .int f0_empties) (C := RX8) (T := TX8) (N := 43) hx hb hts in_X8_reduced_X8 hown hK hP 0 rfl rfl 32 (by decide) lk_1 (fun _ h9 => h9) rfl dX8_reduced_20 ?_
        refine lv_icmp_ge (tgt := 67) hx hb dX8_reduced_23 (by decide) (fun c_3 => ?_) (fun c_3 => ?_)
        · have k_4 : f0_empties ≤ x7 := c_3
          have h := cw_t k_4 h
          refine lv_lload hx hb dX8_reduced_67 (lv_at hl 2 rfl) ?_
          refine lv_iconst (v := (1 : Int32)) hx hb dX8_reduced_69 (by decide) ?_
          refine lv_lshr (v := jshr x5 (1 : Int32)) hx hb dX8_reduced_70 rfl ?_
          refine lv_lstore (lv' := [(5, .long (jshr x5 (1 : Int32))), (0, .ref q0), (3, .long x3), (7, .int x7)]) hx hb dX8_reduced_71 hl (by decide) rfl (fun ls hl => ?_)
          refine lv_goto (tgt := 7) hx hb dX8_reduced_73 (by decide) ?_
          exact ih.1 _ _ h _ _ _ hP hD hS (lv_sub hl [1, 2, 0] rfl)
        · have k_4 : ¬ (f0_empties ≤ x7) := c_3
          have h := cw_f k_4 h
          refine lv_lload_n hx hb dX8_reduced_26 rfl (lv_at hl 1 rfl) ?_
          refine lv_lload hx hb dX8_reduced_27 (lv_at hl 2 rfl) ?_
          refine lv_land hx hb dX8_reduced_29 ?_
          refine lv_lconst (v := (0 : Int64)) hx hb dX8_reduced_30 (by decide) ?_
          refine W.lcmp hx hb dX8_reduced_31 ?_
          refine lv_if_eq (tgt := 67) hx hb dX8_reduced_32 (by decide) (fun c_5 => ?_) (fun c_5 => ?_)
          · have k_6 : (x3 &&& x5) = (0 : Int64) := ((lg_cmp_eq _ _).mp c_5)
            have h := cw_t k_6 h
            refine lv_lload hx hb dX8_reduced_67 (lv_at hl 2 rfl) ?_
            refine lv_iconst (v := (1 : Int32)) hx hb dX8_reduced_69 (by decide) ?_
            refine lv_lshr (v := jshr x5 (1 : Int32)) hx hb dX8_reduced_70 rfl ?_
            refine lv_lstore (lv' := [(5, .long (jshr x5 (1 : Int32))), (0, .ref q0), (3, .long x3), (7, .int x7)]) hx hb dX8_reduced_71 hl (by decide) rfl (fun ls hl => ?_)
            refine lv_goto (tgt := 7) hx hb dX8_reduced_73 (by decide) ?_
            exact ih.1 _ _ h _ _ _ hP hD hS (lv_sub hl [1, 2, 0] rfl)
          · have k_6 : ¬ ((x3 &&& x5) = (0 : Int64)) := (fun z9 => c_5 ((lg_cmp_eq _ _).mpr z9))
            have h := cw_f k_6 h
            refine lv_aload_n hx hb dX8_reduced_35 rfl (lv_at hl 0 rfl) ?_
            refine va_get (D := D) (ci := 8) (v := .ref q0_empty) (C := RX8) (T := TX8) (N := 43) hx hb hts in_X8_reduced_X8 hown hK hP 0 rfl rfl 31 (by decide) lk_2 (fun _ h9 => h9) rfl dX8_reduced_36 ?_
            refine lv_iload hx hb dX8_reduced_39 (lv_at hl 3 rfl) ?_
            obtain ⟨b_7, h⟩ := cw_i h
            refine va_lald hx hb hK hP 1 1 rfl rfl b_7 dX8_reduced_41 ?_
            obtain ⟨u_8, hu_9, h⟩ := cw_b h
            refine kx_l (ws' := fun _ => [(q0, .inr (8, [v0_thrown, v0_n, v0_equations, v0_eSet, v0_eRight, v0_clauses, v0_cYes, v0_cNo, v0_levels, v0_levelEquations, v0_levelClauses, v0_tape, v0_tapeSize, v0_faultIs, v0_faultAt, v0_at, v0_newEquations, v0_newClauses, v0_newSet, v0_newRight, v0_newYes, v0_newNo, v0_lineYes, v0_lineNo, v0_rowCount, v0_rSet, v0_rRight, v0_isImpossible, v0_sumSet, v0_sumOf, v0_sumRight, .ref q0_empty, .int f0_empties, v0_taken, v0_ones, v0_waitTaken, v0_waitOnes, v0_nodeCount, v0_lastModel, v0_modelCount, v0_modelIs, v0_gSet, v0_gateCount])), (q0_empty, .inl (cL, n0_empty, .inr (.inl h0_empty)))]) hP hD hS hA [] [0, 1] [0, 1] rfl rfl (by decide) (by decide) (fun _ => rfl) (by decide) (va_runS (As := [.long (h0_empty x7.toNatClampNeg)]) (rest := []) ⟨hx, hb, hml, hown, hts⟩ (cm_X8_highest l D cI cL (x0 := h0_empty x7.toNatClampNeg) (r0 := u_8) (hr0 := hu_9) (sz := H.size)) (va_cwS 1 hts gX8_reduced_X8_highest rfl rfl rfl (by decide +kernel) ⟨Nat.le_of_ble_eq_true rfl, Nat.le_of_ble_eq_true rfl⟩) (kx_preS hEV hP hD [] rfl (by decide)) rfl rfl hl.1 rfl (lv_room (Nat.le_of_ble_eq_true rfl)) dX8_reduced_42 ⟨Nat.le_of_ble_eq_true rfl, Nat.le_of_ble_eq_true rfl⟩) (fun _ H locs _ hP hD hS => ?_)
            refine lv_lload hx hb dX8_reduced_45 (lv_at hl 2 rfl) ?_
            refine W.lcmp hx hb dX8_reduced_47 ?_
            refine lv_if_ne (tgt := 61) hx hb dX8_reduced_48 (by decide) (fun c_10 => ?_) (fun c_10 => ?_)
            · have k_11 : ¬ (u_8 = x5) := (fun z9 => c_10 ((lg_cmp_eq _ _).mpr z9))
              have h := cw_f k_11 h
              refine lv_iinc (v := x7 + (1 : Int32)) (lv' := [(7, .int (x7 + (1 : Int32))), (0, .ref q0), (3, .long x3), (5, .long x5)]) hx hb dX8_reduced_61 hl (k := 3) rfl rfl (by decide) rfl (fun ls hl => ?_)
              refine lv_goto (tgt := 17) hx hb dX8_reduced_64 (by decide) ?_
              exact ih.2 _ _ _ h _ _ _ hP hD hS (lv_sub hl [1, 2, 3, 0] rfl)
            · have k_11 : u_8 = x5 := ((lg_cmp_eq _ _).mp c_10)
              have h := cw_t k_11 h
              refine lv_lload_n hx hb dX8_reduced_51 rfl (lv_at hl 1 rfl) ?_
              refine lv_aload_n hx hb dX8_reduced_52 rfl (lv_at hl 0 rfl) ?_
              refine va_get (D := D) (ci := 8) (v := .ref q0_empty) (C := RX8) (T := TX8) (N := 43) hx hb hts in_X8_reduced_X8 hown hK hP 0 rfl rfl 31 (by decide) lk_2 (fun _ h9 => h9) rfl dX8_reduced_53 ?_
              refine lv_iload hx hb dX8_reduced_56 (lv_at hl 3 rfl) ?_
              obtain ⟨b_12, h⟩ := cw_i h
              refine va_lald hx hb hK hP 1 1 rfl rfl b_12 dX8_reduced_58 ?_
              refine lv_lxor hx hb dX8_reduced_59 ?_
              refine lv_lstore_n (lv' := [(3, .long (x3 ^^^ (h0_empty x7.toNatClampNeg))), (0, .ref q0), (5, .long x5), (7, .int x7)]) hx hb dX8_reduced_60 rfl hl (by decide) rfl (fun ls hl => ?_)
              refine lv_iinc (v := x7 + (1 : Int32)) (lv' := [(7, .int (x7 + (1 : Int32))), (3, .long (x3 ^^^ (h0_empty x7.toNatClampNeg))), (0, .ref q0), (5, .long x5)]) hx hb dX8_reduced_61 hl (k := 3) rfl rfl (by decide) rfl (fun ls hl => ?_)
              refine lv_goto (tgt := 17) hx hb dX8_reduced_64 (by decide) ?_
              exact ih.2 _ _ _ h _ _ _ hP hD hS (lv_sub hl [2, 1, 3, 0] rfl)
  have h := hr0
  unfold D_X8_reduced at h
  refine lv_lload_n hx hb dX8_reduced_0 rfl (lv_at hl 1 rfl) ?_
  refine lv_lstore_n (lv' := [(3, .long x1), (0, .ref q0), (1, .long x1)]) hx hb dX8_reduced_1 rfl hl (by decide) rfl (fun ls hl => ?_)
  refine lv_ldc2 hx hb hown lk_0 dX8_reduced_2 ?_
  refine lv_lstore (lv' := [(5, .long (1152921504606846976 : Int64)), (3, .long x1), (0, .ref q0), (1, .long x1)]) hx hb dX8_reduced_5 hl (by decide) rfl (fun ls hl => ?_)
  obtain ⟨n9, hn9⟩ := runw_some h
  exact (hloop n9).1 _ _ hn9 _ _ _ hP hD hS (lv_sub hl [2, 1, 0] rfl)
