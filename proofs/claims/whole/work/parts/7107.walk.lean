theorem in_X8_blame_X8 : ∀ w ∈ wsX80, w ∈ wsX8_blame := by decide +kernel
theorem lk_0_X8_blame : Cond.fieldLink RX8 81 "ParityClausesModel" "thrown" "I" ∈ wsX8_blame := by decide +kernel
theorem lk_1_X8_blame : Cond.fieldLink RX8 203 "ParityClausesModel" "empties" "I" ∈ wsX8_blame := by decide +kernel
theorem lk_2_X8_blame : Cond.fieldLink RX8 98 "ParityClausesModel" "equations" "I" ∈ wsX8_blame := by decide +kernel
theorem lk_3_X8_blame : Cond.fieldLink RX8 7 "ParityClausesModel" "eSet" "[J" ∈ wsX8_blame := by decide +kernel
theorem lk_4_X8_blame : Cond.fieldLink RX8 13 "ParityClausesModel" "eRight" "[I" ∈ wsX8_blame := by decide +kernel
theorem lk_5_X8_blame : Cond.fieldLink RX8 59 "ParityClausesModel" "empty" "[J" ∈ wsX8_blame := by decide +kernel
theorem lk_6_X8_blame : Cond.fieldLink RX8 50 "ParityClausesModel" "sumSet" "[J" ∈ wsX8_blame := by decide +kernel
theorem lk_7_X8_blame : Cond.fieldLink RX8 53 "ParityClausesModel" "sumOf" "[J" ∈ wsX8_blame := by decide +kernel
theorem lk_8_X8_blame : Cond.fieldLink RX8 56 "ParityClausesModel" "sumRight" "[I" ∈ wsX8_blame := by decide +kernel
abbrev rm_X8_blame : Room := { frames := 2, cells := 0, slots := 0, locals := 50 }
set_option maxHeartbeats 4000000 in
set_option maxRecDepth 100000 in
theorem cm_X8_blame (l : Launch) (D : va_G) (cI cL : ClassId) (q0 q0_eSet q0_eRight q0_sumSet q0_sumOf q0_sumRight q0_empty : Nat) (n0_eSet n0_eRight n0_sumSet n0_sumOf n0_sumRight n0_empty : Nat) (f0_thrown : Int32) (f0_equations : Int32) (f0_empties : Int32) (h0_eSet : Nat → Int64) (h0_eRight : Nat → Int32) (h0_sumSet : Nat → Int64) (h0_sumOf : Nat → Int64) (h0_sumRight : Nat → Int32) (h0_empty : Nat → Int64) (v0_n v0_clauses v0_cYes v0_cNo v0_levels v0_levelEquations v0_levelClauses v0_tape v0_tapeSize v0_faultIs v0_faultAt v0_at v0_newEquations v0_newClauses v0_newSet v0_newRight v0_newYes v0_newNo v0_lineYes v0_lineNo v0_rowCount v0_rSet v0_rRight v0_isImpossible v0_taken v0_ones v0_waitTaken v0_waitOnes v0_nodeCount v0_lastModel v0_modelCount v0_modelIs v0_gSet v0_gateCount : Value) (r0 : Int64 × Int32 × Int32 × (Nat → Int64) × (Nat → Int64) × (Nat → Int32) × (Nat → Int64)) (hr0 : D_X8_blame f0_thrown f0_equations f0_empties n0_eSet h0_eSet n0_eRight h0_eRight n0_sumSet h0_sumSet n0_sumOf h0_sumOf n0_sumRight h0_sumRight n0_empty h0_empty = some r0) (sz : Nat) : Met l yX8_blame wsX8_blame rm_X8_blame (PcW D cI cL [.ref q0] [(q0, .inr (8, [.int f0_thrown, v0_n, .int f0_equations, .ref q0_eSet, .ref q0_eRight, v0_clauses, v0_cYes, v0_cNo, v0_levels, v0_levelEquations, v0_levelClauses, v0_tape, v0_tapeSize, v0_faultIs, v0_faultAt, v0_at, v0_newEquations, v0_newClauses, v0_newSet, v0_newRight, v0_newYes, v0_newNo, v0_lineYes, v0_lineNo, v0_rowCount, v0_rSet, v0_rRight, v0_isImpossible, .ref q0_sumSet, .ref q0_sumOf, .ref q0_sumRight, .ref q0_empty, .int f0_empties, v0_taken, v0_ones, v0_waitTaken, v0_waitOnes, v0_nodeCount, v0_lastModel, v0_modelCount, v0_modelIs, v0_gSet, v0_gateCount])), (q0_eSet, .inl (cL, n0_eSet, .inr (.inl h0_eSet))), (q0_eRight, .inl (cI, n0_eRight, .inl h0_eRight)), (q0_sumSet, .inl (cL, n0_sumSet, .inr (.inl h0_sumSet))), (q0_sumOf, .inl (cL, n0_sumOf, .inr (.inl h0_sumOf))), (q0_sumRight, .inl (cI, n0_sumRight, .inl h0_sumRight)), (q0_empty, .inl (cL, n0_empty, .inr (.inl h0_empty)))] sz) (QlW D [(q0, .inr (8, [.int f0_thrown, v0_n, .int f0_equations, .ref q0_eSet, .ref q0_eRight, v0_clauses, v0_cYes, v0_cNo, v0_levels, v0_levelEquations, v0_levelClauses, v0_tape, v0_tapeSize, v0_faultIs, v0_faultAt, v0_at, v0_newEquations, v0_newClauses, v0_newSet, v0_newRight, v0_newYes, v0_newNo, v0_lineYes, v0_lineNo, v0_rowCount, v0_rSet, v0_rRight, v0_isImpossible, .ref q0_sumSet, .ref q0_sumOf, .ref q0_sumRight, .ref q0_empty, .int f0_empties, v0_taken, v0_ones, v0_waitTaken, v0_waitOnes, v0_nodeCount, v0_lastModel, v0_modelCount, v0_modelIs, v0_gSet, v0_gateCount])), (q0_eSet, .inl (cL, n0_eSet, .inr (.inl h0_eSet))), (q0_eRight, .inl (cI, n0_eRight, .inl h0_eRight)), (q0_sumSet, .inl (cL, n0_sumSet, .inr (.inl h0_sumSet))), (q0_sumOf, .inl (cL, n0_sumOf, .inr (.inl h0_sumOf))), (q0_sumRight, .inl (cI, n0_sumRight, .inl h0_sumRight)), (q0_empty, .inl (cL, n0_empty, .inr (.inl h0_empty)))] r0.1 (fun _ : Unit => [(q0, .inr (8, [.int r0.2.1, v0_n, .int f0_equations, .ref q0_eSet, .ref q0_eRight, v0_clauses, v0_cYes, v0_cNo, v0_levels, v0_levelEquations, v0_levelClauses, v0_tape, v0_tapeSize, v0_faultIs, v0_faultAt, v0_at, v0_newEquations, v0_newClauses, v0_newSet, v0_newRight, v0_newYes, v0_newNo, v0_lineYes, v0_lineNo, v0_rowCount, v0_rSet, v0_rRight, v0_isImpossible, .ref q0_sumSet, .ref q0_sumOf, .ref q0_sumRight, .ref q0_empty, .int r0.2.2.1, v0_taken, v0_ones, v0_waitTaken, v0_waitOnes, v0_nodeCount, v0_lastModel, v0_modelCount, v0_modelIs, v0_gSet, v0_gateCount])), (q0_eSet, .inl (cL, n0_eSet, .inr (.inl h0_eSet))), (q0_eRight, .inl (cI, n0_eRight, .inl h0_eRight)), (q0_sumSet, .inl (cL, n0_sumSet, .inr (.inl r0.2.2.2.1))), (q0_sumOf, .inl (cL, n0_sumOf, .inr (.inl r0.2.2.2.2.1))), (q0_sumRight, .inl (cI, n0_sumRight, .inl r0.2.2.2.2.2.1)), (q0_empty, .inl (cL, n0_empty, .inr (.inl r0.2.2.2.2.2.2)))]) tU sz) 0 0 (va_A [(q0, .inr (8, [.int f0_thrown, v0_n, .int f0_equations, .ref q0_eSet, .ref q0_eRight, v0_clauses, v0_cYes, v0_cNo, v0_levels, v0_levelEquations, v0_levelClauses, v0_tape, v0_tapeSize, v0_faultIs, v0_faultAt, v0_at, v0_newEquations, v0_newClauses, v0_newSet, v0_newRight, v0_newYes, v0_newNo, v0_lineYes, v0_lineNo, v0_rowCount, v0_rSet, v0_rRight, v0_isImpossible, .ref q0_sumSet, .ref q0_sumOf, .ref q0_sumRight, .ref q0_empty, .int f0_empties, v0_taken, v0_ones, v0_waitTaken, v0_waitOnes, v0_nodeCount, v0_lastModel, v0_modelCount, v0_modelIs, v0_gSet, v0_gateCount])), (q0_eSet, .inl (cL, n0_eSet, .inr (.inl h0_eSet))), (q0_eRight, .inl (cI, n0_eRight, .inl h0_eRight)), (q0_sumSet, .inl (cL, n0_sumSet, .inr (.inl h0_sumSet))), (q0_sumOf, .inl (cL, n0_sumOf, .inr (.inl h0_sumOf))), (q0_sumRight, .inl (cI, n0_sumRight, .inl h0_sumRight)), (q0_empty, .inl (cL, n0_empty, .inr (.inl h0_empty)))] sz) := by
  refine Met.ofW (cc := cX8_blame) (maxL := 12) (ret := (some .long)) (by decide) rfl ?_
  intro p e s m args below meth c s₁ B hml hv
  obtain ⟨hargs, hsz, hP, hEV, hD0⟩ := hv
  have hx := B.exec
  have hb := B.bytes
  have hr := B.returns
  have hts := atoms_spec (ws := wsX8_blame) B.pre
  have hown : s.vm.findClass RX8 = some m.cls := findClass_of_methodNamed B.named
  have hlocks := B.notSynchronized
  have hK := hEV.K
  have lk_0 := hts _ lk_0_X8_blame
  have lk_1 := hts _ lk_1_X8_blame
  have lk_2 := hts _ lk_2_X8_blame
  have lk_3 := hts _ lk_3_X8_blame
  have lk_4 := hts _ lk_4_X8_blame
  have lk_5 := hts _ lk_5_X8_blame
  have lk_6 := hts _ lk_6_X8_blame
  have lk_7 := hts _ lk_7_X8_blame
  have lk_8 := hts _ lk_8_X8_blame
  subst hsz
  unfold QlW PoW
  have hD := hD0.self (sz := s.heap.size)
  generalize hAe : va_A [(q0, .inr (8, [.int f0_thrown, v0_n, .int f0_equations, .ref q0_eSet, .ref q0_eRight, v0_clauses, v0_cYes, v0_cNo, v0_levels, v0_levelEquations, v0_levelClauses, v0_tape, v0_tapeSize, v0_faultIs, v0_faultAt, v0_at, v0_newEquations, v0_newClauses, v0_newSet, v0_newRight, v0_newYes, v0_newNo, v0_lineYes, v0_lineNo, v0_rowCount, v0_rSet, v0_rRight, v0_isImpossible, .ref q0_sumSet, .ref q0_sumOf, .ref q0_sumRight, .ref q0_empty, .int f0_empties, v0_taken, v0_ones, v0_waitTaken, v0_waitOnes, v0_nodeCount, v0_lastModel, v0_modelCount, v0_modelIs, v0_gSet, v0_gateCount])), (q0_eSet, .inl (cL, n0_eSet, .inr (.inl h0_eSet))), (q0_eRight, .inl (cI, n0_eRight, .inl h0_eRight)), (q0_sumSet, .inl (cL, n0_sumSet, .inr (.inl h0_sumSet))), (q0_sumOf, .inl (cL, n0_sumOf, .inr (.inl h0_sumOf))), (q0_sumRight, .inl (cI, n0_sumRight, .inl h0_sumRight)), (q0_empty, .inl (cL, n0_empty, .inr (.inl h0_empty)))] s.heap.size = A at hD ⊢
  have hA : ∀ q : Nat, s.heap.size ≤ q → A q := fun q h => by rw [← hAe]; exact Or.inr h
  have hent : entryFrame m args 12 = entryFrame m ([.ref q0] : List Value).toArray 12 := by rw [hargs]
  rw [hent]
  refine kx_Q (fun Q hQ => ?_)
  refine kx_H (fun H hH => ?_)
  have hP : va_P D vwCl [(q0, .inr (8, [.int f0_thrown, v0_n, .int f0_equations, .ref q0_eSet, .ref q0_eRight, v0_clauses, v0_cYes, v0_cNo, v0_levels, v0_levelEquations, v0_levelClauses, v0_tape, v0_tapeSize, v0_faultIs, v0_faultAt, v0_at, v0_newEquations, v0_newClauses, v0_newSet, v0_newRight, v0_newYes, v0_newNo, v0_lineYes, v0_lineNo, v0_rowCount, v0_rSet, v0_rRight, v0_isImpossible, .ref q0_sumSet, .ref q0_sumOf, .ref q0_sumRight, .ref q0_empty, .int f0_empties, v0_taken, v0_ones, v0_waitTaken, v0_waitOnes, v0_nodeCount, v0_lastModel, v0_modelCount, v0_modelIs, v0_gSet, v0_gateCount])), (q0_eSet, .inl (cL, n0_eSet, .inr (.inl h0_eSet))), (q0_eRight, .inl (cI, n0_eRight, .inl h0_eRight)), (q0_sumSet, .inl (cL, n0_sumSet, .inr (.inl h0_sumSet))), (q0_sumOf, .inl (cL, n0_sumOf, .inr (.inl h0_sumOf))), (q0_sumRight, .inl (cI, n0_sumRight, .inl h0_sumRight)), (q0_empty, .inl (cL, n0_empty, .inr (.inl h0_empty)))] H := by rw [hH]; exact hP
  have hS : va_S A s.heap H [] := by rw [hH]; exact va_S.rf
  have hl := lv_entry ([.ref q0]) (n := 12) (Nat.le_of_ble_eq_true rfl)
  rw [lg_entry_eq]
  generalize (lg_sl ([.ref q0]) ++ List.replicate (12 - (lg_sl ([.ref q0])).length) Slot.unset).toArray = ls at hl ⊢
  have hl : lv_has ls 12 [(0, .ref q0)] := hl
  have hloop : ∀ n9 : Nat, (∀ (x1 : Int32) (x2 : Int64) (x4 : Int32) (f0_thrown : Int32) (f0_empties : Int32) (h0_sumSet : Nat → Int64) (h0_sumOf : Nat → Int64) (h0_sumRight : Nat → Int32) (h0_empty : Nat → Int64), iter (st_X8_blame f0_equations n0_eSet h0_eSet n0_eRight h0_eRight n0_sumSet n0_sumOf n0_sumRight n0_empty) n9 (.inl (x1, x2, x4, f0_thrown, f0_empties, h0_sumSet, h0_sumOf, h0_sumRight, h0_empty)) = some r0 → ∀ (H : Heap) (locs : List Loc) (ls : Array Slot), va_P D vwCl [(q0, .inr (8, [.int f0_thrown, v0_n, .int f0_equations, .ref q0_eSet, .ref q0_eRight, v0_clauses, v0_cYes, v0_cNo, v0_levels, v0_levelEquations, v0_levelClauses, v0_tape, v0_tapeSize, v0_faultIs, v0_faultAt, v0_at, v0_newEquations, v0_newClauses, v0_newSet, v0_newRight, v0_newYes, v0_newNo, v0_lineYes, v0_lineNo, v0_rowCount, v0_rSet, v0_rRight, v0_isImpossible, .ref q0_sumSet, .ref q0_sumOf, .ref q0_sumRight, .ref q0_empty, .int f0_empties, v0_taken, v0_ones, v0_waitTaken, v0_waitOnes, v0_nodeCount, v0_lastModel, v0_modelCount, v0_modelIs, v0_gSet, v0_gateCount])), (q0_eSet, .inl (cL, n0_eSet, .inr (.inl h0_eSet))), (q0_eRight, .inl (cI, n0_eRight, .inl h0_eRight)), (q0_sumSet, .inl (cL, n0_sumSet, .inr (.inl h0_sumSet))), (q0_sumOf, .inl (cL, n0_sumOf, .inr (.inl h0_sumOf))), (q0_sumRight, .inl (cI, n0_sumRight, .inl h0_sumRight)), (q0_empty, .inl (cL, n0_empty, .inr (.inl h0_empty)))] H → va_D A [(q0, .inr (8, [.int f0_thrown, v0_n, .int f0_equations, .ref q0_eSet, .ref q0_eRight, v0_clauses, v0_cYes, v0_cNo, v0_levels, v0_levelEquations, v0_levelClauses, v0_tape, v0_tapeSize, v0_faultIs, v0_faultAt, v0_at, v0_newEquations, v0_newClauses, v0_newSet, v0_newRight, v0_newYes, v0_newNo, v0_lineYes, v0_lineNo, v0_rowCount, v0_rSet, v0_rRight, v0_isImpossible, .ref q0_sumSet, .ref q0_sumOf, .ref q0_sumRight, .ref q0_empty, .int f0_empties, v0_taken, v0_ones, v0_waitTaken, v0_waitOnes, v0_nodeCount, v0_lastModel, v0_modelCount, v0_modelIs, v0_gSet, v0_gateCount])), (q0_eSet, .inl (cL, n0_eSet, .inr (.inl h0_eSet))), (q0_eRight, .inl (cI, n0_eRight, .inl h0_eRight)), (q0_sumSet, .inl (cL, n0_sumSet, .inr (.inl h0_sumSet))), (q0_sumOf, .inl (cL, n0_sumOf, .inr (.inl h0_sumOf))), (q0_sumRight, .inl (cI, n0_sumRight, .inl h0_sumRight)), (q0_empty, .inl (cL, n0_empty, .inr (.inl h0_empty)))] → va_S A s.heap H locs → lv_has ls 12 [(0, .ref q0), (1, .int x1), (2, .long x2), (4, .int x4)] → W p l e (headSpec wsX8_blame rm_X8_blame).room s m args below meth c H locs 0 0 Q (F0 m 17 ls [])) ∧ (∀ (x1 : Int32) (x2 : Int64) (x4 : Int32) (x5 : Int64) (x7 : Int64) (x9 : Int32) (x10 : Int32) (f0_thrown : Int32) (f0_empties : Int32) (h0_sumSet : Nat → Int64) (h0_sumOf : Nat → Int64) (h0_sumRight : Nat → Int32) (h0_empty : Nat → Int64), iter (st_X8_blame f0_equations n0_eSet h0_eSet n0_eRight h0_eRight n0_sumSet n0_sumOf n0_sumRight n0_empty) n9 (.inr (x1, x2, x4, x5, x7, x9, x10, f0_thrown, f0_empties, h0_sumSet, h0_sumOf, h0_sumRight, h0_empty)) = some r0 → ∀ (H : Heap) (locs : List Loc) (ls : Array Slot), va_P D vwCl [(q0, .inr (8, [.int f0_thrown, v0_n, .int f0_equations, .ref q0_eSet, .ref q0_eRight, v0_clauses, v0_cYes, v0_cNo, v0_levels, v0_levelEquations, v0_levelClauses, v0_tape, v0_tapeSize, v0_faultIs, v0_faultAt, v0_at, v0_newEquations, v0_newClauses, v0_newSet, v0_newRight, v0_newYes, v0_newNo, v0_lineYes, v0_lineNo, v0_rowCount, v0_rSet, v0_rRight, v0_isImpossible, .ref q0_sumSet, .ref q0_sumOf, .ref q0_sumRight, .ref q0_empty, .int f0_empties, v0_taken, v0_ones, v0_waitTaken, v0_waitOnes, v0_nodeCount, v0_lastModel, v0_modelCount, v0_modelIs, v0_gSet, v0_gateCount])), (q0_eSet, .inl (cL, n0_eSet, .inr (.inl h0_eSet))), (q0_eRight, .inl (cI, n0_eRight, .inl h0_eRight)), (q0_sumSet, .inl (cL, n0_sumSet, .inr (.inl h0_sumSet))), (q0_sumOf, .inl (cL, n0_sumOf, .inr (.inl h0_sumOf))), (q0_sumRight, .inl (cI, n0_sumRight, .inl h0_sumRight)), (q0_empty, .inl (cL, n0_empty, .inr (.inl h0_empty)))] H → va_D A [(q0, .inr (8, [.int f0_thrown, v0_n, .int f0_equations, .ref q0_eSet, .ref q0_eRight, v0_clauses, v0_cYes, v0_cNo, v0_levels, v0_levelEquations, v0_levelClauses, v0_tape, v0_tapeSize, v0_faultIs, v0_faultAt, v0_at, v0_newEquations, v0_newClauses, v0_newSet, v0_newRight, v0_newYes, v0_newNo, v0_lineYes, v0_lineNo, v0_rowCount, v0_rSet, v0_rRight, v0_isImpossible, .ref q0_sumSet, .ref q0_sumOf, .ref q0_sumRight, .ref q0_empty, .int f0_empties, v0_taken, v0_ones, v0_waitTaken, v0_waitOnes, v0_nodeCount, v0_lastModel, v0_modelCount, v0_modelIs, v0_gSet, v0_gateCount])), (q0_eSet, .inl (cL, n0_eSet, .inr (.inl h0_eSet))), (q0_eRight, .inl (cI, n0_eRight, .inl h0_eRight)), (q0_sumSet, .inl (cL, n0_sumSet, .inr (.inl h0_sumSet))), (q0_sumOf, .inl (cL, n0_sumOf, .inr (.inl h0_sumOf))), (q0_sumRight, .inl (cI, n0_sumRight, .inl h0_sumRight)), (q0_empty, .inl (cL, n0_empty, .inr (.inl h0_empty)))] → va_S A s.heap H locs → lv_has ls 12 [(0, .ref q0), (1, .int x1), (2, .long x2), (4, .int x4), (5, .long x5), (7, .long x7), (9, .int x9), (10, .int x10)] → W p l e (headSpec wsX8_blame rm_X8_blame).room s m args below meth c H locs 0 0 Q (F0 m 53 ls [])) := by
    intro n9
    induction n9 with
    | zero => exact ⟨(fun _ _ _ _ _ _ _ _ _ h => nomatch h), (fun _ _ _ _ _ _ _ _ _ _ _ _ _ h => nomatch h)⟩
    | succ n9 ih =>
      refine ⟨?_, ?_⟩
      · intro x1 x2 x4 f0_thrown f0_empties h0_sumSet h0_sumOf h0_sumRight h0_empty h H locs ls hP hD hS hl
        have h : run1 (iter (st_X8_blame f0_equations n0_eSet h0_eSet n0_eRight h0_eRight n0_sumSet n0_sumOf n0_sumRight n0_empty) n9) (b_X8_blame_17 f0_equations n0_eSet h0_eSet n0_eRight h0_eRight n0_sumSet n0_sumOf n0_sumRight n0_empty x1 x2 x4 f0_thrown f0_empties h0_sumSet h0_sumOf h0_sumRight h0_empty) = some r0 := h
        unfold b_X8_blame_17 at h
        refine lv_iload hx hb dX8_blame_17 (lv_at hl 3 rfl) ?_
        refine lv_aload_n hx hb dX8_blame_19 rfl (lv_at hl 0 rfl) ?_
        refine va_get (D := D) (ci := 8) (v := .int f0_equations) (C := RX8) (T := TX8) (N := 43) hx hb hts in_X8_blame_X8 hown hK hP 0 rfl rfl 2 (by decide) lk_2 (fun _ h9 => h9) rfl dX8_blame_20 ?_
        refine lv_icmp_ge (tgt := 229) hx hb dX8_blame_23 (by decide) (fun c_1 => ?_) (fun c_1 => ?_)
        · have k_2 : f0_equations ≤ x4 := c_1
          have h := cw_t k_2 h
          refine lv_lload_n hx hb dX8_blame_229 rfl (lv_at hl 2 rfl) ?_
          refine lv_lconst (v := (0 : Int64)) hx hb dX8_blame_230 (by decide) ?_
          refine W.lcmp hx hb dX8_blame_231 ?_
          refine lv_if_ne (tgt := 239) hx hb dX8_blame_232 (by decide) (fun c_3 => ?_) (fun c_3 => ?_)
          · have k_4 : ¬ (x2 = (0 : Int64)) := (fun z9 => c_3 ((lg_cmp_eq _ _).mpr z9))
            have h := cw_f k_4 h
            refine lv_aload_n hx hb dX8_blame_239 rfl (lv_at hl 0 rfl) ?_
            refine lv_lload_n hx hb dX8_blame_240 rfl (lv_at hl 2 rfl) ?_
            obtain ⟨u_5, hu_6, h⟩ := cw_b h
            refine kx_l (ws' := fun _ => [(q0, .inr (8, [.int f0_thrown, v0_n, .int f0_equations, .ref q0_eSet, .ref q0_eRight, v0_clauses, v0_cYes, v0_cNo, v0_levels, v0_levelEquations, v0_levelClauses, v0_tape, v0_tapeSize, v0_faultIs, v0_faultAt, v0_at, v0_newEquations, v0_newClauses, v0_newSet, v0_newRight, v0_newYes, v0_newNo, v0_lineYes, v0_lineNo, v0_rowCount, v0_rSet, v0_rRight, v0_isImpossible, .ref q0_sumSet, .ref q0_sumOf, .ref q0_sumRight, .ref q0_empty, .int f0_empties, v0_taken, v0_ones, v0_waitTaken, v0_waitOnes, v0_nodeCount, v0_lastModel, v0_modelCount, v0_modelIs, v0_gSet, v0_gateCount])), (q0_eSet, .inl (cL, n0_eSet, .inr (.inl h0_eSet))), (q0_eRight, .inl (cI, n0_eRight, .inl h0_eRight)), (q0_sumSet, .inl (cL, n0_sumSet, .inr (.inl h0_sumSet))), (q0_sumOf, .inl (cL, n0_sumOf, .inr (.inl h0_sumOf))), (q0_sumRight, .inl (cI, n0_sumRight, .inl h0_sumRight)), (q0_empty, .inl (cL, n0_empty, .inr (.inl h0_empty)))]) hP hD hS hA [0, 6] [1, 2, 3, 4, 5] [5, 0, 1, 2, 3, 4, 6] rfl rfl (by decide) (by decide) (fun _ => rfl) (by decide) (va_runV (As := [.long x2]) (rest := []) ⟨hx, hb, hml, hown, hts⟩ (cm_X8_reduced l D cI cL (q0 := q0) (q0_empty := q0_empty) (n0_empty := n0_empty) (f0_empties := f0_empties) (h0_empty := h0_empty) (v0_thrown := .int f0_thrown) (v0_n := v0_n) (v0_equations := .int f0_equations) (v0_eSet := .ref q0_eSet) (v0_eRight := .ref q0_eRight) (v0_clauses := v0_clauses) (v0_cYes := v0_cYes) (v0_cNo := v0_cNo) (v0_levels := v0_levels) (v0_levelEquations := v0_levelEquations) (v0_levelClauses := v0_levelClauses) (v0_tape := v0_tape) (v0_tapeSize := v0_tapeSize) (v0_faultIs := v0_faultIs) (v0_faultAt := v0_faultAt) (v0_at := v0_at) (v0_newEquations := v0_newEquations) (v0_newClauses := v0_newClauses) (v0_newSet := v0_newSet) (v0_newRight := v0_newRight) (v0_newYes := v0_newYes) (v0_newNo := v0_newNo) (v0_lineYes := v0_lineYes) (v0_lineNo := v0_lineNo) (v0_rowCount := v0_rowCount) (v0_rSet := v0_rSet) (v0_rRight := v0_rRight) (v0_isImpossible := v0_isImpossible) (v0_sumSet := .ref q0_sumSet) (v0_sumOf := .ref q0_sumOf) (v0_sumRight := .ref q0_sumRight) (v0_taken := v0_taken) (v0_ones := v0_ones) (v0_waitTaken := v0_waitTaken) (v0_waitOnes := v0_waitOnes) (v0_nodeCount := v0_nodeCount) (v0_lastModel := v0_lastModel) (v0_modelCount := v0_modelCount) (v0_modelIs := v0_modelIs) (v0_gSet := v0_gSet) (v0_gateCount := v0_gateCount) (x1 := x2) (r0 := u_5) (hr0 := hu_6) (sz := H.size)) (cwV 1 hts gX8_blame_X8_reduced rfl rfl rfl (by decide +kernel) ⟨Nat.le_of_ble_eq_true rfl, Nat.le_of_ble_eq_true rfl⟩) (kx_preV hEV hP hD [0, 6] rfl (by decide) (k0 := 0) (ci := 8) rfl rfl rfl) rfl rfl hl.1 rfl (lv_room (Nat.le_of_ble_eq_true rfl)) dX8_blame_241 ⟨Nat.le_of_ble_eq_true rfl, Nat.le_of_ble_eq_true rfl⟩) (fun _ H locs _ hP hD hS => ?_)
            have h := Option.some.inj h
            subst h
            subst hQ
            exact W.lret (v := u_5) hx hb hr (fun t ht hW => ⟨⟨u_5, (), rfl, ⟨rfl, trivial⟩, by rw [ht]; exact hP, hD⟩, hS.F ht⟩) hS.2.2 dX8_blame_244
          · have k_4 : x2 = (0 : Int64) := ((lg_cmp_eq _ _).mp c_3)
            have h := cw_t k_4 h
            refine lv_lconst (v := (0 : Int64)) hx hb dX8_blame_235 (by decide) ?_
            refine lv_goto (tgt := 244) hx hb dX8_blame_236 (by decide) ?_
            have h := Option.some.inj h
            subst h
            subst hQ
            exact W.lret (v := (0 : Int64)) hx hb hr (fun t ht hW => ⟨⟨(0 : Int64), (), rfl, ⟨rfl, trivial⟩, by rw [ht]; exact hP, hD⟩, hS.F ht⟩) hS.2.2 dX8_blame_244
        · have k_2 : ¬ (f0_equations ≤ x4) := c_1
          have h := cw_f k_2 h
          refine lv_aload_n hx hb dX8_blame_26 rfl (lv_at hl 0 rfl) ?_
          refine va_get (D := D) (ci := 8) (v := .ref q0_eSet) (C := RX8) (T := TX8) (N := 43) hx hb hts in_X8_blame_X8 hown hK hP 0 rfl rfl 3 (by decide) lk_3 (fun _ h9 => h9) rfl dX8_blame_27 ?_
          refine lv_iload hx hb dX8_blame_30 (lv_at hl 3 rfl) ?_
          obtain ⟨b_7, h⟩ := cw_i h
          refine va_lald hx hb hK hP 1 1 rfl rfl b_7 dX8_blame_32 ?_
          refine lv_lstore (lv' := [(5, .long (h0_eSet x4.toNatClampNeg)), (0, .ref q0), (1, .int x1), (2, .long x2), (4, .int x4)]) hx hb dX8_blame_33 hl (by decide) rfl (fun ls hl => ?_)
          refine lv_lconst (v := (1 : Int64)) hx hb dX8_blame_35 (by decide) ?_
          refine lv_iload hx hb dX8_blame_36 (lv_at hl 4 rfl) ?_
          refine lv_lshl (v := jshl (1 : Int64) x4) hx hb dX8_blame_38 rfl ?_
          refine lv_lstore (lv' := [(7, .long (jshl (1 : Int64) x4)), (5, .long (h0_eSet x4.toNatClampNeg)), (0, .ref q0), (1, .int x1), (2, .long x2), (4, .int x4)]) hx hb dX8_blame_39 hl (by decide) rfl (fun ls hl => ?_)
          refine lv_aload_n hx hb dX8_blame_41 rfl (lv_at hl 2 rfl) ?_
          refine va_get (D := D) (ci := 8) (v := .ref q0_eRight) (C := RX8) (T := TX8) (N := 43) hx hb hts in_X8_blame_X8 hown hK hP 0 rfl rfl 4 (by decide) lk_4 (fun _ h9 => h9) rfl dX8_blame_42 ?_
          refine lv_iload hx hb dX8_blame_45 (lv_at hl 5 rfl) ?_
          obtain ⟨b_8, h⟩ := cw_i h
          refine va_iald hx hb hK hP 2 0 rfl rfl b_8 dX8_blame_47 ?_
          refine lv_istore (lv' := [(9, .int (h0_eRight x4.toNatClampNeg)), (7, .long (jshl (1 : Int64) x4)), (5, .long (h0_eSet x4.toNatClampNeg)), (0, .ref q0), (1, .int x1), (2, .long x2), (4, .int x4)]) hx hb dX8_blame_48 hl (by decide) rfl (fun ls hl => ?_)
          refine lv_iconst (v := (0 : Int32)) hx hb dX8_blame_50 (by decide) ?_
          refine lv_istore (lv' := [(10, .int (0 : Int32)), (9, .int (h0_eRight x4.toNatClampNeg)), (7, .long (jshl (1 : Int64) x4)), (5, .long (h0_eSet x4.toNatClampNeg)), (0, .ref q0), (1, .int x1), (2, .long x2), (4, .int x4)]) hx hb dX8_blame_51 hl (by decide) rfl (fun ls hl => ?_)
          exact ih.2 _ _ _ _ _ _ _ _ _ _ _ _ _ h _ _ _ hP hD hS (lv_sub hl [4, 5, 6, 7, 3, 2, 1, 0] rfl)
      · intro x1 x2 x4 x5 x7 x9 x10 f0_thrown f0_empties h0_sumSet h0_sumOf h0_sumRight h0_empty h H locs ls hP hD hS hl
        have h : run1 (iter (st_X8_blame f0_equations n0_eSet h0_eSet n0_eRight h0_eRight n0_sumSet n0_sumOf n0_sumRight n0_empty) n9) (b_X8_blame_53 f0_equations n0_eSet h0_eSet n0_eRight h0_eRight n0_sumSet n0_sumOf n0_sumRight n0_empty x1 x2 x4 x5 x7 x9 x10 f0_thrown f0_empties h0_sumSet h0_sumOf h0_sumRight h0_empty) = some r0 := h
        unfold b_X8_blame_53 at h
        refine lv_iload hx hb dX8_blame_53 (lv_at hl 7 rfl) ?_
        refine lv_iload_n hx hb dX8_blame_55 rfl (lv_at hl 1 rfl) ?_
        refine lv_icmp_ge (tgt := 119) hx hb dX8_blame_56 (by decide) (fun c_9 => ?_) (fun c_9 => ?_)
        · have k_10 : x1 ≤ x10 := c_9
          have h := cw_t k_10 h
          refine lv_lload hx hb dX8_blame_119 (lv_at hl 4 rfl) ?_
          refine lv_lconst (v := (0 : Int64)) hx hb dX8_blame_121 (by decide) ?_
          refine W.lcmp hx hb dX8_blame_122 ?_
          refine lv_if_eq (tgt := 156) hx hb dX8_blame_123 (by decide) (fun c_11 => ?_) (fun c_11 => ?_)
          · have k_12 : x5 = (0 : Int64) := ((lg_cmp_eq _ _).mp c_11)
            have h := cw_t k_12 h
            refine lv_iload hx hb dX8_blame_156 (lv_at hl 6 rfl) ?_
            refine lv_iconst (v := (1 : Int32)) hx hb dX8_blame_158 (by decide) ?_
            refine lv_icmp_ne (tgt := 174) hx hb dX8_blame_159 (by decide) (fun c_13 => ?_) (fun c_13 => ?_)
            · have k_14 : ¬ (x9 = (1 : Int32)) := c_13
              have h := cw_f k_14 h
              refine lv_aload_n hx hb dX8_blame_174 rfl (lv_at hl 0 rfl) ?_
              refine lv_iload hx hb dX8_blame_175 (lv_at hl 6 rfl) ?_
              refine lv_iconst (v := (1 : Int32)) hx hb dX8_blame_177 (by decide) ?_
              refine lv_icmp_ne (tgt := 188) hx hb dX8_blame_178 (by decide) (fun c_15 => ?_) (fun c_15 => ?_)
              · refine lv_lload hx hb dX8_blame_188 (lv_at hl 5 rfl) ?_
                obtain ⟨u_16, hu_17, h⟩ := cw_b h
                refine kx_l (ws' := fun _ => [(q0, .inr (8, [.int f0_thrown, v0_n, .int f0_equations, .ref q0_eSet, .ref q0_eRight, v0_clauses, v0_cYes, v0_cNo, v0_levels, v0_levelEquations, v0_levelClauses, v0_tape, v0_tapeSize, v0_faultIs, v0_faultAt, v0_at, v0_newEquations, v0_newClauses, v0_newSet, v0_newRight, v0_newYes, v0_newNo, v0_lineYes, v0_lineNo, v0_rowCount, v0_rSet, v0_rRight, v0_isImpossible, .ref q0_sumSet, .ref q0_sumOf, .ref q0_sumRight, .ref q0_empty, .int f0_empties, v0_taken, v0_ones, v0_waitTaken, v0_waitOnes, v0_nodeCount, v0_lastModel, v0_modelCount, v0_modelIs, v0_gSet, v0_gateCount])), (q0_eSet, .inl (cL, n0_eSet, .inr (.inl h0_eSet))), (q0_eRight, .inl (cI, n0_eRight, .inl h0_eRight)), (q0_sumSet, .inl (cL, n0_sumSet, .inr (.inl h0_sumSet))), (q0_sumOf, .inl (cL, n0_sumOf, .inr (.inl h0_sumOf))), (q0_sumRight, .inl (cI, n0_sumRight, .inl h0_sumRight)), (q0_empty, .inl (cL, n0_empty, .inr (.inl h0_empty)))]) hP hD hS hA [0, 6] [1, 2, 3, 4, 5] [5, 0, 1, 2, 3, 4, 6] rfl rfl (by decide) (by decide) (fun _ => rfl) (by decide) (va_runV (As := [.long x7]) (rest := []) ⟨hx, hb, hml, hown, hts⟩ (cm_X8_reduced l D cI cL (q0 := q0) (q0_empty := q0_empty) (n0_empty := n0_empty) (f0_empties := f0_empties) (h0_empty := h0_empty) (v0_thrown := .int f0_thrown) (v0_n := v0_n) (v0_equations := .int f0_equations) (v0_eSet := .ref q0_eSet) (v0_eRight := .ref q0_eRight) (v0_clauses := v0_clauses) (v0_cYes := v0_cYes) (v0_cNo := v0_cNo) (v0_levels := v0_levels) (v0_levelEquations := v0_levelEquations) (v0_levelClauses := v0_levelClauses) (v0_tape := v0_tape) (v0_tapeSize := v0_tapeSize) (v0_faultIs := v0_faultIs) (v0_faultAt := v0_faultAt) (v0_at := v0_at) (v0_newEquations := v0_newEquations) (v0_newClauses := v0_newClauses) (v0_newSet := v0_newSet) (v0_newRight := v0_newRight) (v0_newYes := v0_newYes) (v0_newNo := v0_newNo) (v0_lineYes := v0_lineYes) (v0_lineNo := v0_lineNo) (v0_rowCount := v0_rowCount) (v0_rSet := v0_rSet) (v0_rRight := v0_rRight) (v0_isImpossible := v0_isImpossible) (v0_sumSet := .ref q0_sumSet) (v0_sumOf := .ref q0_sumOf) (v0_sumRight := .ref q0_sumRight) (v0_taken := v0_taken) (v0_ones := v0_ones) (v0_waitTaken := v0_waitTaken) (v0_waitOnes := v0_waitOnes) (v0_nodeCount := v0_nodeCount) (v0_lastModel := v0_lastModel) (v0_modelCount := v0_modelCount) (v0_modelIs := v0_modelIs) (v0_gSet := v0_gSet) (v0_gateCount := v0_gateCount) (x1 := x7) (r0 := u_16) (hr0 := hu_17) (sz := H.size)) (cwV 1 hts gX8_blame_X8_reduced rfl rfl rfl (by decide +kernel) ⟨Nat.le_of_ble_eq_true rfl, Nat.le_of_ble_eq_true rfl⟩) (kx_preV hEV hP hD [0, 6] rfl (by decide) (k0 := 0) (ci := 8) rfl rfl rfl) rfl rfl hl.1 rfl (lv_room (Nat.le_of_ble_eq_true rfl)) dX8_blame_190 ⟨Nat.le_of_ble_eq_true rfl, Nat.le_of_ble_eq_true rfl⟩) (fun _ H locs _ hP hD hS => ?_)
                refine lv_lstore (lv' := [(10, .long u_16), (0, .ref q0), (1, .int x1), (2, .long x2), (4, .int x4), (5, .long x5), (7, .long x7), (9, .int x9)]) hx hb dX8_blame_193 hl (by decide) rfl (fun ls hl => ?_)
                refine lv_lload hx hb dX8_blame_195 (lv_at hl 0 rfl) ?_
                refine lv_lconst (v := (0 : Int64)) hx hb dX8_blame_197 (by decide) ?_
                refine W.lcmp hx hb dX8_blame_198 ?_
                refine lv_if_eq (tgt := 223) hx hb dX8_blame_199 (by decide) (fun c_18 => ?_) (fun c_18 => ?_)
                · have k_19 : u_16 = (0 : Int64) := ((lg_cmp_eq _ _).mp c_18)
                  have h := cw_t k_19 h
                  refine lv_iinc (v := x4 + (1 : Int32)) (lv' := [(4, .int (x4 + (1 : Int32))), (10, .long u_16), (0, .ref q0), (1, .int x1), (2, .long x2), (5, .long x5), (7, .long x7), (9, .int x9)]) hx hb dX8_blame_223 hl (k := 4) rfl rfl (by decide) rfl (fun ls hl => ?_)
                  refine lv_goto (tgt := 17) hx hb dX8_blame_226 (by decide) ?_
                  exact ih.1 _ _ _ _ _ _ _ _ _ h _ _ _ hP hD hS (lv_sub hl [2, 3, 4, 0] rfl)
                · have k_19 : ¬ (u_16 = (0 : Int64)) := (fun z9 => c_18 ((lg_cmp_eq _ _).mpr z9))
                  have h := cw_f k_19 h
                  refine lv_aload_n hx hb dX8_blame_202 rfl (lv_at hl 1 rfl) ?_
                  refine va_get (D := D) (ci := 8) (v := .ref q0_empty) (C := RX8) (T := TX8) (N := 43) hx hb hts in_X8_blame_X8 hown hK hP 0 rfl rfl 31 (by decide) lk_5 (fun _ h9 => h9) rfl dX8_blame_203 ?_
                  refine lv_aload_n hx hb dX8_blame_206 rfl (lv_at hl 1 rfl) ?_
                  refine va_get (D := D) (ci := 8) (v := .int f0_empties) (C := RX8) (T := TX8) (N := 43) hx hb hts in_X8_blame_X8 hown hK hP 0 rfl rfl 32 (by decide) lk_1 (fun _ h9 => h9) rfl dX8_blame_207 ?_
                  refine lv_lload hx hb dX8_blame_210 (lv_at hl 0 rfl) ?_
                  obtain ⟨b_20, h⟩ := cw_i h
                  refine va_last hx hb hK hP hD hS 6 1 rfl rfl b_20 dX8_blame_212 (fun H locs hP hD hS => ?_)
                  have hP : va_P D vwCl [(q0, .inr (8, [.int f0_thrown, v0_n, .int f0_equations, .ref q0_eSet, .ref q0_eRight, v0_clauses, v0_cYes, v0_cNo, v0_levels, v0_levelEquations, v0_levelClauses, v0_tape, v0_tapeSize, v0_faultIs, v0_faultAt, v0_at, v0_newEquations, v0_newClauses, v0_newSet, v0_newRight, v0_newYes, v0_newNo, v0_lineYes, v0_lineNo, v0_rowCount, v0_rSet, v0_rRight, v0_isImpossible, .ref q0_sumSet, .ref q0_sumOf, .ref q0_sumRight, .ref q0_empty, .int f0_empties, v0_taken, v0_ones, v0_waitTaken, v0_waitOnes, v0_nodeCount, v0_lastModel, v0_modelCount, v0_modelIs, v0_gSet, v0_gateCount])), (q0_eSet, .inl (cL, n0_eSet, .inr (.inl h0_eSet))), (q0_eRight, .inl (cI, n0_eRight, .inl h0_eRight)), (q0_sumSet, .inl (cL, n0_sumSet, .inr (.inl h0_sumSet))), (q0_sumOf, .inl (cL, n0_sumOf, .inr (.inl h0_sumOf))), (q0_sumRight, .inl (cI, n0_sumRight, .inl h0_sumRight)), (q0_empty, .inl (cL, n0_empty, .inr (.inl (vp_updL h0_empty f0_empties.toNatClampNeg u_16))))] H := hP
                  have hD : va_D A [(q0, .inr (8, [.int f0_thrown, v0_n, .int f0_equations, .ref q0_eSet, .ref q0_eRight, v0_clauses, v0_cYes, v0_cNo, v0_levels, v0_levelEquations, v0_levelClauses, v0_tape, v0_tapeSize, v0_faultIs, v0_faultAt, v0_at, v0_newEquations, v0_newClauses, v0_newSet, v0_newRight, v0_newYes, v0_newNo, v0_lineYes, v0_lineNo, v0_rowCount, v0_rSet, v0_rRight, v0_isImpossible, .ref q0_sumSet, .ref q0_sumOf, .ref q0_sumRight, .ref q0_empty, .int f0_empties, v0_taken, v0_ones, v0_waitTaken, v0_waitOnes, v0_nodeCount, v0_lastModel, v0_modelCount, v0_modelIs, v0_gSet, v0_gateCount])), (q0_eSet, .inl (cL, n0_eSet, .inr (.inl h0_eSet))), (q0_eRight, .inl (cI, n0_eRight, .inl h0_eRight)), (q0_sumSet, .inl (cL, n0_sumSet, .inr (.inl h0_sumSet))), (q0_sumOf, .inl (cL, n0_sumOf, .inr (.inl h0_sumOf))), (q0_sumRight, .inl (cI, n0_sumRight, .inl h0_sumRight)), (q0_empty, .inl (cL, n0_empty, .inr (.inl (vp_updL h0_empty f0_empties.toNatClampNeg u_16))))] := hD
                  refine lv_aload_n hx hb dX8_blame_213 rfl (lv_at hl 1 rfl) ?_
                  refine lv_dup hx hb dX8_blame_214 rfl ?_
                  refine va_get (D := D) (ci := 8) (v := .int f0_empties) (C := RX8) (T := TX8) (N := 43) hx hb hts in_X8_blame_X8 hown hK hP 0 rfl rfl 32 (by decide) lk_1 (fun _ h9 => h9) rfl dX8_blame_215 ?_
                  refine lv_iconst (v := (1 : Int32)) hx hb dX8_blame_218 (by decide) ?_
                  refine lv_iadd hx hb dX8_blame_219 ?_
                  refine va_put (D := D) (ci := 8) (v := .int (f0_empties + (1 : Int32))) (ty := .int) (C := RX8) (T := TX8) (N := 43) hx hb hts in_X8_blame_X8 tyX8 tyX8_ok nmX8 hown hK hP hD hS 0 rfl rfl 32 (by decide) lk_1 (fun _ h9 => h9) rfl (by decide +kernel) rfl rfl (Nat.le_of_ble_eq_true rfl) dX8_blame_220 (fun H locs hP hD hS => ?_)
                  have hP : va_P D vwCl [(q0, .inr (8, [.int f0_thrown, v0_n, .int f0_equations, .ref q0_eSet, .ref q0_eRight, v0_clauses, v0_cYes, v0_cNo, v0_levels, v0_levelEquations, v0_levelClauses, v0_tape, v0_tapeSize, v0_faultIs, v0_faultAt, v0_at, v0_newEquations, v0_newClauses, v0_newSet, v0_newRight, v0_newYes, v0_newNo, v0_lineYes, v0_lineNo, v0_rowCount, v0_rSet, v0_rRight, v0_isImpossible, .ref q0_sumSet, .ref q0_sumOf, .ref q0_sumRight, .ref q0_empty, .int (f0_empties + (1 : Int32)), v0_taken, v0_ones, v0_waitTaken, v0_waitOnes, v0_nodeCount, v0_lastModel, v0_modelCount, v0_modelIs, v0_gSet, v0_gateCount])), (q0_eSet, .inl (cL, n0_eSet, .inr (.inl h0_eSet))), (q0_eRight, .inl (cI, n0_eRight, .inl h0_eRight)), (q0_sumSet, .inl (cL, n0_sumSet, .inr (.inl h0_sumSet))), (q0_sumOf, .inl (cL, n0_sumOf, .inr (.inl h0_sumOf))), (q0_sumRight, .inl (cI, n0_sumRight, .inl h0_sumRight)), (q0_empty, .inl (cL, n0_empty, .inr (.inl (vp_updL h0_empty f0_empties.toNatClampNeg u_16))))] H := hP
                  have hD : va_D A [(q0, .inr (8, [.int f0_thrown, v0_n, .int f0_equations, .ref q0_eSet, .ref q0_eRight, v0_clauses, v0_cYes, v0_cNo, v0_levels, v0_levelEquations, v0_levelClauses, v0_tape, v0_tapeSize, v0_faultIs, v0_faultAt, v0_at, v0_newEquations, v0_newClauses, v0_newSet, v0_newRight, v0_newYes, v0_newNo, v0_lineYes, v0_lineNo, v0_rowCount, v0_rSet, v0_rRight, v0_isImpossible, .ref q0_sumSet, .ref q0_sumOf, .ref q0_sumRight, .ref q0_empty, .int (f0_empties + (1 : Int32)), v0_taken, v0_ones, v0_waitTaken, v0_waitOnes, v0_nodeCount, v0_lastModel, v0_modelCount, v0_modelIs, v0_gSet, v0_gateCount])), (q0_eSet, .inl (cL, n0_eSet, .inr (.inl h0_eSet))), (q0_eRight, .inl (cI, n0_eRight, .inl h0_eRight)), (q0_sumSet, .inl (cL, n0_sumSet, .inr (.inl h0_sumSet))), (q0_sumOf, .inl (cL, n0_sumOf, .inr (.inl h0_sumOf))), (q0_sumRight, .inl (cI, n0_sumRight, .inl h0_sumRight)), (q0_empty, .inl (cL, n0_empty, .inr (.inl (vp_updL h0_empty f0_empties.toNatClampNeg u_16))))] := hD
                  refine lv_iinc (v := x4 + (1 : Int32)) (lv' := [(4, .int (x4 + (1 : Int32))), (10, .long u_16), (0, .ref q0), (1, .int x1), (2, .long x2), (5, .long x5), (7, .long x7), (9, .int x9)]) hx hb dX8_blame_223 hl (k := 4) rfl rfl (by decide) rfl (fun ls hl => ?_)
                  refine lv_goto (tgt := 17) hx hb dX8_blame_226 (by decide) ?_
                  exact ih.1 _ _ _ _ _ _ _ _ _ h _ _ _ hP hD hS (lv_sub hl [2, 3, 4, 0] rfl)
              · exact absurd c_15 k_14
            · have k_14 : x9 = (1 : Int32) := c_13
              have h := cw_t k_14 h
              refine lv_lload_n hx hb dX8_blame_162 rfl (lv_at hl 2 rfl) ?_
              refine lv_lconst (v := (0 : Int64)) hx hb dX8_blame_163 (by decide) ?_
              refine W.lcmp hx hb dX8_blame_164 ?_
              refine lv_if_ne (tgt := 174) hx hb dX8_blame_165 (by decide) (fun c_21 => ?_) (fun c_21 => ?_)
              · have k_22 : ¬ (x2 = (0 : Int64)) := (fun z9 => c_21 ((lg_cmp_eq _ _).mpr z9))
                have h := cw_f k_22 h
                refine lv_aload_n hx hb dX8_blame_174 rfl (lv_at hl 0 rfl) ?_
                refine lv_iload hx hb dX8_blame_175 (lv_at hl 6 rfl) ?_
                refine lv_iconst (v := (1 : Int32)) hx hb dX8_blame_177 (by decide) ?_
                refine lv_icmp_ne (tgt := 188) hx hb dX8_blame_178 (by decide) (fun c_23 => ?_) (fun c_23 => ?_)
                · exact absurd k_14 c_23
                · refine lv_lload hx hb dX8_blame_181 (lv_at hl 5 rfl) ?_
                  refine lv_lload_n hx hb dX8_blame_183 rfl (lv_at hl 2 rfl) ?_
                  refine lv_lxor hx hb dX8_blame_184 ?_
                  refine lv_goto (tgt := 190) hx hb dX8_blame_185 (by decide) ?_
                  obtain ⟨u_24, hu_25, h⟩ := cw_b h
                  refine kx_l (ws' := fun _ => [(q0, .inr (8, [.int f0_thrown, v0_n, .int f0_equations, .ref q0_eSet, .ref q0_eRight, v0_clauses, v0_cYes, v0_cNo, v0_levels, v0_levelEquations, v0_levelClauses, v0_tape, v0_tapeSize, v0_faultIs, v0_faultAt, v0_at, v0_newEquations, v0_newClauses, v0_newSet, v0_newRight, v0_newYes, v0_newNo, v0_lineYes, v0_lineNo, v0_rowCount, v0_rSet, v0_rRight, v0_isImpossible, .ref q0_sumSet, .ref q0_sumOf, .ref q0_sumRight, .ref q0_empty, .int f0_empties, v0_taken, v0_ones, v0_waitTaken, v0_waitOnes, v0_nodeCount, v0_lastModel, v0_modelCount, v0_modelIs, v0_gSet, v0_gateCount])), (q0_eSet, .inl (cL, n0_eSet, .inr (.inl h0_eSet))), (q0_eRight, .inl (cI, n0_eRight, .inl h0_eRight)), (q0_sumSet, .inl (cL, n0_sumSet, .inr (.inl h0_sumSet))), (q0_sumOf, .inl (cL, n0_sumOf, .inr (.inl h0_sumOf))), (q0_sumRight, .inl (cI, n0_sumRight, .inl h0_sumRight)), (q0_empty, .inl (cL, n0_empty, .inr (.inl h0_empty)))]) hP hD hS hA [0, 6] [1, 2, 3, 4, 5] [5, 0, 1, 2, 3, 4, 6] rfl rfl (by decide) (by decide) (fun _ => rfl) (by decide) (va_runV (As := [.long (x7 ^^^ x2)]) (rest := []) ⟨hx, hb, hml, hown, hts⟩ (cm_X8_reduced l D cI cL (q0 := q0) (q0_empty := q0_empty) (n0_empty := n0_empty) (f0_empties := f0_empties) (h0_empty := h0_empty) (v0_thrown := .int f0_thrown) (v0_n := v0_n) (v0_equations := .int f0_equations) (v0_eSet := .ref q0_eSet) (v0_eRight := .ref q0_eRight) (v0_clauses := v0_clauses) (v0_cYes := v0_cYes) (v0_cNo := v0_cNo) (v0_levels := v0_levels) (v0_levelEquations := v0_levelEquations) (v0_levelClauses := v0_levelClauses) (v0_tape := v0_tape) (v0_tapeSize := v0_tapeSize) (v0_faultIs := v0_faultIs) (v0_faultAt := v0_faultAt) (v0_at := v0_at) (v0_newEquations := v0_newEquations) (v0_newClauses := v0_newClauses) (v0_newSet := v0_newSet) (v0_newRight := v0_newRight) (v0_newYes := v0_newYes) (v0_newNo := v0_newNo) (v0_lineYes := v0_lineYes) (v0_lineNo := v0_lineNo) (v0_rowCount := v0_rowCount) (v0_rSet := v0_rSet) (v0_rRight := v0_rRight) (v0_isImpossible := v0_isImpossible) (v0_sumSet := .ref q0_sumSet) (v0_sumOf := .ref q0_sumOf) (v0_sumRight := .ref q0_sumRight) (v0_taken := v0_taken) (v0_ones := v0_ones) (v0_waitTaken := v0_waitTaken) (v0_waitOnes := v0_waitOnes) (v0_nodeCount := v0_nodeCount) (v0_lastModel := v0_lastModel) (v0_modelCount := v0_modelCount) (v0_modelIs := v0_modelIs) (v0_gSet := v0_gSet) (v0_gateCount := v0_gateCount) (x1 := x7 ^^^ x2) (r0 := u_24) (hr0 := hu_25) (sz := H.size)) (cwV 1 hts gX8_blame_X8_reduced rfl rfl rfl (by decide +kernel) ⟨Nat.le_of_ble_eq_true rfl, Nat.le_of_ble_eq_true rfl⟩) (kx_preV hEV hP hD [0, 6] rfl (by decide) (k0 := 0) (ci := 8) rfl rfl rfl) rfl rfl hl.1 rfl (lv_room (Nat.le_of_ble_eq_true rfl)) dX8_blame_190 ⟨Nat.le_of_ble_eq_true rfl, Nat.le_of_ble_eq_true rfl⟩) (fun _ H locs _ hP hD hS => ?_)
                  refine lv_lstore (lv' := [(10, .long u_24), (0, .ref q0), (1, .int x1), (2, .long x2), (4, .int x4), (5, .long x5), (7, .long x7), (9, .int x9)]) hx hb dX8_blame_193 hl (by decide) rfl (fun ls hl => ?_)
                  refine lv_lload hx hb dX8_blame_195 (lv_at hl 0 rfl) ?_
                  refine lv_lconst (v := (0 : Int64)) hx hb dX8_blame_197 (by decide) ?_
                  refine W.lcmp hx hb dX8_blame_198 ?_
                  refine lv_if_eq (tgt := 223) hx hb dX8_blame_199 (by decide) (fun c_26 => ?_) (fun c_26 => ?_)
                  · have k_27 : u_24 = (0 : Int64) := ((lg_cmp_eq _ _).mp c_26)
                    have h := cw_t k_27 h
                    refine lv_iinc (v := x4 + (1 : Int32)) (lv' := [(4, .int (x4 + (1 : Int32))), (10, .long u_24), (0, .ref q0), (1, .int x1), (2, .long x2), (5, .long x5), (7, .long x7), (9, .int x9)]) hx hb dX8_blame_223 hl (k := 4) rfl rfl (by decide) rfl (fun ls hl => ?_)
                    refine lv_goto (tgt := 17) hx hb dX8_blame_226 (by decide) ?_
                    exact ih.1 _ _ _ _ _ _ _ _ _ h _ _ _ hP hD hS (lv_sub hl [2, 3, 4, 0] rfl)
                  · have k_27 : ¬ (u_24 = (0 : Int64)) := (fun z9 => c_26 ((lg_cmp_eq _ _).mpr z9))
                    have h := cw_f k_27 h
                    refine lv_aload_n hx hb dX8_blame_202 rfl (lv_at hl 1 rfl) ?_
                    refine va_get (D := D) (ci := 8) (v := .ref q0_empty) (C := RX8) (T := TX8) (N := 43) hx hb hts in_X8_blame_X8 hown hK hP 0 rfl rfl 31 (by decide) lk_5 (fun _ h9 => h9) rfl dX8_blame_203 ?_
                    refine lv_aload_n hx hb dX8_blame_206 rfl (lv_at hl 1 rfl) ?_
                    refine va_get (D := D) (ci := 8) (v := .int f0_empties) (C := RX8) (T := TX8) (N := 43) hx hb hts in_X8_blame_X8 hown hK hP 0 rfl rfl 32 (by decide) lk_1 (fun _ h9 => h9) rfl dX8_blame_207 ?_
                    refine lv_lload hx hb dX8_blame_210 (lv_at hl 0 rfl) ?_
                    obtain ⟨b_28, h⟩ := cw_i h
                    refine va_last hx hb hK hP hD hS 6 1 rfl rfl b_28 dX8_blame_212 (fun H locs hP hD hS => ?_)
                    have hP : va_P D vwCl [(q0, .inr (8, [.int f0_thrown, v0_n, .int f0_equations, .ref q0_eSet, .ref q0_eRight, v0_clauses, v0_cYes, v0_cNo, v0_levels, v0_levelEquations, v0_levelClauses, v0_tape, v0_tapeSize, v0_faultIs, v0_faultAt, v0_at, v0_newEquations, v0_newClauses, v0_newSet, v0_newRight, v0_newYes, v0_newNo, v0_lineYes, v0_lineNo, v0_rowCount, v0_rSet, v0_rRight, v0_isImpossible, .ref q0_sumSet, .ref q0_sumOf, .ref q0_sumRight, .ref q0_empty, .int f0_empties, v0_taken, v0_ones, v0_waitTaken, v0_waitOnes, v0_nodeCount, v0_lastModel, v0_modelCount, v0_modelIs, v0_gSet, v0_gateCount])), (q0_eSet, .inl (cL, n0_eSet, .inr (.inl h0_eSet))), (q0_eRight, .inl (cI, n0_eRight, .inl h0_eRight)), (q0_sumSet, .inl (cL, n0_sumSet, .inr (.inl h0_sumSet))), (q0_sumOf, .inl (cL, n0_sumOf, .inr (.inl h0_sumOf))), (q0_sumRight, .inl (cI, n0_sumRight, .inl h0_sumRight)), (q0_empty, .inl (cL, n0_empty, .inr (.inl (vp_updL h0_empty f0_empties.toNatClampNeg u_24))))] H := hP
                    have hD : va_D A [(q0, .inr (8, [.int f0_thrown, v0_n, .int f0_equations, .ref q0_eSet, .ref q0_eRight, v0_clauses, v0_cYes, v0_cNo, v0_levels, v0_levelEquations, v0_levelClauses, v0_tape, v0_tapeSize, v0_faultIs, v0_faultAt, v0_at, v0_newEquations, v0_newClauses, v0_newSet, v0_newRight, v0_newYes, v0_newNo, v0_lineYes, v0_lineNo, v0_rowCount, v0_rSet, v0_rRight, v0_isImpossible, .ref q0_sumSet, .ref q0_sumOf, .ref q0_sumRight, .ref q0_empty, .int f0_empties, v0_taken, v0_ones, v0_waitTaken, v0_waitOnes, v0_nodeCount, v0_lastModel, v0_modelCount, v0_modelIs, v0_gSet, v0_gateCount])), (q0_eSet, .inl (cL, n0_eSet, .inr (.inl h0_eSet))), (q0_eRight, .inl (cI, n0_eRight, .inl h0_eRight)), (q0_sumSet, .inl (cL, n0_sumSet, .inr (.inl h0_sumSet))), (q0_sumOf, .inl (cL, n0_sumOf, .inr (.inl h0_sumOf))), (q0_sumRight, .inl (cI, n0_sumRight, .inl h0_sumRight)), (q0_empty, .inl (cL, n0_empty, .inr (.inl (vp_updL h0_empty f0_empties.toNatClampNeg u_24))))] := hD
                    refine lv_aload_n hx hb dX8_blame_213 rfl (lv_at hl 1 rfl) ?_
                    refine lv_dup hx hb dX8_blame_214 rfl ?_
                    refine va_get (D := D) (ci := 8) (v := .int f0_empties) (C := RX8) (T := TX8) (N := 43) hx hb hts in_X8_blame_X8 hown hK hP 0 rfl rfl 32 (by decide) lk_1 (fun _ h9 => h9) rfl dX8_blame_215 ?_
                    refine lv_iconst (v := (1 : Int32)) hx hb dX8_blame_218 (by decide) ?_
                    refine lv_iadd hx hb dX8_blame_219 ?_
                    refine va_put (D := D) (ci := 8) (v := .int (f0_empties + (1 : Int32))) (ty := .int) (C := RX8) (T := TX8) (N := 43) hx hb hts in_X8_blame_X8 tyX8 tyX8_ok nmX8 hown hK hP hD hS 0 rfl rfl 32 (by decide) lk_1 (fun _ h9 => h9) rfl (by decide +kernel) rfl rfl (Nat.le_of_ble_eq_true rfl) dX8_blame_220 (fun H locs hP hD hS => ?_)
                    have hP : va_P D vwCl [(q0, .inr (8, [.int f0_thrown, v0_n, .int f0_equations, .ref q0_eSet, .ref q0_eRight, v0_clauses, v0_cYes, v0_cNo, v0_levels, v0_levelEquations, v0_levelClauses, v0_tape, v0_tapeSize, v0_faultIs, v0_faultAt, v0_at, v0_newEquations, v0_newClauses, v0_newSet, v0_newRight, v0_newYes, v0_newNo, v0_lineYes, v0_lineNo, v0_rowCount, v0_rSet, v0_rRight, v0_isImpossible, .ref q0_sumSet, .ref q0_sumOf, .ref q0_sumRight, .ref q0_empty, .int (f0_empties + (1 : Int32)), v0_taken, v0_ones, v0_waitTaken, v0_waitOnes, v0_nodeCount, v0_lastModel, v0_modelCount, v0_modelIs, v0_gSet, v0_gateCount])), (q0_eSet, .inl (cL, n0_eSet, .inr (.inl h0_eSet))), (q0_eRight, .inl (cI, n0_eRight, .inl h0_eRight)), (q0_sumSet, .inl (cL, n0_sumSet, .inr (.inl h0_sumSet))), (q0_sumOf, .inl (cL, n0_sumOf, .inr (.inl h0_sumOf))), (q0_sumRight, .inl (cI, n0_sumRight, .inl h0_sumRight)), (q0_empty, .inl (cL, n0_empty, .inr (.inl (vp_updL h0_empty f0_empties.toNatClampNeg u_24))))] H := hP
                    have hD : va_D A [(q0, .inr (8, [.int f0_thrown, v0_n, .int f0_equations, .ref q0_eSet, .ref q0_eRight, v0_clauses, v0_cYes, v0_cNo, v0_levels, v0_levelEquations, v0_levelClauses, v0_tape, v0_tapeSize, v0_faultIs, v0_faultAt, v0_at, v0_newEquations, v0_newClauses, v0_newSet, v0_newRight, v0_newYes, v0_newNo, v0_lineYes, v0_lineNo, v0_rowCount, v0_rSet, v0_rRight, v0_isImpossible, .ref q0_sumSet, .ref q0_sumOf, .ref q0_sumRight, .ref q0_empty, .int (f0_empties + (1 : Int32)), v0_taken, v0_ones, v0_waitTaken, v0_waitOnes, v0_nodeCount, v0_lastModel, v0_modelCount, v0_modelIs, v0_gSet, v0_gateCount])), (q0_eSet, .inl (cL, n0_eSet, .inr (.inl h0_eSet))), (q0_eRight, .inl (cI, n0_eRight, .inl h0_eRight)), (q0_sumSet, .inl (cL, n0_sumSet, .inr (.inl h0_sumSet))), (q0_sumOf, .inl (cL, n0_sumOf, .inr (.inl h0_sumOf))), (q0_sumRight, .inl (cI, n0_sumRight, .inl h0_sumRight)), (q0_empty, .inl (cL, n0_empty, .inr (.inl (vp_updL h0_empty f0_empties.toNatClampNeg u_24))))] := hD
                    refine lv_iinc (v := x4 + (1 : Int32)) (lv' := [(4, .int (x4 + (1 : Int32))), (10, .long u_24), (0, .ref q0), (1, .int x1), (2, .long x2), (5, .long x5), (7, .long x7), (9, .int x9)]) hx hb dX8_blame_223 hl (k := 4) rfl rfl (by decide) rfl (fun ls hl => ?_)
                    refine lv_goto (tgt := 17) hx hb dX8_blame_226 (by decide) ?_
                    exact ih.1 _ _ _ _ _ _ _ _ _ h _ _ _ hP hD hS (lv_sub hl [2, 3, 4, 0] rfl)
              · have k_22 : x2 = (0 : Int64) := ((lg_cmp_eq _ _).mp c_21)
                have h := cw_t k_22 h
                refine lv_lload hx hb dX8_blame_168 (lv_at hl 5 rfl) ?_
                refine lv_lstore_n (lv' := [(2, .long x7), (0, .ref q0), (1, .int x1), (4, .int x4), (5, .long x5), (7, .long x7), (9, .int x9), (10, .int x10)]) hx hb dX8_blame_170 rfl hl (by decide) rfl (fun ls hl => ?_)
                refine lv_goto (tgt := 223) hx hb dX8_blame_171 (by decide) ?_
                refine lv_iinc (v := x4 + (1 : Int32)) (lv' := [(4, .int (x4 + (1 : Int32))), (2, .long x7), (0, .ref q0), (1, .int x1), (5, .long x5), (7, .long x7), (9, .int x9), (10, .int x10)]) hx hb dX8_blame_223 hl (k := 3) rfl rfl (by decide) rfl (fun ls hl => ?_)
                refine lv_goto (tgt := 17) hx hb dX8_blame_226 (by decide) ?_
                exact ih.1 _ _ _ _ _ _ _ _ _ h _ _ _ hP hD hS (lv_sub hl [2, 3, 1, 0] rfl)
          · have k_12 : ¬ (x5 = (0 : Int64)) := (fun z9 => c_11 ((lg_cmp_eq _ _).mpr z9))
            have h := cw_f k_12 h
            refine lv_aload_n hx hb dX8_blame_126 rfl (lv_at hl 0 rfl) ?_
            refine va_get (D := D) (ci := 8) (v := .ref q0_sumSet) (C := RX8) (T := TX8) (N := 43) hx hb hts in_X8_blame_X8 hown hK hP 0 rfl rfl 28 (by decide) lk_6 (fun _ h9 => h9) rfl dX8_blame_127 ?_
            refine lv_iload_n hx hb dX8_blame_130 rfl (lv_at hl 1 rfl) ?_
            refine lv_lload hx hb dX8_blame_131 (lv_at hl 4 rfl) ?_
            obtain ⟨b_29, h⟩ := cw_i h
            refine va_last hx hb hK hP hD hS 3 1 rfl rfl b_29 dX8_blame_133 (fun H locs hP hD hS => ?_)
            have hP : va_P D vwCl [(q0, .inr (8, [.int f0_thrown, v0_n, .int f0_equations, .ref q0_eSet, .ref q0_eRight, v0_clauses, v0_cYes, v0_cNo, v0_levels, v0_levelEquations, v0_levelClauses, v0_tape, v0_tapeSize, v0_faultIs, v0_faultAt, v0_at, v0_newEquations, v0_newClauses, v0_newSet, v0_newRight, v0_newYes, v0_newNo, v0_lineYes, v0_lineNo, v0_rowCount, v0_rSet, v0_rRight, v0_isImpossible, .ref q0_sumSet, .ref q0_sumOf, .ref q0_sumRight, .ref q0_empty, .int f0_empties, v0_taken, v0_ones, v0_waitTaken, v0_waitOnes, v0_nodeCount, v0_lastModel, v0_modelCount, v0_modelIs, v0_gSet, v0_gateCount])), (q0_eSet, .inl (cL, n0_eSet, .inr (.inl h0_eSet))), (q0_eRight, .inl (cI, n0_eRight, .inl h0_eRight)), (q0_sumSet, .inl (cL, n0_sumSet, .inr (.inl (vp_updL h0_sumSet x1.toNatClampNeg x5)))), (q0_sumOf, .inl (cL, n0_sumOf, .inr (.inl h0_sumOf))), (q0_sumRight, .inl (cI, n0_sumRight, .inl h0_sumRight)), (q0_empty, .inl (cL, n0_empty, .inr (.inl h0_empty)))] H := hP
            have hD : va_D A [(q0, .inr (8, [.int f0_thrown, v0_n, .int f0_equations, .ref q0_eSet, .ref q0_eRight, v0_clauses, v0_cYes, v0_cNo, v0_levels, v0_levelEquations, v0_levelClauses, v0_tape, v0_tapeSize, v0_faultIs, v0_faultAt, v0_at, v0_newEquations, v0_newClauses, v0_newSet, v0_newRight, v0_newYes, v0_newNo, v0_lineYes, v0_lineNo, v0_rowCount, v0_rSet, v0_rRight, v0_isImpossible, .ref q0_sumSet, .ref q0_sumOf, .ref q0_sumRight, .ref q0_empty, .int f0_empties, v0_taken, v0_ones, v0_waitTaken, v0_waitOnes, v0_nodeCount, v0_lastModel, v0_modelCount, v0_modelIs, v0_gSet, v0_gateCount])), (q0_eSet, .inl (cL, n0_eSet, .inr (.inl h0_eSet))), (q0_eRight, .inl (cI, n0_eRight, .inl h0_eRight)), (q0_sumSet, .inl (cL, n0_sumSet, .inr (.inl (vp_updL h0_sumSet x1.toNatClampNeg x5)))), (q0_sumOf, .inl (cL, n0_sumOf, .inr (.inl h0_sumOf))), (q0_sumRight, .inl (cI, n0_sumRight, .inl h0_sumRight)), (q0_empty, .inl (cL, n0_empty, .inr (.inl h0_empty)))] := hD
            refine lv_aload_n hx hb dX8_blame_134 rfl (lv_at hl 0 rfl) ?_
            refine va_get (D := D) (ci := 8) (v := .ref q0_sumOf) (C := RX8) (T := TX8) (N := 43) hx hb hts in_X8_blame_X8 hown hK hP 0 rfl rfl 29 (by decide) lk_7 (fun _ h9 => h9) rfl dX8_blame_135 ?_
            refine lv_iload_n hx hb dX8_blame_138 rfl (lv_at hl 1 rfl) ?_
            refine lv_lload hx hb dX8_blame_139 (lv_at hl 5 rfl) ?_
            obtain ⟨b_30, h⟩ := cw_i h
            refine va_last hx hb hK hP hD hS 4 1 rfl rfl b_30 dX8_blame_141 (fun H locs hP hD hS => ?_)
            have hP : va_P D vwCl [(q0, .inr (8, [.int f0_thrown, v0_n, .int f0_equations, .ref q0_eSet, .ref q0_eRight, v0_clauses, v0_cYes, v0_cNo, v0_levels, v0_levelEquations, v0_levelClauses, v0_tape, v0_tapeSize, v0_faultIs, v0_faultAt, v0_at, v0_newEquations, v0_newClauses, v0_newSet, v0_newRight, v0_newYes, v0_newNo, v0_lineYes, v0_lineNo, v0_rowCount, v0_rSet, v0_rRight, v0_isImpossible, .ref q0_sumSet, .ref q0_sumOf, .ref q0_sumRight, .ref q0_empty, .int f0_empties, v0_taken, v0_ones, v0_waitTaken, v0_waitOnes, v0_nodeCount, v0_lastModel, v0_modelCount, v0_modelIs, v0_gSet, v0_gateCount])), (q0_eSet, .inl (cL, n0_eSet, .inr (.inl h0_eSet))), (q0_eRight, .inl (cI, n0_eRight, .inl h0_eRight)), (q0_sumSet, .inl (cL, n0_sumSet, .inr (.inl (vp_updL h0_sumSet x1.toNatClampNeg x5)))), (q0_sumOf, .inl (cL, n0_sumOf, .inr (.inl (vp_updL h0_sumOf x1.toNatClampNeg x7)))), (q0_sumRight, .inl (cI, n0_sumRight, .inl h0_sumRight)), (q0_empty, .inl (cL, n0_empty, .inr (.inl h0_empty)))] H := hP
            have hD : va_D A [(q0, .inr (8, [.int f0_thrown, v0_n, .int f0_equations, .ref q0_eSet, .ref q0_eRight, v0_clauses, v0_cYes, v0_cNo, v0_levels, v0_levelEquations, v0_levelClauses, v0_tape, v0_tapeSize, v0_faultIs, v0_faultAt, v0_at, v0_newEquations, v0_newClauses, v0_newSet, v0_newRight, v0_newYes, v0_newNo, v0_lineYes, v0_lineNo, v0_rowCount, v0_rSet, v0_rRight, v0_isImpossible, .ref q0_sumSet, .ref q0_sumOf, .ref q0_sumRight, .ref q0_empty, .int f0_empties, v0_taken, v0_ones, v0_waitTaken, v0_waitOnes, v0_nodeCount, v0_lastModel, v0_modelCount, v0_modelIs, v0_gSet, v0_gateCount])), (q0_eSet, .inl (cL, n0_eSet, .inr (.inl h0_eSet))), (q0_eRight, .inl (cI, n0_eRight, .inl h0_eRight)), (q0_sumSet, .inl (cL, n0_sumSet, .inr (.inl (vp_updL h0_sumSet x1.toNatClampNeg x5)))), (q0_sumOf, .inl (cL, n0_sumOf, .inr (.inl (vp_updL h0_sumOf x1.toNatClampNeg x7)))), (q0_sumRight, .inl (cI, n0_sumRight, .inl h0_sumRight)), (q0_empty, .inl (cL, n0_empty, .inr (.inl h0_empty)))] := hD
            refine lv_aload_n hx hb dX8_blame_142 rfl (lv_at hl 0 rfl) ?_
            refine va_get (D := D) (ci := 8) (v := .ref q0_sumRight) (C := RX8) (T := TX8) (N := 43) hx hb hts in_X8_blame_X8 hown hK hP 0 rfl rfl 30 (by decide) lk_8 (fun _ h9 => h9) rfl dX8_blame_143 ?_
            refine lv_iload_n hx hb dX8_blame_146 rfl (lv_at hl 1 rfl) ?_
            refine lv_iload hx hb dX8_blame_147 (lv_at hl 6 rfl) ?_
            obtain ⟨b_31, h⟩ := cw_i h
            refine va_iast hx hb hK hP hD hS 5 0 rfl rfl b_31 dX8_blame_149 (fun H locs hP hD hS => ?_)
            have hP : va_P D vwCl [(q0, .inr (8, [.int f0_thrown, v0_n, .int f0_equations, .ref q0_eSet, .ref q0_eRight, v0_clauses, v0_cYes, v0_cNo, v0_levels, v0_levelEquations, v0_levelClauses, v0_tape, v0_tapeSize, v0_faultIs, v0_faultAt, v0_at, v0_newEquations, v0_newClauses, v0_newSet, v0_newRight, v0_newYes, v0_newNo, v0_lineYes, v0_lineNo, v0_rowCount, v0_rSet, v0_rRight, v0_isImpossible, .ref q0_sumSet, .ref q0_sumOf, .ref q0_sumRight, .ref q0_empty, .int f0_empties, v0_taken, v0_ones, v0_waitTaken, v0_waitOnes, v0_nodeCount, v0_lastModel, v0_modelCount, v0_modelIs, v0_gSet, v0_gateCount])), (q0_eSet, .inl (cL, n0_eSet, .inr (.inl h0_eSet))), (q0_eRight, .inl (cI, n0_eRight, .inl h0_eRight)), (q0_sumSet, .inl (cL, n0_sumSet, .inr (.inl (vp_updL h0_sumSet x1.toNatClampNeg x5)))), (q0_sumOf, .inl (cL, n0_sumOf, .inr (.inl (vp_updL h0_sumOf x1.toNatClampNeg x7)))), (q0_sumRight, .inl (cI, n0_sumRight, .inl (upd h0_sumRight x1.toNatClampNeg x9))), (q0_empty, .inl (cL, n0_empty, .inr (.inl h0_empty)))] H := hP
            have hD : va_D A [(q0, .inr (8, [.int f0_thrown, v0_n, .int f0_equations, .ref q0_eSet, .ref q0_eRight, v0_clauses, v0_cYes, v0_cNo, v0_levels, v0_levelEquations, v0_levelClauses, v0_tape, v0_tapeSize, v0_faultIs, v0_faultAt, v0_at, v0_newEquations, v0_newClauses, v0_newSet, v0_newRight, v0_newYes, v0_newNo, v0_lineYes, v0_lineNo, v0_rowCount, v0_rSet, v0_rRight, v0_isImpossible, .ref q0_sumSet, .ref q0_sumOf, .ref q0_sumRight, .ref q0_empty, .int f0_empties, v0_taken, v0_ones, v0_waitTaken, v0_waitOnes, v0_nodeCount, v0_lastModel, v0_modelCount, v0_modelIs, v0_gSet, v0_gateCount])), (q0_eSet, .inl (cL, n0_eSet, .inr (.inl h0_eSet))), (q0_eRight, .inl (cI, n0_eRight, .inl h0_eRight)), (q0_sumSet, .inl (cL, n0_sumSet, .inr (.inl (vp_updL h0_sumSet x1.toNatClampNeg x5)))), (q0_sumOf, .inl (cL, n0_sumOf, .inr (.inl (vp_updL h0_sumOf x1.toNatClampNeg x7)))), (q0_sumRight, .inl (cI, n0_sumRight, .inl (upd h0_sumRight x1.toNatClampNeg x9))), (q0_empty, .inl (cL, n0_empty, .inr (.inl h0_empty)))] := hD
            refine lv_iinc (v := x1 + (1 : Int32)) (lv' := [(1, .int (x1 + (1 : Int32))), (0, .ref q0), (2, .long x2), (4, .int x4), (5, .long x5), (7, .long x7), (9, .int x9), (10, .int x10)]) hx hb dX8_blame_150 hl (k := 1) rfl rfl (by decide) rfl (fun ls hl => ?_)
            refine lv_goto (tgt := 223) hx hb dX8_blame_153 (by decide) ?_
            refine lv_iinc (v := x4 + (1 : Int32)) (lv' := [(4, .int (x4 + (1 : Int32))), (1, .int (x1 + (1 : Int32))), (0, .ref q0), (2, .long x2), (5, .long x5), (7, .long x7), (9, .int x9), (10, .int x10)]) hx hb dX8_blame_223 hl (k := 3) rfl rfl (by decide) rfl (fun ls hl => ?_)
            refine lv_goto (tgt := 17) hx hb dX8_blame_226 (by decide) ?_
            exact ih.1 _ _ _ _ _ _ _ _ _ h _ _ _ hP hD hS (lv_sub hl [2, 1, 3, 0] rfl)
        · have k_10 : ¬ (x1 ≤ x10) := c_9
          have h := cw_f k_10 h
          refine lv_lload hx hb dX8_blame_59 (lv_at hl 4 rfl) ?_
          refine lv_aload_n hx hb dX8_blame_61 rfl (lv_at hl 0 rfl) ?_
          refine va_get (D := D) (ci := 8) (v := .ref q0_sumSet) (C := RX8) (T := TX8) (N := 43) hx hb hts in_X8_blame_X8 hown hK hP 0 rfl rfl 28 (by decide) lk_6 (fun _ h9 => h9) rfl dX8_blame_62 ?_
          refine lv_iload hx hb dX8_blame_65 (lv_at hl 7 rfl) ?_
          obtain ⟨b_32, h⟩ := cw_i h
          refine va_lald hx hb hK hP 3 1 rfl rfl b_32 dX8_blame_67 ?_
          obtain ⟨u_33, hu_34, h⟩ := cw_b h
          refine kx_l (ws' := fun _ => [(q0, .inr (8, [.int f0_thrown, v0_n, .int f0_equations, .ref q0_eSet, .ref q0_eRight, v0_clauses, v0_cYes, v0_cNo, v0_levels, v0_levelEquations, v0_levelClauses, v0_tape, v0_tapeSize, v0_faultIs, v0_faultAt, v0_at, v0_newEquations, v0_newClauses, v0_newSet, v0_newRight, v0_newYes, v0_newNo, v0_lineYes, v0_lineNo, v0_rowCount, v0_rSet, v0_rRight, v0_isImpossible, .ref q0_sumSet, .ref q0_sumOf, .ref q0_sumRight, .ref q0_empty, .int f0_empties, v0_taken, v0_ones, v0_waitTaken, v0_waitOnes, v0_nodeCount, v0_lastModel, v0_modelCount, v0_modelIs, v0_gSet, v0_gateCount])), (q0_eSet, .inl (cL, n0_eSet, .inr (.inl h0_eSet))), (q0_eRight, .inl (cI, n0_eRight, .inl h0_eRight)), (q0_sumSet, .inl (cL, n0_sumSet, .inr (.inl h0_sumSet))), (q0_sumOf, .inl (cL, n0_sumOf, .inr (.inl h0_sumOf))), (q0_sumRight, .inl (cI, n0_sumRight, .inl h0_sumRight)), (q0_empty, .inl (cL, n0_empty, .inr (.inl h0_empty)))]) hP hD hS hA [] [0, 1, 2, 3, 4, 5, 6] [0, 1, 2, 3, 4, 5, 6] rfl rfl (by decide) (by decide) (fun _ => rfl) (by decide) (va_runS (As := [.long (h0_sumSet x10.toNatClampNeg)]) (rest := [.long x5]) ⟨hx, hb, hml, hown, hts⟩ (cm_X8_lowest l D cI cL (x0 := h0_sumSet x10.toNatClampNeg) (r0 := u_33) (hr0 := hu_34) (sz := H.size)) (va_cwS 1 hts gX8_blame_X8_lowest rfl rfl rfl (by decide +kernel) ⟨Nat.le_of_ble_eq_true rfl, Nat.le_of_ble_eq_true rfl⟩) (kx_preS hEV hP hD [] rfl (by decide)) rfl rfl hl.1 rfl (lv_room (Nat.le_of_ble_eq_true rfl)) dX8_blame_68 ⟨Nat.le_of_ble_eq_true rfl, Nat.le_of_ble_eq_true rfl⟩) (fun _ H locs _ hP hD hS => ?_)
          refine lv_land hx hb dX8_blame_71 ?_
          refine lv_lconst (v := (0 : Int64)) hx hb dX8_blame_72 (by decide) ?_
          refine W.lcmp hx hb dX8_blame_73 ?_
          refine lv_if_eq (tgt := 113) hx hb dX8_blame_74 (by decide) (fun c_35 => ?_) (fun c_35 => ?_)
          · have k_36 : (x5 &&& u_33) = (0 : Int64) := ((lg_cmp_eq _ _).mp c_35)
            have h := cw_t k_36 h
            refine lv_iinc (v := x10 + (1 : Int32)) (lv' := [(10, .int (x10 + (1 : Int32))), (0, .ref q0), (1, .int x1), (2, .long x2), (4, .int x4), (5, .long x5), (7, .long x7), (9, .int x9)]) hx hb dX8_blame_113 hl (k := 7) rfl rfl (by decide) rfl (fun ls hl => ?_)
            refine lv_goto (tgt := 53) hx hb dX8_blame_116 (by decide) ?_
            exact ih.2 _ _ _ _ _ _ _ _ _ _ _ _ _ h _ _ _ hP hD hS (lv_sub hl [1, 2, 3, 4, 5, 6, 7, 0] rfl)
          · have k_36 : ¬ ((x5 &&& u_33) = (0 : Int64)) := (fun z9 => c_35 ((lg_cmp_eq _ _).mpr z9))
            have h := cw_f k_36 h
            refine lv_lload hx hb dX8_blame_77 (lv_at hl 4 rfl) ?_
            refine lv_aload_n hx hb dX8_blame_79 rfl (lv_at hl 0 rfl) ?_
            refine va_get (D := D) (ci := 8) (v := .ref q0_sumSet) (C := RX8) (T := TX8) (N := 43) hx hb hts in_X8_blame_X8 hown hK hP 0 rfl rfl 28 (by decide) lk_6 (fun _ h9 => h9) rfl dX8_blame_80 ?_
            refine lv_iload hx hb dX8_blame_83 (lv_at hl 7 rfl) ?_
            obtain ⟨b_37, h⟩ := cw_i h
            refine va_lald hx hb hK hP 3 1 rfl rfl b_37 dX8_blame_85 ?_
            refine lv_lxor hx hb dX8_blame_86 ?_
            refine lv_lstore (lv' := [(5, .long (x5 ^^^ (h0_sumSet x10.toNatClampNeg))), (0, .ref q0), (1, .int x1), (2, .long x2), (4, .int x4), (7, .long x7), (9, .int x9), (10, .int x10)]) hx hb dX8_blame_87 hl (by decide) rfl (fun ls hl => ?_)
            refine lv_lload hx hb dX8_blame_89 (lv_at hl 5 rfl) ?_
            refine lv_aload_n hx hb dX8_blame_91 rfl (lv_at hl 1 rfl) ?_
            refine va_get (D := D) (ci := 8) (v := .ref q0_sumOf) (C := RX8) (T := TX8) (N := 43) hx hb hts in_X8_blame_X8 hown hK hP 0 rfl rfl 29 (by decide) lk_7 (fun _ h9 => h9) rfl dX8_blame_92 ?_
            refine lv_iload hx hb dX8_blame_95 (lv_at hl 7 rfl) ?_
            obtain ⟨b_38, h⟩ := cw_i h
            refine va_lald hx hb hK hP 4 1 rfl rfl b_38 dX8_blame_97 ?_
            refine lv_lxor hx hb dX8_blame_98 ?_
            refine lv_lstore (lv' := [(7, .long (x7 ^^^ (h0_sumOf x10.toNatClampNeg))), (5, .long (x5 ^^^ (h0_sumSet x10.toNatClampNeg))), (0, .ref q0), (1, .int x1), (2, .long x2), (4, .int x4), (9, .int x9), (10, .int x10)]) hx hb dX8_blame_99 hl (by decide) rfl (fun ls hl => ?_)
            refine lv_iload hx hb dX8_blame_101 (lv_at hl 6 rfl) ?_
            refine lv_aload_n hx hb dX8_blame_103 rfl (lv_at hl 2 rfl) ?_
            refine va_get (D := D) (ci := 8) (v := .ref q0_sumRight) (C := RX8) (T := TX8) (N := 43) hx hb hts in_X8_blame_X8 hown hK hP 0 rfl rfl 30 (by decide) lk_8 (fun _ h9 => h9) rfl dX8_blame_104 ?_
            refine lv_iload hx hb dX8_blame_107 (lv_at hl 7 rfl) ?_
            obtain ⟨b_39, h⟩ := cw_i h
            refine va_iald hx hb hK hP 5 0 rfl rfl b_39 dX8_blame_109 ?_
            refine lv_ixor hx hb dX8_blame_110 ?_
            refine lv_istore (lv' := [(9, .int (x9 ^^^ (h0_sumRight x10.toNatClampNeg))), (7, .long (x7 ^^^ (h0_sumOf x10.toNatClampNeg))), (5, .long (x5 ^^^ (h0_sumSet x10.toNatClampNeg))), (0, .ref q0), (1, .int x1), (2, .long x2), (4, .int x4), (10, .int x10)]) hx hb dX8_blame_111 hl (by decide) rfl (fun ls hl => ?_)
            refine lv_iinc (v := x10 + (1 : Int32)) (lv' := [(10, .int (x10 + (1 : Int32))), (9, .int (x9 ^^^ (h0_sumRight x10.toNatClampNeg))), (7, .long (x7 ^^^ (h0_sumOf x10.toNatClampNeg))), (5, .long (x5 ^^^ (h0_sumSet x10.toNatClampNeg))), (0, .ref q0), (1, .int x1), (2, .long x2), (4, .int x4)]) hx hb dX8_blame_113 hl (k := 7) rfl rfl (by decide) rfl (fun ls hl => ?_)
            refine lv_goto (tgt := 53) hx hb dX8_blame_116 (by decide) ?_
            exact ih.2 _ _ _ _ _ _ _ _ _ _ _ _ _ h _ _ _ hP hD hS (lv_sub hl [4, 5, 6, 7, 3, 2, 1, 0] rfl)
  have h := hr0
  unfold D_X8_blame at h
  refine lv_aload_n hx hb dX8_blame_0 rfl (lv_at hl 0 rfl) ?_
  refine lv_iconst (v := (0 : Int32)) hx hb dX8_blame_1 (by decide) ?_
  refine va_put (D := D) (ci := 8) (v := .int (0 : Int32)) (ty := .int) (C := RX8) (T := TX8) (N := 43) hx hb hts in_X8_blame_X8 tyX8 tyX8_ok nmX8 hown hK hP hD hS 0 rfl rfl 0 (by decide) lk_0 (fun _ h9 => h9) rfl (by decide +kernel) rfl rfl (Nat.le_of_ble_eq_true rfl) dX8_blame_2 (fun H locs hP hD hS => ?_)
  have hP : va_P D vwCl [(q0, .inr (8, [.int (0 : Int32), v0_n, .int f0_equations, .ref q0_eSet, .ref q0_eRight, v0_clauses, v0_cYes, v0_cNo, v0_levels, v0_levelEquations, v0_levelClauses, v0_tape, v0_tapeSize, v0_faultIs, v0_faultAt, v0_at, v0_newEquations, v0_newClauses, v0_newSet, v0_newRight, v0_newYes, v0_newNo, v0_lineYes, v0_lineNo, v0_rowCount, v0_rSet, v0_rRight, v0_isImpossible, .ref q0_sumSet, .ref q0_sumOf, .ref q0_sumRight, .ref q0_empty, .int f0_empties, v0_taken, v0_ones, v0_waitTaken, v0_waitOnes, v0_nodeCount, v0_lastModel, v0_modelCount, v0_modelIs, v0_gSet, v0_gateCount])), (q0_eSet, .inl (cL, n0_eSet, .inr (.inl h0_eSet))), (q0_eRight, .inl (cI, n0_eRight, .inl h0_eRight)), (q0_sumSet, .inl (cL, n0_sumSet, .inr (.inl h0_sumSet))), (q0_sumOf, .inl (cL, n0_sumOf, .inr (.inl h0_sumOf))), (q0_sumRight, .inl (cI, n0_sumRight, .inl h0_sumRight)), (q0_empty, .inl (cL, n0_empty, .inr (.inl h0_empty)))] H := hP
  have hD : va_D A [(q0, .inr (8, [.int (0 : Int32), v0_n, .int f0_equations, .ref q0_eSet, .ref q0_eRight, v0_clauses, v0_cYes, v0_cNo, v0_levels, v0_levelEquations, v0_levelClauses, v0_tape, v0_tapeSize, v0_faultIs, v0_faultAt, v0_at, v0_newEquations, v0_newClauses, v0_newSet, v0_newRight, v0_newYes, v0_newNo, v0_lineYes, v0_lineNo, v0_rowCount, v0_rSet, v0_rRight, v0_isImpossible, .ref q0_sumSet, .ref q0_sumOf, .ref q0_sumRight, .ref q0_empty, .int f0_empties, v0_taken, v0_ones, v0_waitTaken, v0_waitOnes, v0_nodeCount, v0_lastModel, v0_modelCount, v0_modelIs, v0_gSet, v0_gateCount])), (q0_eSet, .inl (cL, n0_eSet, .inr (.inl h0_eSet))), (q0_eRight, .inl (cI, n0_eRight, .inl h0_eRight)), (q0_sumSet, .inl (cL, n0_sumSet, .inr (.inl h0_sumSet))), (q0_sumOf, .inl (cL, n0_sumOf, .inr (.inl h0_sumOf))), (q0_sumRight, .inl (cI, n0_sumRight, .inl h0_sumRight)), (q0_empty, .inl (cL, n0_empty, .inr (.inl h0_empty)))] := hD
  refine lv_aload_n hx hb dX8_blame_5 rfl (lv_at hl 0 rfl) ?_
  refine lv_iconst (v := (0 : Int32)) hx hb dX8_blame_6 (by decide) ?_
  refine va_put (D := D) (ci := 8) (v := .int (0 : Int32)) (ty := .int) (C := RX8) (T := TX8) (N := 43) hx hb hts in_X8_blame_X8 tyX8 tyX8_ok nmX8 hown hK hP hD hS 0 rfl rfl 32 (by decide) lk_1 (fun _ h9 => h9) rfl (by decide +kernel) rfl rfl (Nat.le_of_ble_eq_true rfl) dX8_blame_7 (fun H locs hP hD hS => ?_)
  have hP : va_P D vwCl [(q0, .inr (8, [.int (0 : Int32), v0_n, .int f0_equations, .ref q0_eSet, .ref q0_eRight, v0_clauses, v0_cYes, v0_cNo, v0_levels, v0_levelEquations, v0_levelClauses, v0_tape, v0_tapeSize, v0_faultIs, v0_faultAt, v0_at, v0_newEquations, v0_newClauses, v0_newSet, v0_newRight, v0_newYes, v0_newNo, v0_lineYes, v0_lineNo, v0_rowCount, v0_rSet, v0_rRight, v0_isImpossible, .ref q0_sumSet, .ref q0_sumOf, .ref q0_sumRight, .ref q0_empty, .int (0 : Int32), v0_taken, v0_ones, v0_waitTaken, v0_waitOnes, v0_nodeCount, v0_lastModel, v0_modelCount, v0_modelIs, v0_gSet, v0_gateCount])), (q0_eSet, .inl (cL, n0_eSet, .inr (.inl h0_eSet))), (q0_eRight, .inl (cI, n0_eRight, .inl h0_eRight)), (q0_sumSet, .inl (cL, n0_sumSet, .inr (.inl h0_sumSet))), (q0_sumOf, .inl (cL, n0_sumOf, .inr (.inl h0_sumOf))), (q0_sumRight, .inl (cI, n0_sumRight, .inl h0_sumRight)), (q0_empty, .inl (cL, n0_empty, .inr (.inl h0_empty)))] H := hP
  have hD : va_D A [(q0, .inr (8, [.int (0 : Int32), v0_n, .int f0_equations, .ref q0_eSet, .ref q0_eRight, v0_clauses, v0_cYes, v0_cNo, v0_levels, v0_levelEquations, v0_levelClauses, v0_tape, v0_tapeSize, v0_faultIs, v0_faultAt, v0_at, v0_newEquations, v0_newClauses, v0_newSet, v0_newRight, v0_newYes, v0_newNo, v0_lineYes, v0_lineNo, v0_rowCount, v0_rSet, v0_rRight, v0_isImpossible, .ref q0_sumSet, .ref q0_sumOf, .ref q0_sumRight, .ref q0_empty, .int (0 : Int32), v0_taken, v0_ones, v0_waitTaken, v0_waitOnes, v0_nodeCount, v0_lastModel, v0_modelCount, v0_modelIs, v0_gSet, v0_gateCount])), (q0_eSet, .inl (cL, n0_eSet, .inr (.inl h0_eSet))), (q0_eRight, .inl (cI, n0_eRight, .inl h0_eRight)), (q0_sumSet, .inl (cL, n0_sumSet, .inr (.inl h0_sumSet))), (q0_sumOf, .inl (cL, n0_sumOf, .inr (.inl h0_sumOf))), (q0_sumRight, .inl (cI, n0_sumRight, .inl h0_sumRight)), (q0_empty, .inl (cL, n0_empty, .inr (.inl h0_empty)))] := hD
  refine lv_iconst (v := (0 : Int32)) hx hb dX8_blame_10 (by decide) ?_
  refine lv_istore_n (lv' := [(1, .int (0 : Int32)), (0, .ref q0)]) hx hb dX8_blame_11 rfl hl (by decide) rfl (fun ls hl => ?_)
  refine lv_lconst (v := (0 : Int64)) hx hb dX8_blame_12 (by decide) ?_
  refine lv_lstore_n (lv' := [(2, .long (0 : Int64)), (1, .int (0 : Int32)), (0, .ref q0)]) hx hb dX8_blame_13 rfl hl (by decide) rfl (fun ls hl => ?_)
  refine lv_iconst (v := (0 : Int32)) hx hb dX8_blame_14 (by decide) ?_
  refine lv_istore (lv' := [(4, .int (0 : Int32)), (2, .long (0 : Int64)), (1, .int (0 : Int32)), (0, .ref q0)]) hx hb dX8_blame_15 hl (by decide) rfl (fun ls hl => ?_)
  obtain ⟨n9, hn9⟩ := runw_some h
  exact (hloop n9).1 _ _ _ _ _ _ _ _ _ hn9 _ _ _ hP hD hS (lv_sub hl [3, 2, 1, 0] rfl)
theorem in_X8_solutions_X8 : ∀ w ∈ wsX80, w ∈ wsX8_solutions := by decide +kernel
theorem lk_0_X8_solutions : Cond.fieldLink RX8 81 "ParityClausesModel" "thrown" "I" ∈ wsX8_solutions := by decide +kernel
theorem lk_1_X8_solutions : Cond.fieldLink RX8 175 "ParityClausesModel" "isImpossible" "Z" ∈ wsX8_solutions := by decide +kernel
theorem lk_2_X8_solutions : Cond.fieldLink RX8 77 "ParityClausesModel" "n" "I" ∈ wsX8_solutions := by decide +kernel
theorem lk_3_X8_solutions : Cond.fieldLink RX8 172 "ParityClausesModel" "rowCount" "I" ∈ wsX8_solutions := by decide +kernel
abbrev rm_X8_solutions : Room := { frames := 4, cells := 0, slots := 0, locals := 103 }
set_option maxHeartbeats 4000000 in
set_option maxRecDepth 100000 in
theorem cm_X8_solutions (l : Launch) (D : va_G) (cI cL : ClassId) (q0 q0_eSet q0_eRight q0_rSet q0_rRight : Nat) (n0_eSet n0_eRight n0_rSet n0_rRight : Nat) (f0_thrown : Int32) (f0_n : Int32) (f0_equations : Int32) (f0_rowCount : Int32) (f0_isImpossible : Bool) (h0_eSet : Nat → Int64) (h0_eRight : Nat → Int32) (h0_rSet : Nat → Int64) (h0_rRight : Nat → Int32) (v0_clauses v0_cYes v0_cNo v0_levels v0_levelEquations v0_levelClauses v0_tape v0_tapeSize v0_faultIs v0_faultAt v0_at v0_newEquations v0_newClauses v0_newSet v0_newRight v0_newYes v0_newNo v0_lineYes v0_lineNo v0_sumSet v0_sumOf v0_sumRight v0_empty v0_empties v0_taken v0_ones v0_waitTaken v0_waitOnes v0_nodeCount v0_lastModel v0_modelCount v0_modelIs v0_gSet v0_gateCount : Value) (r0 : Int64 × Int32 × Int32 × Bool × (Nat → Int64) × (Nat → Int32)) (hr0 : D_X8_solutions f0_thrown f0_n f0_equations f0_rowCount f0_isImpossible n0_eSet h0_eSet n0_eRight h0_eRight n0_rSet h0_rSet n0_rRight h0_rRight = some r0) (sz : Nat) : Met l yX8_solutions wsX8_solutions rm_X8_solutions (PcW D cI cL [.ref q0] [(q0, .inr (8, [.int f0_thrown, .int f0_n, .int f0_equations, .ref q0_eSet, .ref q0_eRight, v0_clauses, v0_cYes, v0_cNo, v0_levels, v0_levelEquations, v0_levelClauses, v0_tape, v0_tapeSize, v0_faultIs, v0_faultAt, v0_at, v0_newEquations, v0_newClauses, v0_newSet, v0_newRight, v0_newYes, v0_newNo, v0_lineYes, v0_lineNo, .int f0_rowCount, .ref q0_rSet, .ref q0_rRight, .int (bI f0_isImpossible), v0_sumSet, v0_sumOf, v0_sumRight, v0_empty, v0_empties, v0_taken, v0_ones, v0_waitTaken, v0_waitOnes, v0_nodeCount, v0_lastModel, v0_modelCount, v0_modelIs, v0_gSet, v0_gateCount])), (q0_eSet, .inl (cL, n0_eSet, .inr (.inl h0_eSet))), (q0_eRight, .inl (cI, n0_eRight, .inl h0_eRight)), (q0_rSet, .inl (cL, n0_rSet, .inr (.inl h0_rSet))), (q0_rRight, .inl (cI, n0_rRight, .inl h0_rRight))] sz) (QlW D [(q0, .inr (8, [.int f0_thrown, .int f0_n, .int f0_equations, .ref q0_eSet, .ref q0_eRight, v0_clauses, v0_cYes, v0_cNo, v0_levels, v0_levelEquations, v0_levelClauses, v0_tape, v0_tapeSize, v0_faultIs, v0_faultAt, v0_at, v0_newEquations, v0_newClauses, v0_newSet, v0_newRight, v0_newYes, v0_newNo, v0_lineYes, v0_lineNo, .int f0_rowCount, .ref q0_rSet, .ref q0_rRight, .int (bI f0_isImpossible), v0_sumSet, v0_sumOf, v0_sumRight, v0_empty, v0_empties, v0_taken, v0_ones, v0_waitTaken, v0_waitOnes, v0_nodeCount, v0_lastModel, v0_modelCount, v0_modelIs, v0_gSet, v0_gateCount])), (q0_eSet, .inl (cL, n0_eSet, .inr (.inl h0_eSet))), (q0_eRight, .inl (cI, n0_eRight, .inl h0_eRight)), (q0_rSet, .inl (cL, n0_rSet, .inr (.inl h0_rSet))), (q0_rRight, .inl (cI, n0_rRight, .inl h0_rRight))] r0.1 (fun _ : Unit => [(q0, .inr (8, [.int r0.2.1, .int f0_n, .int f0_equations, .ref q0_eSet, .ref q0_eRight, v0_clauses, v0_cYes, v0_cNo, v0_levels, v0_levelEquations, v0_levelClauses, v0_tape, v0_tapeSize, v0_faultIs, v0_faultAt, v0_at, v0_newEquations, v0_newClauses, v0_newSet, v0_newRight, v0_newYes, v0_newNo, v0_lineYes, v0_lineNo, .int r0.2.2.1, .ref q0_rSet, .ref q0_rRight, .int (bI r0.2.2.2.1), v0_sumSet, v0_sumOf, v0_sumRight, v0_empty, v0_empties, v0_taken, v0_ones, v0_waitTaken, v0_waitOnes, v0_nodeCount, v0_lastModel, v0_modelCount, v0_modelIs, v0_gSet, v0_gateCount])), (q0_eSet, .inl (cL, n0_eSet, .inr (.inl h0_eSet))), (q0_eRight, .inl (cI, n0_eRight, .inl h0_eRight)), (q0_rSet, .inl (cL, n0_rSet, .inr (.inl r0.2.2.2.2.1))), (q0_rRight, .inl (cI, n0_rRight, .inl r0.2.2.2.2.2))]) tU sz) 0 0 (va_A [(q0, .inr (8, [.int f0_thrown, .int f0_n, .int f0_equations, .ref q0_eSet, .ref q0_eRight, v0_clauses, v0_cYes, v0_cNo, v0_levels, v0_levelEquations, v0_levelClauses, v0_tape, v0_tapeSize, v0_faultIs, v0_faultAt, v0_at, v0_newEquations, v0_newClauses, v0_newSet, v0_newRight, v0_newYes, v0_newNo, v0_lineYes, v0_lineNo, .int f0_rowCount, .ref q0_rSet, .ref q0_rRight, .int (bI f0_isImpossible), v0_sumSet, v0_sumOf, v0_sumRight, v0_empty, v0_empties, v0_taken, v0_ones, v0_waitTaken, v0_waitOnes, v0_nodeCount, v0_lastModel, v0_modelCount, v0_modelIs, v0_gSet, v0_gateCount])), (q0_eSet, .inl (cL, n0_eSet, .inr (.inl h0_eSet))), (q0_eRight, .inl (cI, n0_eRight, .inl h0_eRight)), (q0_rSet, .inl (cL, n0_rSet, .inr (.inl h0_rSet))), (q0_rRight, .inl (cI, n0_rRight, .inl h0_rRight))] sz) := by
  refine Met.ofW (cc := cX8_solutions) (maxL := 1) (ret := (some .long)) (by decide) rfl ?_
  intro p e s m args below meth c s₁ B hml hv
  obtain ⟨hargs, hsz, hP, hEV, hD0⟩ := hv
  have hx := B.exec
  have hb := B.bytes
  have hr := B.returns
  have hts := atoms_spec (ws := wsX8_solutions) B.pre
  have hown : s.vm.findClass RX8 = some m.cls := findClass_of_methodNamed B.named
  have hlocks := B.notSynchronized
  have hK := hEV.K
  have lk_0 := hts _ lk_0_X8_solutions
  have lk_1 := hts _ lk_1_X8_solutions
  have lk_2 := hts _ lk_2_X8_solutions
  have lk_3 := hts _ lk_3_X8_solutions
  subst hsz
  unfold QlW PoW
  have hD := hD0.self (sz := s.heap.size)
  generalize hAe : va_A [(q0, .inr (8, [.int f0_thrown, .int f0_n, .int f0_equations, .ref q0_eSet, .ref q0_eRight, v0_clauses, v0_cYes, v0_cNo, v0_levels, v0_levelEquations, v0_levelClauses, v0_tape, v0_tapeSize, v0_faultIs, v0_faultAt, v0_at, v0_newEquations, v0_newClauses, v0_newSet, v0_newRight, v0_newYes, v0_newNo, v0_lineYes, v0_lineNo, .int f0_rowCount, .ref q0_rSet, .ref q0_rRight, .int (bI f0_isImpossible), v0_sumSet, v0_sumOf, v0_sumRight, v0_empty, v0_empties, v0_taken, v0_ones, v0_waitTaken, v0_waitOnes, v0_nodeCount, v0_lastModel, v0_modelCount, v0_modelIs, v0_gSet, v0_gateCount])), (q0_eSet, .inl (cL, n0_eSet, .inr (.inl h0_eSet))), (q0_eRight, .inl (cI, n0_eRight, .inl h0_eRight)), (q0_rSet, .inl (cL, n0_rSet, .inr (.inl h0_rSet))), (q0_rRight, .inl (cI, n0_rRight, .inl h0_rRight))] s.heap.size = A at hD ⊢
  have hA : ∀ q : Nat, s.heap.size ≤ q → A q := fun q h => by rw [← hAe]; exact Or.inr h
  have hent : entryFrame m args 1 = entryFrame m ([.ref q0] : List Value).toArray 1 := by rw [hargs]
  rw [hent]
  refine kx_Q (fun Q hQ => ?_)
  refine kx_H (fun H hH => ?_)
  have hP : va_P D vwCl [(q0, .inr (8, [.int f0_thrown, .int f0_n, .int f0_equations, .ref q0_eSet, .ref q0_eRight, v0_clauses, v0_cYes, v0_cNo, v0_levels, v0_levelEquations, v0_levelClauses, v0_tape, v0_tapeSize, v0_faultIs, v0_faultAt, v0_at, v0_newEquations, v0_newClauses, v0_newSet, v0_newRight, v0_newYes, v0_newNo, v0_lineYes, v0_lineNo, .int f0_rowCount, .ref q0_rSet, .ref q0_rRight, .int (bI f0_isImpossible), v0_sumSet, v0_sumOf, v0_sumRight, v0_empty, v0_empties, v0_taken, v0_ones, v0_waitTaken, v0_waitOnes, v0_nodeCount, v0_lastModel, v0_modelCount, v0_modelIs, v0_gSet, v0_gateCount])), (q0_eSet, .inl (cL, n0_eSet, .inr (.inl h0_eSet))), (q0_eRight, .inl (cI, n0_eRight, .inl h0_eRight)), (q0_rSet, .inl (cL, n0_rSet, .inr (.inl h0_rSet))), (q0_rRight, .inl (cI, n0_rRight, .inl h0_rRight))] H := by rw [hH]; exact hP
  have hS : va_S A s.heap H [] := by rw [hH]; exact va_S.rf
  have hl := lv_entry ([.ref q0]) (n := 1) (Nat.le_of_ble_eq_true rfl)
  rw [lg_entry_eq]
  generalize (lg_sl ([.ref q0]) ++ List.replicate (1 - (lg_sl ([.ref q0])).length) Slot.unset).toArray = ls at hl ⊢
  have hl : lv_has ls 1 [(0, .ref q0)] := hl
  have h := hr0
  unfold D_X8_solutions at h
  refine lv_aload_n hx hb dX8_solutions_0 rfl (lv_at hl 0 rfl) ?_
  refine lv_iconst (v := (0 : Int32)) hx hb dX8_solutions_1 (by decide) ?_
  refine va_put (D := D) (ci := 8) (v := .int (0 : Int32)) (ty := .int) (C := RX8) (T := TX8) (N := 43) hx hb hts in_X8_solutions_X8 tyX8 tyX8_ok nmX8 hown hK hP hD hS 0 rfl rfl 0 (by decide) lk_0 (fun _ h9 => h9) rfl (by decide +kernel) rfl rfl (Nat.le_of_ble_eq_true rfl) dX8_solutions_2 (fun H locs hP hD hS => ?_)
  have hP : va_P D vwCl [(q0, .inr (8, [.int (0 : Int32), .int f0_n, .int f0_equations, .ref q0_eSet, .ref q0_eRight, v0_clauses, v0_cYes, v0_cNo, v0_levels, v0_levelEquations, v0_levelClauses, v0_tape, v0_tapeSize, v0_faultIs, v0_faultAt, v0_at, v0_newEquations, v0_newClauses, v0_newSet, v0_newRight, v0_newYes, v0_newNo, v0_lineYes, v0_lineNo, .int f0_rowCount, .ref q0_rSet, .ref q0_rRight, .int (bI f0_isImpossible), v0_sumSet, v0_sumOf, v0_sumRight, v0_empty, v0_empties, v0_taken, v0_ones, v0_waitTaken, v0_waitOnes, v0_nodeCount, v0_lastModel, v0_modelCount, v0_modelIs, v0_gSet, v0_gateCount])), (q0_eSet, .inl (cL, n0_eSet, .inr (.inl h0_eSet))), (q0_eRight, .inl (cI, n0_eRight, .inl h0_eRight)), (q0_rSet, .inl (cL, n0_rSet, .inr (.inl h0_rSet))), (q0_rRight, .inl (cI, n0_rRight, .inl h0_rRight))] H := hP
  have hD : va_D A [(q0, .inr (8, [.int (0 : Int32), .int f0_n, .int f0_equations, .ref q0_eSet, .ref q0_eRight, v0_clauses, v0_cYes, v0_cNo, v0_levels, v0_levelEquations, v0_levelClauses, v0_tape, v0_tapeSize, v0_faultIs, v0_faultAt, v0_at, v0_newEquations, v0_newClauses, v0_newSet, v0_newRight, v0_newYes, v0_newNo, v0_lineYes, v0_lineNo, .int f0_rowCount, .ref q0_rSet, .ref q0_rRight, .int (bI f0_isImpossible), v0_sumSet, v0_sumOf, v0_sumRight, v0_empty, v0_empties, v0_taken, v0_ones, v0_waitTaken, v0_waitOnes, v0_nodeCount, v0_lastModel, v0_modelCount, v0_modelIs, v0_gSet, v0_gateCount])), (q0_eSet, .inl (cL, n0_eSet, .inr (.inl h0_eSet))), (q0_eRight, .inl (cI, n0_eRight, .inl h0_eRight)), (q0_rSet, .inl (cL, n0_rSet, .inr (.inl h0_rSet))), (q0_rRight, .inl (cI, n0_rRight, .inl h0_rRight))] := hD
  refine lv_aload_n hx hb dX8_solutions_5 rfl (lv_at hl 0 rfl) ?_
  refine lv_lconst (v := (0 : Int64)) hx hb dX8_solutions_6 (by decide) ?_
  refine lv_lconst (v := (0 : Int64)) hx hb dX8_solutions_7 (by decide) ?_
  refine lv_iconst (v := (1 : Int32)) hx hb dX8_solutions_8 (by decide) ?_
  obtain ⟨u_1, hu_2, h⟩ := co_b h
  refine kx_v (ws' := fun _ => [(q0, .inr (8, [.int (0 : Int32), .int f0_n, .int f0_equations, .ref q0_eSet, .ref q0_eRight, v0_clauses, v0_cYes, v0_cNo, v0_levels, v0_levelEquations, v0_levelClauses, v0_tape, v0_tapeSize, v0_faultIs, v0_faultAt, v0_at, v0_newEquations, v0_newClauses, v0_newSet, v0_newRight, v0_newYes, v0_newNo, v0_lineYes, v0_lineNo, .int u_1.1, .ref q0_rSet, .ref q0_rRight, .int (bI u_1.2.1), v0_sumSet, v0_sumOf, v0_sumRight, v0_empty, v0_empties, v0_taken, v0_ones, v0_waitTaken, v0_waitOnes, v0_nodeCount, v0_lastModel, v0_modelCount, v0_modelIs, v0_gSet, v0_gateCount])), (q0_eSet, .inl (cL, n0_eSet, .inr (.inl h0_eSet))), (q0_eRight, .inl (cI, n0_eRight, .inl h0_eRight)), (q0_rSet, .inl (cL, n0_rSet, .inr (.inl u_1.2.2.1))), (q0_rRight, .inl (cI, n0_rRight, .inl u_1.2.2.2))]) hP hD hS hA [0, 1, 2, 3, 4] [] [0, 1, 2, 3, 4] rfl rfl (by decide) (by decide) (fun _ => rfl) (by decide) (va_runV (As := [.long (0 : Int64), .long (0 : Int64), .int (bI true)]) (rest := []) ⟨hx, hb, hml, hown, hts⟩ (cm_X8_makeRows l D cI cL (q0 := q0) (q0_eSet := q0_eSet) (q0_eRight := q0_eRight) (q0_rSet := q0_rSet) (q0_rRight := q0_rRight) (n0_eSet := n0_eSet) (n0_eRight := n0_eRight) (n0_rSet := n0_rSet) (n0_rRight := n0_rRight) (f0_equations := f0_equations) (f0_rowCount := f0_rowCount) (f0_isImpossible := f0_isImpossible) (h0_eSet := h0_eSet) (h0_eRight := h0_eRight) (h0_rSet := h0_rSet) (h0_rRight := h0_rRight) (v0_thrown := .int (0 : Int32)) (v0_n := .int f0_n) (v0_clauses := v0_clauses) (v0_cYes := v0_cYes) (v0_cNo := v0_cNo) (v0_levels := v0_levels) (v0_levelEquations := v0_levelEquations) (v0_levelClauses := v0_levelClauses) (v0_tape := v0_tape) (v0_tapeSize := v0_tapeSize) (v0_faultIs := v0_faultIs) (v0_faultAt := v0_faultAt) (v0_at := v0_at) (v0_newEquations := v0_newEquations) (v0_newClauses := v0_newClauses) (v0_newSet := v0_newSet) (v0_newRight := v0_newRight) (v0_newYes := v0_newYes) (v0_newNo := v0_newNo) (v0_lineYes := v0_lineYes) (v0_lineNo := v0_lineNo) (v0_sumSet := v0_sumSet) (v0_sumOf := v0_sumOf) (v0_sumRight := v0_sumRight) (v0_empty := v0_empty) (v0_empties := v0_empties) (v0_taken := v0_taken) (v0_ones := v0_ones) (v0_waitTaken := v0_waitTaken) (v0_waitOnes := v0_waitOnes) (v0_nodeCount := v0_nodeCount) (v0_lastModel := v0_lastModel) (v0_modelCount := v0_modelCount) (v0_modelIs := v0_modelIs) (v0_gSet := v0_gSet) (v0_gateCount := v0_gateCount) (x1 := (0 : Int64)) (x3 := (0 : Int64)) (x5 := true) (r0 := u_1) (hr0 := hu_2) (sz := H.size)) (cwV 3 hts gX8_solutions_X8_makeRows rfl rfl rfl (by decide +kernel) ⟨Nat.le_of_ble_eq_true rfl, Nat.le_of_ble_eq_true rfl⟩) (kx_preV hEV hP hD [0, 1, 2, 3, 4] rfl (by decide) (k0 := 0) (ci := 8) rfl rfl rfl) rfl rfl hl.1 rfl (lv_room (Nat.le_of_ble_eq_true rfl)) dX8_solutions_9 ⟨Nat.le_of_ble_eq_true rfl, Nat.le_of_ble_eq_true rfl⟩) (fun _ H locs _ hP hD hS => ?_)
  refine lv_aload_n hx hb dX8_solutions_12 rfl (lv_at hl 0 rfl) ?_
  refine va_get (D := D) (ci := 8) (v := .int (bI u_1.2.1)) (C := RX8) (T := TX8) (N := 43) hx hb hts in_X8_solutions_X8 hown hK hP 0 rfl rfl 27 (by decide) lk_1 (fun _ h9 => h9) rfl dX8_solutions_13 ?_
  refine lv_if_eq (tgt := 23) hx hb dX8_solutions_16 (by decide) (fun c_3 => ?_) (fun c_3 => ?_)
  · have k_4 : ¬ (u_1.2.1 = true) := (kx_z c_3)
    have h := co_f k_4 h
    refine lv_lconst (v := (1 : Int64)) hx hb dX8_solutions_23 (by decide) ?_
    refine lv_aload_n hx hb dX8_solutions_24 rfl (lv_at hl 0 rfl) ?_
    refine va_get (D := D) (ci := 8) (v := .int f0_n) (C := RX8) (T := TX8) (N := 43) hx hb hts in_X8_solutions_X8 hown hK hP 0 rfl rfl 1 (by decide) lk_2 (fun _ h9 => h9) rfl dX8_solutions_25 ?_
    refine lv_aload_n hx hb dX8_solutions_28 rfl (lv_at hl 0 rfl) ?_
    refine va_get (D := D) (ci := 8) (v := .int u_1.1) (C := RX8) (T := TX8) (N := 43) hx hb hts in_X8_solutions_X8 hown hK hP 0 rfl rfl 24 (by decide) lk_3 (fun _ h9 => h9) rfl dX8_solutions_29 ?_
    refine lv_isub hx hb dX8_solutions_32 ?_
    refine lv_lshl (v := jshl (1 : Int64) (f0_n - u_1.1)) hx hb dX8_solutions_33 rfl ?_
    have h := Option.some.inj h
    subst h
    subst hQ
    exact W.lret (v := jshl (1 : Int64) (f0_n - u_1.1)) hx hb hr (fun t ht hW => ⟨⟨jshl (1 : Int64) (f0_n - u_1.1), (), rfl, ⟨rfl, trivial⟩, by rw [ht]; exact hP, hD⟩, hS.F ht⟩) hS.2.2 dX8_solutions_34
  · have k_4 : u_1.2.1 = true := (kx_nz c_3)
    have h := co_t k_4 h
    refine lv_lconst (v := (0 : Int64)) hx hb dX8_solutions_19 (by decide) ?_
    refine lv_goto (tgt := 34) hx hb dX8_solutions_20 (by decide) ?_
    have h := Option.some.inj h
    subst h
    subst hQ
    exact W.lret (v := (0 : Int64)) hx hb hr (fun t ht hW => ⟨⟨(0 : Int64), (), rfl, ⟨rfl, trivial⟩, by rw [ht]; exact hP, hD⟩, hS.F ht⟩) hS.2.2 dX8_solutions_34
theorem in_X8_solution_X8 : ∀ w ∈ wsX80, w ∈ wsX8_solution := by decide +kernel
theorem lk_0_X8_solution : Cond.fieldLink RX8 81 "ParityClausesModel" "thrown" "I" ∈ wsX8_solution := by decide +kernel
theorem lk_1_X8_solution : Cond.fieldLink RX8 175 "ParityClausesModel" "isImpossible" "Z" ∈ wsX8_solution := by decide +kernel
theorem lk_2_X8_solution : Cond.constantLong RX8 68 (-1) ∈ wsX8_solution := by decide +kernel
theorem lk_3_X8_solution : Cond.fieldLink RX8 77 "ParityClausesModel" "n" "I" ∈ wsX8_solution := by decide +kernel
theorem lk_4_X8_solution : Cond.fieldLink RX8 172 "ParityClausesModel" "rowCount" "I" ∈ wsX8_solution := by decide +kernel
theorem lk_5_X8_solution : Cond.fieldLink RX8 44 "ParityClausesModel" "rSet" "[J" ∈ wsX8_solution := by decide +kernel
theorem lk_6_X8_solution : Cond.fieldLink RX8 47 "ParityClausesModel" "rRight" "[I" ∈ wsX8_solution := by decide +kernel
abbrev rm_X8_solution : Room := { frames := 4, cells := 0, slots := 0, locals := 103 }
set_option maxHeartbeats 4000000 in
set_option maxRecDepth 100000 in
theorem cm_X8_solution (l : Launch) (D : va_G) (cI cL : ClassId) (q0 q0_eSet q0_eRight q0_rSet q0_rRight : Nat) (n0_eSet n0_eRight n0_rSet n0_rRight : Nat) (f0_thrown : Int32) (f0_n : Int32) (f0_equations : Int32) (f0_rowCount : Int32) (f0_isImpossible : Bool) (h0_eSet : Nat → Int64) (h0_eRight : Nat → Int32) (h0_rSet : Nat → Int64) (h0_rRight : Nat → Int32) (v0_clauses v0_cYes v0_cNo v0_levels v0_levelEquations v0_levelClauses v0_tape v0_tapeSize v0_faultIs v0_faultAt v0_at v0_newEquations v0_newClauses v0_newSet v0_newRight v0_newYes v0_newNo v0_lineYes v0_lineNo v0_sumSet v0_sumOf v0_sumRight v0_empty v0_empties v0_taken v0_ones v0_waitTaken v0_waitOnes v0_nodeCount v0_lastModel v0_modelCount v0_modelIs v0_gSet v0_gateCount : Value) (x1 : Int64) (r0 : Int64 × Int32 × Int32 × Bool × (Nat → Int64) × (Nat → Int32)) (hr0 : D_X8_solution f0_thrown f0_n f0_equations f0_rowCount f0_isImpossible n0_eSet h0_eSet n0_eRight h0_eRight n0_rSet h0_rSet n0_rRight h0_rRight x1 = some r0) (sz : Nat) : Met l yX8_solution wsX8_solution rm_X8_solution (PcW D cI cL [.ref q0, .long x1] [(q0, .inr (8, [.int f0_thrown, .int f0_n, .int f0_equations, .ref q0_eSet, .ref q0_eRight, v0_clauses, v0_cYes, v0_cNo, v0_levels, v0_levelEquations, v0_levelClauses, v0_tape, v0_tapeSize, v0_faultIs, v0_faultAt, v0_at, v0_newEquations, v0_newClauses, v0_newSet, v0_newRight, v0_newYes, v0_newNo, v0_lineYes, v0_lineNo, .int f0_rowCount, .ref q0_rSet, .ref q0_rRight, .int (bI f0_isImpossible), v0_sumSet, v0_sumOf, v0_sumRight, v0_empty, v0_empties, v0_taken, v0_ones, v0_waitTaken, v0_waitOnes, v0_nodeCount, v0_lastModel, v0_modelCount, v0_modelIs, v0_gSet, v0_gateCount])), (q0_eSet, .inl (cL, n0_eSet, .inr (.inl h0_eSet))), (q0_eRight, .inl (cI, n0_eRight, .inl h0_eRight)), (q0_rSet, .inl (cL, n0_rSet, .inr (.inl h0_rSet))), (q0_rRight, .inl (cI, n0_rRight, .inl h0_rRight))] sz) (QlW D [(q0, .inr (8, [.int f0_thrown, .int f0_n, .int f0_equations, .ref q0_eSet, .ref q0_eRight, v0_clauses, v0_cYes, v0_cNo, v0_levels, v0_levelEquations, v0_levelClauses, v0_tape, v0_tapeSize, v0_faultIs, v0_faultAt, v0_at, v0_newEquations, v0_newClauses, v0_newSet, v0_newRight, v0_newYes, v0_newNo, v0_lineYes, v0_lineNo, .int f0_rowCount, .ref q0_rSet, .ref q0_rRight, .int (bI f0_isImpossible), v0_sumSet, v0_sumOf, v0_sumRight, v0_empty, v0_empties, v0_taken, v0_ones, v0_waitTaken, v0_waitOnes, v0_nodeCount, v0_lastModel, v0_modelCount, v0_modelIs, v0_gSet, v0_gateCount])), (q0_eSet, .inl (cL, n0_eSet, .inr (.inl h0_eSet))), (q0_eRight, .inl (cI, n0_eRight, .inl h0_eRight)), (q0_rSet, .inl (cL, n0_rSet, .inr (.inl h0_rSet))), (q0_rRight, .inl (cI, n0_rRight, .inl h0_rRight))] r0.1 (fun _ : Unit => [(q0, .inr (8, [.int r0.2.1, .int f0_n, .int f0_equations, .ref q0_eSet, .ref q0_eRight, v0_clauses, v0_cYes, v0_cNo, v0_levels, v0_levelEquations, v0_levelClauses, v0_tape, v0_tapeSize, v0_faultIs, v0_faultAt, v0_at, v0_newEquations, v0_newClauses, v0_newSet, v0_newRight, v0_newYes, v0_newNo, v0_lineYes, v0_lineNo, .int r0.2.2.1, .ref q0_rSet, .ref q0_rRight, .int (bI r0.2.2.2.1), v0_sumSet, v0_sumOf, v0_sumRight, v0_empty, v0_empties, v0_taken, v0_ones, v0_waitTaken, v0_waitOnes, v0_nodeCount, v0_lastModel, v0_modelCount, v0_modelIs, v0_gSet, v0_gateCount])), (q0_eSet, .inl (cL, n0_eSet, .inr (.inl h0_eSet))), (q0_eRight, .inl (cI, n0_eRight, .inl h0_eRight)), (q0_rSet, .inl (cL, n0_rSet, .inr (.inl r0.2.2.2.2.1))), (q0_rRight, .inl (cI, n0_rRight, .inl r0.2.2.2.2.2))]) tU sz) 0 0 (va_A [(q0, .inr (8, [.int f0_thrown, .int f0_n, .int f0_equations, .ref q0_eSet, .ref q0_eRight, v0_clauses, v0_cYes, v0_cNo, v0_levels, v0_levelEquations, v0_levelClauses, v0_tape, v0_tapeSize, v0_faultIs, v0_faultAt, v0_at, v0_newEquations, v0_newClauses, v0_newSet, v0_newRight, v0_newYes, v0_newNo, v0_lineYes, v0_lineNo, .int f0_rowCount, .ref q0_rSet, .ref q0_rRight, .int (bI f0_isImpossible), v0_sumSet, v0_sumOf, v0_sumRight, v0_empty, v0_empties, v0_taken, v0_ones, v0_waitTaken, v0_waitOnes, v0_nodeCount, v0_lastModel, v0_modelCount, v0_modelIs, v0_gSet, v0_gateCount])), (q0_eSet, .inl (cL, n0_eSet, .inr (.inl h0_eSet))), (q0_eRight, .inl (cI, n0_eRight, .inl h0_eRight)), (q0_rSet, .inl (cL, n0_rSet, .inr (.inl h0_rSet))), (q0_rRight, .inl (cI, n0_rRight, .inl h0_rRight))] sz) := by
  refine Met.ofW (cc := cX8_solution) (maxL := 10) (ret := (some .long)) (by decide) rfl ?_
  intro p e s m args below meth c s₁ B hml hv
  obtain ⟨hargs, hsz, hP, hEV, hD0⟩ := hv
  have hx := B.exec
  have hb := B.bytes
  have hr := B.returns
  have hts := atoms_spec (ws := wsX8_solution) B.pre
  have hown : s.vm.findClass RX8 = some m.cls := findClass_of_methodNamed B.named
  have hlocks := B.notSynchronized
  have hK := hEV.K
  have lk_0 := hts _ lk_0_X8_solution
  have lk_1 := hts _ lk_1_X8_solution
  have lk_2 := hts _ lk_2_X8_solution
  have lk_3 := hts _ lk_3_X8_solution
  have lk_4 := hts _ lk_4_X8_solution
  have lk_5 := hts _ lk_5_X8_solution
  have lk_6 := hts _ lk_6_X8_solution
  subst hsz
  unfold QlW PoW
  have hD := hD0.self (sz := s.heap.size)
  generalize hAe : va_A [(q0, .inr (8, [.int f0_thrown, .int f0_n, .int f0_equations, .ref q0_eSet, .ref q0_eRight, v0_clauses, v0_cYes, v0_cNo, v0_levels, v0_levelEquations, v0_levelClauses, v0_tape, v0_tapeSize, v0_faultIs, v0_faultAt, v0_at, v0_newEquations, v0_newClauses, v0_newSet, v0_newRight, v0_newYes, v0_newNo, v0_lineYes, v0_lineNo, .int f0_rowCount, .ref q0_rSet, .ref q0_rRight, .int (bI f0_isImpossible), v0_sumSet, v0_sumOf, v0_sumRight, v0_empty, v0_empties, v0_taken, v0_ones, v0_waitTaken, v0_waitOnes, v0_nodeCount, v0_lastModel, v0_modelCount, v0_modelIs, v0_gSet, v0_gateCount])), (q0_eSet, .inl (cL, n0_eSet, .inr (.inl h0_eSet))), (q0_eRight, .inl (cI, n0_eRight, .inl h0_eRight)), (q0_rSet, .inl (cL, n0_rSet, .inr (.inl h0_rSet))), (q0_rRight, .inl (cI, n0_rRight, .inl h0_rRight))] s.heap.size = A at hD ⊢
  have hA : ∀ q : Nat, s.heap.size ≤ q → A q := fun q h => by rw [← hAe]; exact Or.inr h
  have hent : entryFrame m args 10 = entryFrame m ([.ref q0, .long x1] : List Value).toArray 10 := by rw [hargs]
  rw [hent]
  refine kx_Q (fun Q hQ => ?_)
  refine kx_H (fun H hH => ?_)
  have hP : va_P D vwCl [(q0, .inr (8, [.int f0_thrown, .int f0_n, .int f0_equations, .ref q0_eSet, .ref q0_eRight, v0_clauses, v0_cYes, v0_cNo, v0_levels, v0_levelEquations, v0_levelClauses, v0_tape, v0_tapeSize, v0_faultIs, v0_faultAt, v0_at, v0_newEquations, v0_newClauses, v0_newSet, v0_newRight, v0_newYes, v0_newNo, v0_lineYes, v0_lineNo, .int f0_rowCount, .ref q0_rSet, .ref q0_rRight, .int (bI f0_isImpossible), v0_sumSet, v0_sumOf, v0_sumRight, v0_empty, v0_empties, v0_taken, v0_ones, v0_waitTaken, v0_waitOnes, v0_nodeCount, v0_lastModel, v0_modelCount, v0_modelIs, v0_gSet, v0_gateCount])), (q0_eSet, .inl (cL, n0_eSet, .inr (.inl h0_eSet))), (q0_eRight, .inl (cI, n0_eRight, .inl h0_eRight)), (q0_rSet, .inl (cL, n0_rSet, .inr (.inl h0_rSet))), (q0_rRight, .inl (cI, n0_rRight, .inl h0_rRight))] H := by rw [hH]; exact hP
  have hS : va_S A s.heap H [] := by rw [hH]; exact va_S.rf
  have hl := lv_entry ([.ref q0, .long x1]) (n := 10) (Nat.le_of_ble_eq_true rfl)
  rw [lg_entry_eq]
  generalize (lg_sl ([.ref q0, .long x1]) ++ List.replicate (10 - (lg_sl ([.ref q0, .long x1])).length) Slot.unset).toArray = ls at hl ⊢
  have hl : lv_has ls 10 [(0, .ref q0), (1, .long x1)] := hl
  have hloop : ∀ n9 : Nat, (∀ (x3 : Int32) (x4 : Int64) (x6 : Int32) (x7 : Int32) (f0_thrown : Int32) (f0_rowCount : Int32) (f0_isImpossible : Bool) (h0_rSet : Nat → Int64) (h0_rRight : Nat → Int32), iter (st_X8_solution f0_n f0_equations n0_eSet h0_eSet n0_eRight h0_eRight n0_rSet n0_rRight x1) n9 (x3, x4, x6, x7, f0_thrown, f0_rowCount, f0_isImpossible, h0_rSet, h0_rRight) = some r0 → ∀ (H : Heap) (locs : List Loc) (ls : Array Slot), va_P D vwCl [(q0, .inr (8, [.int f0_thrown, .int f0_n, .int f0_equations, .ref q0_eSet, .ref q0_eRight, v0_clauses, v0_cYes, v0_cNo, v0_levels, v0_levelEquations, v0_levelClauses, v0_tape, v0_tapeSize, v0_faultIs, v0_faultAt, v0_at, v0_newEquations, v0_newClauses, v0_newSet, v0_newRight, v0_newYes, v0_newNo, v0_lineYes, v0_lineNo, .int f0_rowCount, .ref q0_rSet, .ref q0_rRight, .int (bI f0_isImpossible), v0_sumSet, v0_sumOf, v0_sumRight, v0_empty, v0_empties, v0_taken, v0_ones, v0_waitTaken, v0_waitOnes, v0_nodeCount, v0_lastModel, v0_modelCount, v0_modelIs, v0_gSet, v0_gateCount])), (q0_eSet, .inl (cL, n0_eSet, .inr (.inl h0_eSet))), (q0_eRight, .inl (cI, n0_eRight, .inl h0_eRight)), (q0_rSet, .inl (cL, n0_rSet, .inr (.inl h0_rSet))), (q0_rRight, .inl (cI, n0_rRight, .inl h0_rRight))] H → va_D A [(q0, .inr (8, [.int f0_thrown, .int f0_n, .int f0_equations, .ref q0_eSet, .ref q0_eRight, v0_clauses, v0_cYes, v0_cNo, v0_levels, v0_levelEquations, v0_levelClauses, v0_tape, v0_tapeSize, v0_faultIs, v0_faultAt, v0_at, v0_newEquations, v0_newClauses, v0_newSet, v0_newRight, v0_newYes, v0_newNo, v0_lineYes, v0_lineNo, .int f0_rowCount, .ref q0_rSet, .ref q0_rRight, .int (bI f0_isImpossible), v0_sumSet, v0_sumOf, v0_sumRight, v0_empty, v0_empties, v0_taken, v0_ones, v0_waitTaken, v0_waitOnes, v0_nodeCount, v0_lastModel, v0_modelCount, v0_modelIs, v0_gSet, v0_gateCount])), (q0_eSet, .inl (cL, n0_eSet, .inr (.inl h0_eSet))), (q0_eRight, .inl (cI, n0_eRight, .inl h0_eRight)), (q0_rSet, .inl (cL, n0_rSet, .inr (.inl h0_rSet))), (q0_rRight, .inl (cI, n0_rRight, .inl h0_rRight))] → va_S A s.heap H locs → lv_has ls 10 [(0, .ref q0), (1, .long x1), (3, .int x3), (4, .long x4), (6, .int x6), (7, .int x7)] → W p l e (headSpec wsX8_solution rm_X8_solution).room s m args below meth c H locs 0 0 Q (F0 m 64 ls [])) := by
    intro n9
    induction n9 with
    | zero => exact (fun _ _ _ _ _ _ _ _ _ h => nomatch h)
    | succ n9 ih =>
      intro x3 x4 x6 x7 f0_thrown f0_rowCount f0_isImpossible h0_rSet h0_rRight h H locs ls hP hD hS hl
      have h : run1 (iter (st_X8_solution f0_n f0_equations n0_eSet h0_eSet n0_eRight h0_eRight n0_rSet n0_rRight x1) n9) (b_X8_solution_64 f0_n f0_equations n0_eSet h0_eSet n0_eRight h0_eRight n0_rSet n0_rRight x1 x3 x4 x6 x7 f0_thrown f0_rowCount f0_isImpossible h0_rSet h0_rRight) = some r0 := h
      unfold b_X8_solution_64 at h
      refine lv_iload hx hb dX8_solution_64 (lv_at hl 5 rfl) ?_
      refine lv_aload_n hx hb dX8_solution_66 rfl (lv_at hl 0 rfl) ?_
      refine va_get (D := D) (ci := 8) (v := .int f0_n) (C := RX8) (T := TX8) (N := 43) hx hb hts in_X8_solution_X8 hown hK hP 0 rfl rfl 1 (by decide) lk_3 (fun _ h9 => h9) rfl dX8_solution_67 ?_
      refine lv_icmp_ge (tgt := 176) hx hb dX8_solution_70 (by decide) (fun c_9 => ?_) (fun c_9 => ?_)
      · have k_10 : f0_n ≤ x7 := c_9
        have h := cw_t k_10 h
        refine lv_lload hx hb dX8_solution_176 (lv_at hl 3 rfl) ?_
        have h := Option.some.inj h
        subst h
        subst hQ
        exact W.lret (v := x4) hx hb hr (fun t ht hW => ⟨⟨x4, (), rfl, ⟨rfl, trivial⟩, by rw [ht]; exact hP, hD⟩, hS.F ht⟩) hS.2.2 dX8_solution_178
      · have k_10 : ¬ (f0_n ≤ x7) := c_9
        have h := cw_f k_10 h
        refine lv_lconst (v := (1 : Int64)) hx hb dX8_solution_73 (by decide) ?_
        refine lv_iload hx hb dX8_solution_74 (lv_at hl 5 rfl) ?_
        refine lv_lshl (v := jshl (1 : Int64) x7) hx hb dX8_solution_76 rfl ?_
        refine lv_lstore (lv' := [(8, .long (jshl (1 : Int64) x7)), (0, .ref q0), (1, .long x1), (3, .int x3), (4, .long x4), (6, .int x6), (7, .int x7)]) hx hb dX8_solution_77 hl (by decide) rfl (fun ls hl => ?_)
        refine lv_iload hx hb dX8_solution_79 (lv_at hl 5 rfl) ?_
        refine lv_aload_n hx hb dX8_solution_81 rfl (lv_at hl 1 rfl) ?_
        refine va_get (D := D) (ci := 8) (v := .int f0_rowCount) (C := RX8) (T := TX8) (N := 43) hx hb hts in_X8_solution_X8 hown hK hP 0 rfl rfl 24 (by decide) lk_4 (fun _ h9 => h9) rfl dX8_solution_82 ?_
        refine lv_icmp_ge (tgt := 146) hx hb dX8_solution_85 (by decide) (fun c_11 => ?_) (fun c_11 => ?_)
        · have k_12 : f0_rowCount ≤ x6 := c_11
          have h := cw_t k_12 h
          refine lv_iinc (v := x3 + (-1 : Int32)) (lv' := [(3, .int (x3 + (-1 : Int32))), (8, .long (jshl (1 : Int64) x7)), (0, .ref q0), (1, .long x1), (4, .long x4), (6, .int x6), (7, .int x7)]) hx hb dX8_solution_146 hl (k := 3) rfl rfl (by decide) rfl (fun ls hl => ?_)
          refine lv_lload hx hb dX8_solution_149 (lv_at hl 4 rfl) ?_
          refine lv_lload_n hx hb dX8_solution_151 rfl (lv_at hl 3 rfl) ?_
          refine lv_iload_n hx hb dX8_solution_152 rfl (lv_at hl 0 rfl) ?_
          refine lv_lshr (v := jshr x1 (x3 + (-1 : Int32))) hx hb dX8_solution_153 rfl ?_
          refine lv_lconst (v := (1 : Int64)) hx hb dX8_solution_154 (by decide) ?_
          refine lv_land hx hb dX8_solution_155 ?_
          refine lv_lconst (v := (1 : Int64)) hx hb dX8_solution_156 (by decide) ?_
          refine W.lcmp hx hb dX8_solution_157 ?_
          refine lv_if_ne (tgt := 166) hx hb dX8_solution_158 (by decide) (fun c_13 => ?_) (fun c_13 => ?_)
          · have k_14 : ¬ (((jshr x1 (x3 + (-1 : Int32))) &&& (1 : Int64)) = (1 : Int64)) := (fun z9 => c_13 ((lg_cmp_eq _ _).mpr z9))
            have h := cw_f k_14 h
            refine lv_lconst (v := (0 : Int64)) hx hb dX8_solution_166 (by decide) ?_
            refine lv_lor hx hb dX8_solution_167 ?_
            refine lv_lstore (lv' := [(4, .long (x4 ||| (0 : Int64))), (3, .int (x3 + (-1 : Int32))), (8, .long (jshl (1 : Int64) x7)), (0, .ref q0), (1, .long x1), (6, .int x6), (7, .int x7)]) hx hb dX8_solution_168 hl (by decide) rfl (fun ls hl => ?_)
            refine lv_iinc (v := x7 + (1 : Int32)) (lv' := [(7, .int (x7 + (1 : Int32))), (4, .long (x4 ||| (0 : Int64))), (3, .int (x3 + (-1 : Int32))), (8, .long (jshl (1 : Int64) x7)), (0, .ref q0), (1, .long x1), (6, .int x6)]) hx hb dX8_solution_170 hl (k := 6) rfl rfl (by decide) rfl (fun ls hl => ?_)
            refine lv_goto (tgt := 64) hx hb dX8_solution_173 (by decide) ?_
            exact ih _ _ _ _ _ _ _ _ _ h _ _ _ hP hD hS (lv_sub hl [4, 5, 2, 1, 6, 0] rfl)
          · have k_14 : ((jshr x1 (x3 + (-1 : Int32))) &&& (1 : Int64)) = (1 : Int64) := ((lg_cmp_eq _ _).mp c_13)
            have h := cw_t k_14 h
            refine lv_lload hx hb dX8_solution_161 (lv_at hl 1 rfl) ?_
            refine lv_goto (tgt := 167) hx hb dX8_solution_163 (by decide) ?_
            refine lv_lor hx hb dX8_solution_167 ?_
            refine lv_lstore (lv' := [(4, .long (x4 ||| (jshl (1 : Int64) x7))), (3, .int (x3 + (-1 : Int32))), (8, .long (jshl (1 : Int64) x7)), (0, .ref q0), (1, .long x1), (6, .int x6), (7, .int x7)]) hx hb dX8_solution_168 hl (by decide) rfl (fun ls hl => ?_)
            refine lv_iinc (v := x7 + (1 : Int32)) (lv' := [(7, .int (x7 + (1 : Int32))), (4, .long (x4 ||| (jshl (1 : Int64) x7))), (3, .int (x3 + (-1 : Int32))), (8, .long (jshl (1 : Int64) x7)), (0, .ref q0), (1, .long x1), (6, .int x6)]) hx hb dX8_solution_170 hl (k := 6) rfl rfl (by decide) rfl (fun ls hl => ?_)
            refine lv_goto (tgt := 64) hx hb dX8_solution_173 (by decide) ?_
            exact ih _ _ _ _ _ _ _ _ _ h _ _ _ hP hD hS (lv_sub hl [4, 5, 2, 1, 6, 0] rfl)
        · have k_12 : ¬ (f0_rowCount ≤ x6) := c_11
          have h := cw_f k_12 h
          refine lv_aload_n hx hb dX8_solution_88 rfl (lv_at hl 1 rfl) ?_
          refine va_get (D := D) (ci := 8) (v := .ref q0_rSet) (C := RX8) (T := TX8) (N := 43) hx hb hts in_X8_solution_X8 hown hK hP 0 rfl rfl 25 (by decide) lk_5 (fun _ h9 => h9) rfl dX8_solution_89 ?_
          refine lv_iload hx hb dX8_solution_92 (lv_at hl 5 rfl) ?_
          obtain ⟨b_15, h⟩ := cw_i h
          refine va_lald hx hb hK hP 3 1 rfl rfl b_15 dX8_solution_94 ?_
          obtain ⟨u_16, hu_17, h⟩ := cw_b h
          refine kx_l (ws' := fun _ => [(q0, .inr (8, [.int f0_thrown, .int f0_n, .int f0_equations, .ref q0_eSet, .ref q0_eRight, v0_clauses, v0_cYes, v0_cNo, v0_levels, v0_levelEquations, v0_levelClauses, v0_tape, v0_tapeSize, v0_faultIs, v0_faultAt, v0_at, v0_newEquations, v0_newClauses, v0_newSet, v0_newRight, v0_newYes, v0_newNo, v0_lineYes, v0_lineNo, .int f0_rowCount, .ref q0_rSet, .ref q0_rRight, .int (bI f0_isImpossible), v0_sumSet, v0_sumOf, v0_sumRight, v0_empty, v0_empties, v0_taken, v0_ones, v0_waitTaken, v0_waitOnes, v0_nodeCount, v0_lastModel, v0_modelCount, v0_modelIs, v0_gSet, v0_gateCount])), (q0_eSet, .inl (cL, n0_eSet, .inr (.inl h0_eSet))), (q0_eRight, .inl (cI, n0_eRight, .inl h0_eRight)), (q0_rSet, .inl (cL, n0_rSet, .inr (.inl h0_rSet))), (q0_rRight, .inl (cI, n0_rRight, .inl h0_rRight))]) hP hD hS hA [] [0, 1, 2, 3, 4] [0, 1, 2, 3, 4] rfl rfl (by decide) (by decide) (fun _ => rfl) (by decide) (va_runS (As := [.long (h0_rSet x6.toNatClampNeg)]) (rest := []) ⟨hx, hb, hml, hown, hts⟩ (cm_X8_highest l D cI cL (x0 := h0_rSet x6.toNatClampNeg) (r0 := u_16) (hr0 := hu_17) (sz := H.size)) (va_cwS 1 hts gX8_solution_X8_highest rfl rfl rfl (by decide +kernel) ⟨Nat.le_of_ble_eq_true rfl, Nat.le_of_ble_eq_true rfl⟩) (kx_preS hEV hP hD [] rfl (by decide)) rfl rfl hl.1 rfl (lv_room (Nat.le_of_ble_eq_true rfl)) dX8_solution_95 ⟨Nat.le_of_ble_eq_true rfl, Nat.le_of_ble_eq_true rfl⟩) (fun _ H locs _ hP hD hS => ?_)
          refine lv_lload hx hb dX8_solution_98 (lv_at hl 0 rfl) ?_
          refine W.lcmp hx hb dX8_solution_100 ?_
          refine lv_if_ne (tgt := 146) hx hb dX8_solution_101 (by decide) (fun c_18 => ?_) (fun c_18 => ?_)
          · have k_19 : ¬ (u_16 = (jshl (1 : Int64) x7)) := (fun z9 => c_18 ((lg_cmp_eq _ _).mpr z9))
            have h := cw_f k_19 h
            refine lv_iinc (v := x3 + (-1 : Int32)) (lv' := [(3, .int (x3 + (-1 : Int32))), (8, .long (jshl (1 : Int64) x7)), (0, .ref q0), (1, .long x1), (4, .long x4), (6, .int x6), (7, .int x7)]) hx hb dX8_solution_146 hl (k := 3) rfl rfl (by decide) rfl (fun ls hl => ?_)
            refine lv_lload hx hb dX8_solution_149 (lv_at hl 4 rfl) ?_
            refine lv_lload_n hx hb dX8_solution_151 rfl (lv_at hl 3 rfl) ?_
            refine lv_iload_n hx hb dX8_solution_152 rfl (lv_at hl 0 rfl) ?_
            refine lv_lshr (v := jshr x1 (x3 + (-1 : Int32))) hx hb dX8_solution_153 rfl ?_
            refine lv_lconst (v := (1 : Int64)) hx hb dX8_solution_154 (by decide) ?_
            refine lv_land hx hb dX8_solution_155 ?_
            refine lv_lconst (v := (1 : Int64)) hx hb dX8_solution_156 (by decide) ?_
            refine W.lcmp hx hb dX8_solution_157 ?_
            refine lv_if_ne (tgt := 166) hx hb dX8_solution_158 (by decide) (fun c_20 => ?_) (fun c_20 => ?_)
            · have k_21 : ¬ (((jshr x1 (x3 + (-1 : Int32))) &&& (1 : Int64)) = (1 : Int64)) := (fun z9 => c_20 ((lg_cmp_eq _ _).mpr z9))
              have h := cw_f k_21 h
              refine lv_lconst (v := (0 : Int64)) hx hb dX8_solution_166 (by decide) ?_
              refine lv_lor hx hb dX8_solution_167 ?_
              refine lv_lstore (lv' := [(4, .long (x4 ||| (0 : Int64))), (3, .int (x3 + (-1 : Int32))), (8, .long (jshl (1 : Int64) x7)), (0, .ref q0), (1, .long x1), (6, .int x6), (7, .int x7)]) hx hb dX8_solution_168 hl (by decide) rfl (fun ls hl => ?_)
              refine lv_iinc (v := x7 + (1 : Int32)) (lv' := [(7, .int (x7 + (1 : Int32))), (4, .long (x4 ||| (0 : Int64))), (3, .int (x3 + (-1 : Int32))), (8, .long (jshl (1 : Int64) x7)), (0, .ref q0), (1, .long x1), (6, .int x6)]) hx hb dX8_solution_170 hl (k := 6) rfl rfl (by decide) rfl (fun ls hl => ?_)
              refine lv_goto (tgt := 64) hx hb dX8_solution_173 (by decide) ?_
              exact ih _ _ _ _ _ _ _ _ _ h _ _ _ hP hD hS (lv_sub hl [4, 5, 2, 1, 6, 0] rfl)
            · have k_21 : ((jshr x1 (x3 + (-1 : Int32))) &&& (1 : Int64)) = (1 : Int64) := ((lg_cmp_eq _ _).mp c_20)
              have h := cw_t k_21 h
              refine lv_lload hx hb dX8_solution_161 (lv_at hl 1 rfl) ?_
              refine lv_goto (tgt := 167) hx hb dX8_solution_163 (by decide) ?_
              refine lv_lor hx hb dX8_solution_167 ?_
              refine lv_lstore (lv' := [(4, .long (x4 ||| (jshl (1 : Int64) x7))), (3, .int (x3 + (-1 : Int32))), (8, .long (jshl (1 : Int64) x7)), (0, .ref q0), (1, .long x1), (6, .int x6), (7, .int x7)]) hx hb dX8_solution_168 hl (by decide) rfl (fun ls hl => ?_)
              refine lv_iinc (v := x7 + (1 : Int32)) (lv' := [(7, .int (x7 + (1 : Int32))), (4, .long (x4 ||| (jshl (1 : Int64) x7))), (3, .int (x3 + (-1 : Int32))), (8, .long (jshl (1 : Int64) x7)), (0, .ref q0), (1, .long x1), (6, .int x6)]) hx hb dX8_solution_170 hl (k := 6) rfl rfl (by decide) rfl (fun ls hl => ?_)
              refine lv_goto (tgt := 64) hx hb dX8_solution_173 (by decide) ?_
              exact ih _ _ _ _ _ _ _ _ _ h _ _ _ hP hD hS (lv_sub hl [4, 5, 2, 1, 6, 0] rfl)
          · have k_19 : u_16 = (jshl (1 : Int64) x7) := ((lg_cmp_eq _ _).mp c_18)
            have h := cw_t k_19 h
            refine lv_lload hx hb dX8_solution_104 (lv_at hl 4 rfl) ?_
            refine lv_aload_n hx hb dX8_solution_106 rfl (lv_at hl 1 rfl) ?_
            refine va_get (D := D) (ci := 8) (v := .ref q0_rRight) (C := RX8) (T := TX8) (N := 43) hx hb hts in_X8_solution_X8 hown hK hP 0 rfl rfl 26 (by decide) lk_6 (fun _ h9 => h9) rfl dX8_solution_107 ?_
            refine lv_iload hx hb dX8_solution_110 (lv_at hl 5 rfl) ?_
            obtain ⟨b_22, h⟩ := cw_i h
            refine va_iald hx hb hK hP 4 0 rfl rfl b_22 dX8_solution_112 ?_
            refine lv_aload_n hx hb dX8_solution_113 rfl (lv_at hl 1 rfl) ?_
            refine va_get (D := D) (ci := 8) (v := .ref q0_rSet) (C := RX8) (T := TX8) (N := 43) hx hb hts in_X8_solution_X8 hown hK hP 0 rfl rfl 25 (by decide) lk_5 (fun _ h9 => h9) rfl dX8_solution_114 ?_
            refine lv_iload hx hb dX8_solution_117 (lv_at hl 5 rfl) ?_
            obtain ⟨b_23, h⟩ := cw_i h
            refine va_lald hx hb hK hP 3 1 rfl rfl b_23 dX8_solution_119 ?_
            refine lv_lload hx hb dX8_solution_120 (lv_at hl 4 rfl) ?_
            refine lv_land hx hb dX8_solution_122 ?_
            obtain ⟨u_24, hu_25, h⟩ := cw_b h
            refine kx_i (ws' := fun _ => [(q0, .inr (8, [.int f0_thrown, .int f0_n, .int f0_equations, .ref q0_eSet, .ref q0_eRight, v0_clauses, v0_cYes, v0_cNo, v0_levels, v0_levelEquations, v0_levelClauses, v0_tape, v0_tapeSize, v0_faultIs, v0_faultAt, v0_at, v0_newEquations, v0_newClauses, v0_newSet, v0_newRight, v0_newYes, v0_newNo, v0_lineYes, v0_lineNo, .int f0_rowCount, .ref q0_rSet, .ref q0_rRight, .int (bI f0_isImpossible), v0_sumSet, v0_sumOf, v0_sumRight, v0_empty, v0_empties, v0_taken, v0_ones, v0_waitTaken, v0_waitOnes, v0_nodeCount, v0_lastModel, v0_modelCount, v0_modelIs, v0_gSet, v0_gateCount])), (q0_eSet, .inl (cL, n0_eSet, .inr (.inl h0_eSet))), (q0_eRight, .inl (cI, n0_eRight, .inl h0_eRight)), (q0_rSet, .inl (cL, n0_rSet, .inr (.inl h0_rSet))), (q0_rRight, .inl (cI, n0_rRight, .inl h0_rRight))]) hP hD hS hA [] [0, 1, 2, 3, 4] [0, 1, 2, 3, 4] rfl rfl (by decide) (by decide) (fun _ => rfl) (by decide) (va_runS (As := [.long ((h0_rSet x6.toNatClampNeg) &&& x4)]) (rest := [.int (h0_rRight x6.toNatClampNeg), .long x4]) ⟨hx, hb, hml, hown, hts⟩ (cm_X8_parity l D cI cL (x0 := (h0_rSet x6.toNatClampNeg) &&& x4) (r0 := u_24) (hr0 := hu_25) (sz := H.size)) (va_cwS 1 hts gX8_solution_X8_parity rfl rfl rfl (by decide +kernel) ⟨Nat.le_of_ble_eq_true rfl, Nat.le_of_ble_eq_true rfl⟩) (kx_preS hEV hP hD [] rfl (by decide)) rfl rfl hl.1 rfl (lv_room (Nat.le_of_ble_eq_true rfl)) dX8_solution_123 ⟨Nat.le_of_ble_eq_true rfl, Nat.le_of_ble_eq_true rfl⟩) (fun _ H locs _ hP hD hS => ?_)
            refine lv_ixor hx hb dX8_solution_126 ?_
            refine lv_iconst (v := (1 : Int32)) hx hb dX8_solution_127 (by decide) ?_
            refine lv_icmp_ne (tgt := 136) hx hb dX8_solution_128 (by decide) (fun c_26 => ?_) (fun c_26 => ?_)
            · have k_27 : ¬ (((h0_rRight x6.toNatClampNeg) ^^^ u_24) = (1 : Int32)) := c_26
              have h := cw_f k_27 h
              refine lv_lconst (v := (0 : Int64)) hx hb dX8_solution_136 (by decide) ?_
              refine lv_lor hx hb dX8_solution_137 ?_
              refine lv_lstore (lv' := [(4, .long (x4 ||| (0 : Int64))), (8, .long (jshl (1 : Int64) x7)), (0, .ref q0), (1, .long x1), (3, .int x3), (6, .int x6), (7, .int x7)]) hx hb dX8_solution_138 hl (by decide) rfl (fun ls hl => ?_)
              refine lv_iinc (v := x6 + (1 : Int32)) (lv' := [(6, .int (x6 + (1 : Int32))), (4, .long (x4 ||| (0 : Int64))), (8, .long (jshl (1 : Int64) x7)), (0, .ref q0), (1, .long x1), (3, .int x3), (7, .int x7)]) hx hb dX8_solution_140 hl (k := 5) rfl rfl (by decide) rfl (fun ls hl => ?_)
              refine lv_goto (tgt := 170) hx hb dX8_solution_143 (by decide) ?_
              refine lv_iinc (v := x7 + (1 : Int32)) (lv' := [(7, .int (x7 + (1 : Int32))), (6, .int (x6 + (1 : Int32))), (4, .long (x4 ||| (0 : Int64))), (8, .long (jshl (1 : Int64) x7)), (0, .ref q0), (1, .long x1), (3, .int x3)]) hx hb dX8_solution_170 hl (k := 6) rfl rfl (by decide) rfl (fun ls hl => ?_)
              refine lv_goto (tgt := 64) hx hb dX8_solution_173 (by decide) ?_
              exact ih _ _ _ _ _ _ _ _ _ h _ _ _ hP hD hS (lv_sub hl [4, 5, 6, 2, 1, 0] rfl)
            · have k_27 : ((h0_rRight x6.toNatClampNeg) ^^^ u_24) = (1 : Int32) := c_26
              have h := cw_t k_27 h
              refine lv_lload hx hb dX8_solution_131 (lv_at hl 0 rfl) ?_
              refine lv_goto (tgt := 137) hx hb dX8_solution_133 (by decide) ?_
              refine lv_lor hx hb dX8_solution_137 ?_
              refine lv_lstore (lv' := [(4, .long (x4 ||| (jshl (1 : Int64) x7))), (8, .long (jshl (1 : Int64) x7)), (0, .ref q0), (1, .long x1), (3, .int x3), (6, .int x6), (7, .int x7)]) hx hb dX8_solution_138 hl (by decide) rfl (fun ls hl => ?_)
              refine lv_iinc (v := x6 + (1 : Int32)) (lv' := [(6, .int (x6 + (1 : Int32))), (4, .long (x4 ||| (jshl (1 : Int64) x7))), (8, .long (jshl (1 : Int64) x7)), (0, .ref q0), (1, .long x1), (3, .int x3), (7, .int x7)]) hx hb dX8_solution_140 hl (k := 5) rfl rfl (by decide) rfl (fun ls hl => ?_)
              refine lv_goto (tgt := 170) hx hb dX8_solution_143 (by decide) ?_
              refine lv_iinc (v := x7 + (1 : Int32)) (lv' := [(7, .int (x7 + (1 : Int32))), (6, .int (x6 + (1 : Int32))), (4, .long (x4 ||| (jshl (1 : Int64) x7))), (8, .long (jshl (1 : Int64) x7)), (0, .ref q0), (1, .long x1), (3, .int x3)]) hx hb dX8_solution_170 hl (k := 6) rfl rfl (by decide) rfl (fun ls hl => ?_)
              refine lv_goto (tgt := 64) hx hb dX8_solution_173 (by decide) ?_
              exact ih _ _ _ _ _ _ _ _ _ h _ _ _ hP hD hS (lv_sub hl [4, 5, 6, 2, 1, 0] rfl)
  have h := hr0
  unfold D_X8_solution at h
  refine lv_aload_n hx hb dX8_solution_0 rfl (lv_at hl 0 rfl) ?_
  refine lv_iconst (v := (0 : Int32)) hx hb dX8_solution_1 (by decide) ?_
  refine va_put (D := D) (ci := 8) (v := .int (0 : Int32)) (ty := .int) (C := RX8) (T := TX8) (N := 43) hx hb hts in_X8_solution_X8 tyX8 tyX8_ok nmX8 hown hK hP hD hS 0 rfl rfl 0 (by decide) lk_0 (fun _ h9 => h9) rfl (by decide +kernel) rfl rfl (Nat.le_of_ble_eq_true rfl) dX8_solution_2 (fun H locs hP hD hS => ?_)
  have hP : va_P D vwCl [(q0, .inr (8, [.int (0 : Int32), .int f0_n, .int f0_equations, .ref q0_eSet, .ref q0_eRight, v0_clauses, v0_cYes, v0_cNo, v0_levels, v0_levelEquations, v0_levelClauses, v0_tape, v0_tapeSize, v0_faultIs, v0_faultAt, v0_at, v0_newEquations, v0_newClauses, v0_newSet, v0_newRight, v0_newYes, v0_newNo, v0_lineYes, v0_lineNo, .int f0_rowCount, .ref q0_rSet, .ref q0_rRight, .int (bI f0_isImpossible), v0_sumSet, v0_sumOf, v0_sumRight, v0_empty, v0_empties, v0_taken, v0_ones, v0_waitTaken, v0_waitOnes, v0_nodeCount, v0_lastModel, v0_modelCount, v0_modelIs, v0_gSet, v0_gateCount])), (q0_eSet, .inl (cL, n0_eSet, .inr (.inl h0_eSet))), (q0_eRight, .inl (cI, n0_eRight, .inl h0_eRight)), (q0_rSet, .inl (cL, n0_rSet, .inr (.inl h0_rSet))), (q0_rRight, .inl (cI, n0_rRight, .inl h0_rRight))] H := hP
  have hD : va_D A [(q0, .inr (8, [.int (0 : Int32), .int f0_n, .int f0_equations, .ref q0_eSet, .ref q0_eRight, v0_clauses, v0_cYes, v0_cNo, v0_levels, v0_levelEquations, v0_levelClauses, v0_tape, v0_tapeSize, v0_faultIs, v0_faultAt, v0_at, v0_newEquations, v0_newClauses, v0_newSet, v0_newRight, v0_newYes, v0_newNo, v0_lineYes, v0_lineNo, .int f0_rowCount, .ref q0_rSet, .ref q0_rRight, .int (bI f0_isImpossible), v0_sumSet, v0_sumOf, v0_sumRight, v0_empty, v0_empties, v0_taken, v0_ones, v0_waitTaken, v0_waitOnes, v0_nodeCount, v0_lastModel, v0_modelCount, v0_modelIs, v0_gSet, v0_gateCount])), (q0_eSet, .inl (cL, n0_eSet, .inr (.inl h0_eSet))), (q0_eRight, .inl (cI, n0_eRight, .inl h0_eRight)), (q0_rSet, .inl (cL, n0_rSet, .inr (.inl h0_rSet))), (q0_rRight, .inl (cI, n0_rRight, .inl h0_rRight))] := hD
  refine lv_aload_n hx hb dX8_solution_5 rfl (lv_at hl 0 rfl) ?_
  refine lv_lconst (v := (0 : Int64)) hx hb dX8_solution_6 (by decide) ?_
  refine lv_lconst (v := (0 : Int64)) hx hb dX8_solution_7 (by decide) ?_
  refine lv_iconst (v := (0 : Int32)) hx hb dX8_solution_8 (by decide) ?_
  obtain ⟨u_1, hu_2, h⟩ := co_b h
  refine kx_v (ws' := fun _ => [(q0, .inr (8, [.int (0 : Int32), .int f0_n, .int f0_equations, .ref q0_eSet, .ref q0_eRight, v0_clauses, v0_cYes, v0_cNo, v0_levels, v0_levelEquations, v0_levelClauses, v0_tape, v0_tapeSize, v0_faultIs, v0_faultAt, v0_at, v0_newEquations, v0_newClauses, v0_newSet, v0_newRight, v0_newYes, v0_newNo, v0_lineYes, v0_lineNo, .int u_1.1, .ref q0_rSet, .ref q0_rRight, .int (bI u_1.2.1), v0_sumSet, v0_sumOf, v0_sumRight, v0_empty, v0_empties, v0_taken, v0_ones, v0_waitTaken, v0_waitOnes, v0_nodeCount, v0_lastModel, v0_modelCount, v0_modelIs, v0_gSet, v0_gateCount])), (q0_eSet, .inl (cL, n0_eSet, .inr (.inl h0_eSet))), (q0_eRight, .inl (cI, n0_eRight, .inl h0_eRight)), (q0_rSet, .inl (cL, n0_rSet, .inr (.inl u_1.2.2.1))), (q0_rRight, .inl (cI, n0_rRight, .inl u_1.2.2.2))]) hP hD hS hA [0, 1, 2, 3, 4] [] [0, 1, 2, 3, 4] rfl rfl (by decide) (by decide) (fun _ => rfl) (by decide) (va_runV (As := [.long (0 : Int64), .long (0 : Int64), .int (bI false)]) (rest := []) ⟨hx, hb, hml, hown, hts⟩ (cm_X8_makeRows l D cI cL (q0 := q0) (q0_eSet := q0_eSet) (q0_eRight := q0_eRight) (q0_rSet := q0_rSet) (q0_rRight := q0_rRight) (n0_eSet := n0_eSet) (n0_eRight := n0_eRight) (n0_rSet := n0_rSet) (n0_rRight := n0_rRight) (f0_equations := f0_equations) (f0_rowCount := f0_rowCount) (f0_isImpossible := f0_isImpossible) (h0_eSet := h0_eSet) (h0_eRight := h0_eRight) (h0_rSet := h0_rSet) (h0_rRight := h0_rRight) (v0_thrown := .int (0 : Int32)) (v0_n := .int f0_n) (v0_clauses := v0_clauses) (v0_cYes := v0_cYes) (v0_cNo := v0_cNo) (v0_levels := v0_levels) (v0_levelEquations := v0_levelEquations) (v0_levelClauses := v0_levelClauses) (v0_tape := v0_tape) (v0_tapeSize := v0_tapeSize) (v0_faultIs := v0_faultIs) (v0_faultAt := v0_faultAt) (v0_at := v0_at) (v0_newEquations := v0_newEquations) (v0_newClauses := v0_newClauses) (v0_newSet := v0_newSet) (v0_newRight := v0_newRight) (v0_newYes := v0_newYes) (v0_newNo := v0_newNo) (v0_lineYes := v0_lineYes) (v0_lineNo := v0_lineNo) (v0_sumSet := v0_sumSet) (v0_sumOf := v0_sumOf) (v0_sumRight := v0_sumRight) (v0_empty := v0_empty) (v0_empties := v0_empties) (v0_taken := v0_taken) (v0_ones := v0_ones) (v0_waitTaken := v0_waitTaken) (v0_waitOnes := v0_waitOnes) (v0_nodeCount := v0_nodeCount) (v0_lastModel := v0_lastModel) (v0_modelCount := v0_modelCount) (v0_modelIs := v0_modelIs) (v0_gSet := v0_gSet) (v0_gateCount := v0_gateCount) (x1 := (0 : Int64)) (x3 := (0 : Int64)) (x5 := false) (r0 := u_1) (hr0 := hu_2) (sz := H.size)) (cwV 3 hts gX8_solution_X8_makeRows rfl rfl rfl (by decide +kernel) ⟨Nat.le_of_ble_eq_true rfl, Nat.le_of_ble_eq_true rfl⟩) (kx_preV hEV hP hD [0, 1, 2, 3, 4] rfl (by decide) (k0 := 0) (ci := 8) rfl rfl rfl) rfl rfl hl.1 rfl (lv_room (Nat.le_of_ble_eq_true rfl)) dX8_solution_9 ⟨Nat.le_of_ble_eq_true rfl, Nat.le_of_ble_eq_true rfl⟩) (fun _ H locs _ hP hD hS => ?_)
  refine lv_aload_n hx hb dX8_solution_12 rfl (lv_at hl 0 rfl) ?_
  refine va_get (D := D) (ci := 8) (v := .int (bI u_1.2.1)) (C := RX8) (T := TX8) (N := 43) hx hb hts in_X8_solution_X8 hown hK hP 0 rfl rfl 27 (by decide) lk_1 (fun _ h9 => h9) rfl dX8_solution_13 ?_
  refine lv_if_ne (tgt := 41) hx hb dX8_solution_16 (by decide) (fun c_3 => ?_) (fun c_3 => ?_)
  · have k_4 : u_1.2.1 = true := (kx_nz c_3)
    have h := co_t k_4 h
    refine lv_ldc2 hx hb hown lk_2 dX8_solution_41 ?_
    have h := Option.some.inj h
    subst h
    subst hQ
    exact W.lret (v := (-1 : Int64)) hx hb hr (fun t ht hW => ⟨⟨(-1 : Int64), (), rfl, ⟨rfl, trivial⟩, by rw [ht]; exact hP, hD⟩, hS.F ht⟩) hS.2.2 dX8_solution_44
  · have k_4 : ¬ (u_1.2.1 = true) := (kx_z c_3)
    have h := co_f k_4 h
    refine lv_lload_n hx hb dX8_solution_19 rfl (lv_at hl 1 rfl) ?_
    refine lv_lconst (v := (0 : Int64)) hx hb dX8_solution_20 (by decide) ?_
    refine W.lcmp hx hb dX8_solution_21 ?_
    refine lv_if_lt (tgt := 41) hx hb dX8_solution_22 (by decide) (fun c_5 => ?_) (fun c_5 => ?_)
    · have k_6 : x1 < (0 : Int64) := ((lg_cmp_lt _ _).mp c_5)
      have h := co_t k_6 h
      refine lv_ldc2 hx hb hown lk_2 dX8_solution_41 ?_
      have h := Option.some.inj h
      subst h
      subst hQ
      exact W.lret (v := (-1 : Int64)) hx hb hr (fun t ht hW => ⟨⟨(-1 : Int64), (), rfl, ⟨rfl, trivial⟩, by rw [ht]; exact hP, hD⟩, hS.F ht⟩) hS.2.2 dX8_solution_44
    · have k_6 : ¬ (x1 < (0 : Int64)) := (fun z9 => c_5 ((lg_cmp_lt _ _).mpr z9))
      have h := co_f k_6 h
      refine lv_lload_n hx hb dX8_solution_25 rfl (lv_at hl 1 rfl) ?_
      refine lv_lconst (v := (1 : Int64)) hx hb dX8_solution_26 (by decide) ?_
      refine lv_aload_n hx hb dX8_solution_27 rfl (lv_at hl 0 rfl) ?_
      refine va_get (D := D) (ci := 8) (v := .int f0_n) (C := RX8) (T := TX8) (N := 43) hx hb hts in_X8_solution_X8 hown hK hP 0 rfl rfl 1 (by decide) lk_3 (fun _ h9 => h9) rfl dX8_solution_28 ?_
      refine lv_aload_n hx hb dX8_solution_31 rfl (lv_at hl 0 rfl) ?_
      refine va_get (D := D) (ci := 8) (v := .int u_1.1) (C := RX8) (T := TX8) (N := 43) hx hb hts in_X8_solution_X8 hown hK hP 0 rfl rfl 24 (by decide) lk_4 (fun _ h9 => h9) rfl dX8_solution_32 ?_
      refine lv_isub hx hb dX8_solution_35 ?_
      refine lv_lshl (v := jshl (1 : Int64) (f0_n - u_1.1)) hx hb dX8_solution_36 rfl ?_
      refine W.lcmp hx hb dX8_solution_37 ?_
      refine lv_if_lt (tgt := 45) hx hb dX8_solution_38 (by decide) (fun c_7 => ?_) (fun c_7 => ?_)
      · have k_8 : x1 < (jshl (1 : Int64) (f0_n - u_1.1)) := ((lg_cmp_lt _ _).mp c_7)
        have h := co_t k_8 h
        refine lv_aload_n hx hb dX8_solution_45 rfl (lv_at hl 0 rfl) ?_
        refine va_get (D := D) (ci := 8) (v := .int f0_n) (C := RX8) (T := TX8) (N := 43) hx hb hts in_X8_solution_X8 hown hK hP 0 rfl rfl 1 (by decide) lk_3 (fun _ h9 => h9) rfl dX8_solution_46 ?_
        refine lv_aload_n hx hb dX8_solution_49 rfl (lv_at hl 0 rfl) ?_
        refine va_get (D := D) (ci := 8) (v := .int u_1.1) (C := RX8) (T := TX8) (N := 43) hx hb hts in_X8_solution_X8 hown hK hP 0 rfl rfl 24 (by decide) lk_4 (fun _ h9 => h9) rfl dX8_solution_50 ?_
        refine lv_isub hx hb dX8_solution_53 ?_
        refine lv_istore_n (lv' := [(3, .int (f0_n - u_1.1)), (0, .ref q0), (1, .long x1)]) hx hb dX8_solution_54 rfl hl (by decide) rfl (fun ls hl => ?_)
        refine lv_lconst (v := (0 : Int64)) hx hb dX8_solution_55 (by decide) ?_
        refine lv_lstore (lv' := [(4, .long (0 : Int64)), (3, .int (f0_n - u_1.1)), (0, .ref q0), (1, .long x1)]) hx hb dX8_solution_56 hl (by decide) rfl (fun ls hl => ?_)
        refine lv_iconst (v := (0 : Int32)) hx hb dX8_solution_58 (by decide) ?_
        refine lv_istore (lv' := [(6, .int (0 : Int32)), (4, .long (0 : Int64)), (3, .int (f0_n - u_1.1)), (0, .ref q0), (1, .long x1)]) hx hb dX8_solution_59 hl (by decide) rfl (fun ls hl => ?_)
        refine lv_iconst (v := (0 : Int32)) hx hb dX8_solution_61 (by decide) ?_
        refine lv_istore (lv' := [(7, .int (0 : Int32)), (6, .int (0 : Int32)), (4, .long (0 : Int64)), (3, .int (f0_n - u_1.1)), (0, .ref q0), (1, .long x1)]) hx hb dX8_solution_62 hl (by decide) rfl (fun ls hl => ?_)
        obtain ⟨n9, hn9⟩ := runw_some h
        exact (hloop n9) _ _ _ _ _ _ _ _ _ hn9 _ _ _ hP hD hS (lv_sub hl [4, 5, 3, 2, 1, 0] rfl)
      · have k_8 : ¬ (x1 < (jshl (1 : Int64) (f0_n - u_1.1))) := (fun z9 => c_7 ((lg_cmp_lt _ _).mpr z9))
        have h := co_f k_8 h
        refine lv_ldc2 hx hb hown lk_2 dX8_solution_41 ?_
        have h := Option.some.inj h
        subst h
        subst hQ
        exact W.lret (v := (-1 : Int64)) hx hb hr (fun t ht hW => ⟨⟨(-1 : Int64), (), rfl, ⟨rfl, trivial⟩, by rw [ht]; exact hP, hD⟩, hS.F ht⟩) hS.2.2 dX8_solution_44
theorem in_X8_sum_X8 : ∀ w ∈ wsX80, w ∈ wsX8_sum := by decide +kernel
theorem lk_0_X8_sum : Cond.fieldLink RX8 175 "ParityClausesModel" "isImpossible" "Z" ∈ wsX8_sum := by decide +kernel
theorem lk_1_X8_sum : Cond.fieldLink RX8 172 "ParityClausesModel" "rowCount" "I" ∈ wsX8_sum := by decide +kernel
theorem lk_2_X8_sum : Cond.fieldLink RX8 44 "ParityClausesModel" "rSet" "[J" ∈ wsX8_sum := by decide +kernel
theorem lk_3_X8_sum : Cond.fieldLink RX8 47 "ParityClausesModel" "rRight" "[I" ∈ wsX8_sum := by decide +kernel
abbrev rm_X8_sum : Room := { frames := 4, cells := 0, slots := 0, locals := 103 }
set_option maxHeartbeats 4000000 in
set_option maxRecDepth 100000 in
theorem cm_X8_sum (l : Launch) (D : va_G) (cI cL : ClassId) (q0 q0_eSet q0_eRight q0_rSet q0_rRight : Nat) (n0_eSet n0_eRight n0_rSet n0_rRight : Nat) (f0_thrown : Int32) (f0_n : Int32) (f0_equations : Int32) (f0_rowCount : Int32) (f0_isImpossible : Bool) (h0_eSet : Nat → Int64) (h0_eRight : Nat → Int32) (h0_rSet : Nat → Int64) (h0_rRight : Nat → Int32) (v0_clauses v0_cYes v0_cNo v0_levels v0_levelEquations v0_levelClauses v0_tape v0_tapeSize v0_faultIs v0_faultAt v0_at v0_newEquations v0_newClauses v0_newSet v0_newRight v0_newYes v0_newNo v0_lineYes v0_lineNo v0_sumSet v0_sumOf v0_sumRight v0_empty v0_empties v0_taken v0_ones v0_waitTaken v0_waitOnes v0_nodeCount v0_lastModel v0_modelCount v0_modelIs v0_gSet v0_gateCount : Value) (x1 : Int64) (r0 : Int32 × Int32 × Int32 × Bool × (Nat → Int64) × (Nat → Int32)) (hr0 : D_X8_sum f0_thrown f0_n f0_equations f0_rowCount f0_isImpossible n0_eSet h0_eSet n0_eRight h0_eRight n0_rSet h0_rSet n0_rRight h0_rRight x1 = some r0) (sz : Nat) : Met l yX8_sum wsX8_sum rm_X8_sum (PcW D cI cL [.ref q0, .long x1] [(q0, .inr (8, [.int f0_thrown, .int f0_n, .int f0_equations, .ref q0_eSet, .ref q0_eRight, v0_clauses, v0_cYes, v0_cNo, v0_levels, v0_levelEquations, v0_levelClauses, v0_tape, v0_tapeSize, v0_faultIs, v0_faultAt, v0_at, v0_newEquations, v0_newClauses, v0_newSet, v0_newRight, v0_newYes, v0_newNo, v0_lineYes, v0_lineNo, .int f0_rowCount, .ref q0_rSet, .ref q0_rRight, .int (bI f0_isImpossible), v0_sumSet, v0_sumOf, v0_sumRight, v0_empty, v0_empties, v0_taken, v0_ones, v0_waitTaken, v0_waitOnes, v0_nodeCount, v0_lastModel, v0_modelCount, v0_modelIs, v0_gSet, v0_gateCount])), (q0_eSet, .inl (cL, n0_eSet, .inr (.inl h0_eSet))), (q0_eRight, .inl (cI, n0_eRight, .inl h0_eRight)), (q0_rSet, .inl (cL, n0_rSet, .inr (.inl h0_rSet))), (q0_rRight, .inl (cI, n0_rRight, .inl h0_rRight))] sz) (QiW D [(q0, .inr (8, [.int f0_thrown, .int f0_n, .int f0_equations, .ref q0_eSet, .ref q0_eRight, v0_clauses, v0_cYes, v0_cNo, v0_levels, v0_levelEquations, v0_levelClauses, v0_tape, v0_tapeSize, v0_faultIs, v0_faultAt, v0_at, v0_newEquations, v0_newClauses, v0_newSet, v0_newRight, v0_newYes, v0_newNo, v0_lineYes, v0_lineNo, .int f0_rowCount, .ref q0_rSet, .ref q0_rRight, .int (bI f0_isImpossible), v0_sumSet, v0_sumOf, v0_sumRight, v0_empty, v0_empties, v0_taken, v0_ones, v0_waitTaken, v0_waitOnes, v0_nodeCount, v0_lastModel, v0_modelCount, v0_modelIs, v0_gSet, v0_gateCount])), (q0_eSet, .inl (cL, n0_eSet, .inr (.inl h0_eSet))), (q0_eRight, .inl (cI, n0_eRight, .inl h0_eRight)), (q0_rSet, .inl (cL, n0_rSet, .inr (.inl h0_rSet))), (q0_rRight, .inl (cI, n0_rRight, .inl h0_rRight))] r0.1 (fun _ : Unit => [(q0, .inr (8, [.int r0.2.1, .int f0_n, .int f0_equations, .ref q0_eSet, .ref q0_eRight, v0_clauses, v0_cYes, v0_cNo, v0_levels, v0_levelEquations, v0_levelClauses, v0_tape, v0_tapeSize, v0_faultIs, v0_faultAt, v0_at, v0_newEquations, v0_newClauses, v0_newSet, v0_newRight, v0_newYes, v0_newNo, v0_lineYes, v0_lineNo, .int r0.2.2.1, .ref q0_rSet, .ref q0_rRight, .int (bI r0.2.2.2.1), v0_sumSet, v0_sumOf, v0_sumRight, v0_empty, v0_empties, v0_taken, v0_ones, v0_waitTaken, v0_waitOnes, v0_nodeCount, v0_lastModel, v0_modelCount, v0_modelIs, v0_gSet, v0_gateCount])), (q0_eSet, .inl (cL, n0_eSet, .inr (.inl h0_eSet))), (q0_eRight, .inl (cI, n0_eRight, .inl h0_eRight)), (q0_rSet, .inl (cL, n0_rSet, .inr (.inl r0.2.2.2.2.1))), (q0_rRight, .inl (cI, n0_rRight, .inl r0.2.2.2.2.2))]) tU sz) 0 0 (va_A [(q0, .inr (8, [.int f0_thrown, .int f0_n, .int f0_equations, .ref q0_eSet, .ref q0_eRight, v0_clauses, v0_cYes, v0_cNo, v0_levels, v0_levelEquations, v0_levelClauses, v0_tape, v0_tapeSize, v0_faultIs, v0_faultAt, v0_at, v0_newEquations, v0_newClauses, v0_newSet, v0_newRight, v0_newYes, v0_newNo, v0_lineYes, v0_lineNo, .int f0_rowCount, .ref q0_rSet, .ref q0_rRight, .int (bI f0_isImpossible), v0_sumSet, v0_sumOf, v0_sumRight, v0_empty, v0_empties, v0_taken, v0_ones, v0_waitTaken, v0_waitOnes, v0_nodeCount, v0_lastModel, v0_modelCount, v0_modelIs, v0_gSet, v0_gateCount])), (q0_eSet, .inl (cL, n0_eSet, .inr (.inl h0_eSet))), (q0_eRight, .inl (cI, n0_eRight, .inl h0_eRight)), (q0_rSet, .inl (cL, n0_rSet, .inr (.inl h0_rSet))), (q0_rRight, .inl (cI, n0_rRight, .inl h0_rRight))] sz) := by
  refine Met.ofW (cc := cX8_sum) (maxL := 7) (ret := (some .int)) (by decide) rfl ?_
  intro p e s m args below meth c s₁ B hml hv
  obtain ⟨hargs, hsz, hP, hEV, hD0⟩ := hv
  have hx := B.exec
  have hb := B.bytes
  have hr := B.returns
  have hts := atoms_spec (ws := wsX8_sum) B.pre
  have hown : s.vm.findClass RX8 = some m.cls := findClass_of_methodNamed B.named
  have hlocks := B.notSynchronized
  have hK := hEV.K
  have lk_0 := hts _ lk_0_X8_sum
  have lk_1 := hts _ lk_1_X8_sum
  have lk_2 := hts _ lk_2_X8_sum
  have lk_3 := hts _ lk_3_X8_sum
  subst hsz
  unfold QiW PoW
  have hD := hD0.self (sz := s.heap.size)
  generalize hAe : va_A [(q0, .inr (8, [.int f0_thrown, .int f0_n, .int f0_equations, .ref q0_eSet, .ref q0_eRight, v0_clauses, v0_cYes, v0_cNo, v0_levels, v0_levelEquations, v0_levelClauses, v0_tape, v0_tapeSize, v0_faultIs, v0_faultAt, v0_at, v0_newEquations, v0_newClauses, v0_newSet, v0_newRight, v0_newYes, v0_newNo, v0_lineYes, v0_lineNo, .int f0_rowCount, .ref q0_rSet, .ref q0_rRight, .int (bI f0_isImpossible), v0_sumSet, v0_sumOf, v0_sumRight, v0_empty, v0_empties, v0_taken, v0_ones, v0_waitTaken, v0_waitOnes, v0_nodeCount, v0_lastModel, v0_modelCount, v0_modelIs, v0_gSet, v0_gateCount])), (q0_eSet, .inl (cL, n0_eSet, .inr (.inl h0_eSet))), (q0_eRight, .inl (cI, n0_eRight, .inl h0_eRight)), (q0_rSet, .inl (cL, n0_rSet, .inr (.inl h0_rSet))), (q0_rRight, .inl (cI, n0_rRight, .inl h0_rRight))] s.heap.size = A at hD ⊢
  have hA : ∀ q : Nat, s.heap.size ≤ q → A q := fun q h => by rw [← hAe]; exact Or.inr h
  have hent : entryFrame m args 7 = entryFrame m ([.ref q0, .long x1] : List Value).toArray 7 := by rw [hargs]
  rw [hent]
  refine kx_Q (fun Q hQ => ?_)
  refine kx_H (fun H hH => ?_)
  have hP : va_P D vwCl [(q0, .inr (8, [.int f0_thrown, .int f0_n, .int f0_equations, .ref q0_eSet, .ref q0_eRight, v0_clauses, v0_cYes, v0_cNo, v0_levels, v0_levelEquations, v0_levelClauses, v0_tape, v0_tapeSize, v0_faultIs, v0_faultAt, v0_at, v0_newEquations, v0_newClauses, v0_newSet, v0_newRight, v0_newYes, v0_newNo, v0_lineYes, v0_lineNo, .int f0_rowCount, .ref q0_rSet, .ref q0_rRight, .int (bI f0_isImpossible), v0_sumSet, v0_sumOf, v0_sumRight, v0_empty, v0_empties, v0_taken, v0_ones, v0_waitTaken, v0_waitOnes, v0_nodeCount, v0_lastModel, v0_modelCount, v0_modelIs, v0_gSet, v0_gateCount])), (q0_eSet, .inl (cL, n0_eSet, .inr (.inl h0_eSet))), (q0_eRight, .inl (cI, n0_eRight, .inl h0_eRight)), (q0_rSet, .inl (cL, n0_rSet, .inr (.inl h0_rSet))), (q0_rRight, .inl (cI, n0_rRight, .inl h0_rRight))] H := by rw [hH]; exact hP
  have hS : va_S A s.heap H [] := by rw [hH]; exact va_S.rf
  have hl := lv_entry ([.ref q0, .long x1]) (n := 7) (Nat.le_of_ble_eq_true rfl)
  rw [lg_entry_eq]
  generalize (lg_sl ([.ref q0, .long x1]) ++ List.replicate (7 - (lg_sl ([.ref q0, .long x1])).length) Slot.unset).toArray = ls at hl ⊢
  have hl : lv_has ls 7 [(0, .ref q0), (1, .long x1)] := hl
  have hloop : ∀ n9 : Nat, (∀ (x3 : Int64) (x5 : Int32) (x6 : Int32) (f0_thrown : Int32) (f0_rowCount : Int32) (f0_isImpossible : Bool) (h0_rSet : Nat → Int64) (h0_rRight : Nat → Int32), iter (st_X8_sum f0_n f0_equations n0_eSet h0_eSet n0_eRight h0_eRight n0_rSet n0_rRight x1) n9 (x3, x5, x6, f0_thrown, f0_rowCount, f0_isImpossible, h0_rSet, h0_rRight) = some r0 → ∀ (H : Heap) (locs : List Loc) (ls : Array Slot), va_P D vwCl [(q0, .inr (8, [.int f0_thrown, .int f0_n, .int f0_equations, .ref q0_eSet, .ref q0_eRight, v0_clauses, v0_cYes, v0_cNo, v0_levels, v0_levelEquations, v0_levelClauses, v0_tape, v0_tapeSize, v0_faultIs, v0_faultAt, v0_at, v0_newEquations, v0_newClauses, v0_newSet, v0_newRight, v0_newYes, v0_newNo, v0_lineYes, v0_lineNo, .int f0_rowCount, .ref q0_rSet, .ref q0_rRight, .int (bI f0_isImpossible), v0_sumSet, v0_sumOf, v0_sumRight, v0_empty, v0_empties, v0_taken, v0_ones, v0_waitTaken, v0_waitOnes, v0_nodeCount, v0_lastModel, v0_modelCount, v0_modelIs, v0_gSet, v0_gateCount])), (q0_eSet, .inl (cL, n0_eSet, .inr (.inl h0_eSet))), (q0_eRight, .inl (cI, n0_eRight, .inl h0_eRight)), (q0_rSet, .inl (cL, n0_rSet, .inr (.inl h0_rSet))), (q0_rRight, .inl (cI, n0_rRight, .inl h0_rRight))] H → va_D A [(q0, .inr (8, [.int f0_thrown, .int f0_n, .int f0_equations, .ref q0_eSet, .ref q0_eRight, v0_clauses, v0_cYes, v0_cNo, v0_levels, v0_levelEquations, v0_levelClauses, v0_tape, v0_tapeSize, v0_faultIs, v0_faultAt, v0_at, v0_newEquations, v0_newClauses, v0_newSet, v0_newRight, v0_newYes, v0_newNo, v0_lineYes, v0_lineNo, .int f0_rowCount, .ref q0_rSet, .ref q0_rRight, .int (bI f0_isImpossible), v0_sumSet, v0_sumOf, v0_sumRight, v0_empty, v0_empties, v0_taken, v0_ones, v0_waitTaken, v0_waitOnes, v0_nodeCount, v0_lastModel, v0_modelCount, v0_modelIs, v0_gSet, v0_gateCount])), (q0_eSet, .inl (cL, n0_eSet, .inr (.inl h0_eSet))), (q0_eRight, .inl (cI, n0_eRight, .inl h0_eRight)), (q0_rSet, .inl (cL, n0_rSet, .inr (.inl h0_rSet))), (q0_rRight, .inl (cI, n0_rRight, .inl h0_rRight))] → va_S A s.heap H locs → lv_has ls 7 [(0, .ref q0), (3, .long x3), (5, .int x5), (6, .int x6)] → W p l e (headSpec wsX8_sum rm_X8_sum).room s m args below meth c H locs 0 0 Q (F0 m 40 ls [])) := by
    intro n9
    induction n9 with
    | zero => exact (fun _ _ _ _ _ _ _ _ h => nomatch h)
    | succ n9 ih =>
      intro x3 x5 x6 f0_thrown f0_rowCount f0_isImpossible h0_rSet h0_rRight h H locs ls hP hD hS hl
      have h : run1 (iter (st_X8_sum f0_n f0_equations n0_eSet h0_eSet n0_eRight h0_eRight n0_rSet n0_rRight x1) n9) (b_X8_sum_40 f0_n f0_equations n0_eSet h0_eSet n0_eRight h0_eRight n0_rSet n0_rRight x1 x3 x5 x6 f0_thrown f0_rowCount f0_isImpossible h0_rSet h0_rRight) = some r0 := h
      unfold b_X8_sum_40 at h
      refine lv_iload hx hb dX8_sum_40 (lv_at hl 3 rfl) ?_
      refine lv_aload_n hx hb dX8_sum_42 rfl (lv_at hl 0 rfl) ?_
      refine va_get (D := D) (ci := 8) (v := .int f0_rowCount) (C := RX8) (T := TX8) (N := 43) hx hb hts in_X8_sum_X8 hown hK hP 0 rfl rfl 24 (by decide) lk_1 (fun _ h9 => h9) rfl dX8_sum_43 ?_
      refine lv_icmp_ge (tgt := 94) hx hb dX8_sum_46 (by decide) (fun c_11 => ?_) (fun c_11 => ?_)
      · have k_12 : f0_rowCount ≤ x6 := c_11
        have h := cw_t k_12 h
        refine lv_lload_n hx hb dX8_sum_94 rfl (lv_at hl 1 rfl) ?_
        refine lv_lconst (v := (0 : Int64)) hx hb dX8_sum_95 (by decide) ?_
        refine W.lcmp hx hb dX8_sum_96 ?_
        refine lv_if_ne (tgt := 105) hx hb dX8_sum_97 (by decide) (fun c_13 => ?_) (fun c_13 => ?_)
        · have k_14 : ¬ (x3 = (0 : Int64)) := (fun z9 => c_13 ((lg_cmp_eq _ _).mpr z9))
          have h := cw_f k_14 h
          refine lv_iconst (v := (-1 : Int32)) hx hb dX8_sum_105 (by decide) ?_
          have h := Option.some.inj h
          subst h
          subst hQ
          exact W.iret (v := (-1 : Int32)) hx hb hr (fun t ht hW => ⟨⟨(-1 : Int32), (), rfl, ⟨rfl, trivial⟩, by rw [ht]; exact hP, hD⟩, hS.F ht⟩) hS.2.2 dX8_sum_106
        · have k_14 : x3 = (0 : Int64) := ((lg_cmp_eq _ _).mp c_13)
          have h := cw_t k_14 h
          refine lv_iload hx hb dX8_sum_100 (lv_at hl 2 rfl) ?_
          refine lv_goto (tgt := 106) hx hb dX8_sum_102 (by decide) ?_
          have h := Option.some.inj h
          subst h
          subst hQ
          exact W.iret (v := x5) hx hb hr (fun t ht hW => ⟨⟨x5, (), rfl, ⟨rfl, trivial⟩, by rw [ht]; exact hP, hD⟩, hS.F ht⟩) hS.2.2 dX8_sum_106
      · have k_12 : ¬ (f0_rowCount ≤ x6) := c_11
        have h := cw_f k_12 h
        refine lv_lload_n hx hb dX8_sum_49 rfl (lv_at hl 1 rfl) ?_
        refine lv_aload_n hx hb dX8_sum_50 rfl (lv_at hl 0 rfl) ?_
        refine va_get (D := D) (ci := 8) (v := .ref q0_rSet) (C := RX8) (T := TX8) (N := 43) hx hb hts in_X8_sum_X8 hown hK hP 0 rfl rfl 25 (by decide) lk_2 (fun _ h9 => h9) rfl dX8_sum_51 ?_
        refine lv_iload hx hb dX8_sum_54 (lv_at hl 3 rfl) ?_
        obtain ⟨b_15, h⟩ := cw_i h
        refine va_lald hx hb hK hP 3 1 rfl rfl b_15 dX8_sum_56 ?_
        obtain ⟨u_16, hu_17, h⟩ := cw_b h
        refine kx_l (ws' := fun _ => [(q0, .inr (8, [.int f0_thrown, .int f0_n, .int f0_equations, .ref q0_eSet, .ref q0_eRight, v0_clauses, v0_cYes, v0_cNo, v0_levels, v0_levelEquations, v0_levelClauses, v0_tape, v0_tapeSize, v0_faultIs, v0_faultAt, v0_at, v0_newEquations, v0_newClauses, v0_newSet, v0_newRight, v0_newYes, v0_newNo, v0_lineYes, v0_lineNo, .int f0_rowCount, .ref q0_rSet, .ref q0_rRight, .int (bI f0_isImpossible), v0_sumSet, v0_sumOf, v0_sumRight, v0_empty, v0_empties, v0_taken, v0_ones, v0_waitTaken, v0_waitOnes, v0_nodeCount, v0_lastModel, v0_modelCount, v0_modelIs, v0_gSet, v0_gateCount])), (q0_eSet, .inl (cL, n0_eSet, .inr (.inl h0_eSet))), (q0_eRight, .inl (cI, n0_eRight, .inl h0_eRight)), (q0_rSet, .inl (cL, n0_rSet, .inr (.inl h0_rSet))), (q0_rRight, .inl (cI, n0_rRight, .inl h0_rRight))]) hP hD hS hA [] [0, 1, 2, 3, 4] [0, 1, 2, 3, 4] rfl rfl (by decide) (by decide) (fun _ => rfl) (by decide) (va_runS (As := [.long (h0_rSet x6.toNatClampNeg)]) (rest := [.long x3]) ⟨hx, hb, hml, hown, hts⟩ (cm_X8_lowest l D cI cL (x0 := h0_rSet x6.toNatClampNeg) (r0 := u_16) (hr0 := hu_17) (sz := H.size)) (va_cwS 1 hts gX8_sum_X8_lowest rfl rfl rfl (by decide +kernel) ⟨Nat.le_of_ble_eq_true rfl, Nat.le_of_ble_eq_true rfl⟩) (kx_preS hEV hP hD [] rfl (by decide)) rfl rfl hl.1 rfl (lv_room (Nat.le_of_ble_eq_true rfl)) dX8_sum_57 ⟨Nat.le_of_ble_eq_true rfl, Nat.le_of_ble_eq_true rfl⟩) (fun _ H locs _ hP hD hS => ?_)
        refine lv_land hx hb dX8_sum_60 ?_
        refine lv_lconst (v := (0 : Int64)) hx hb dX8_sum_61 (by decide) ?_
        refine W.lcmp hx hb dX8_sum_62 ?_
        refine lv_if_eq (tgt := 88) hx hb dX8_sum_63 (by decide) (fun c_18 => ?_) (fun c_18 => ?_)
        · have k_19 : (x3 &&& u_16) = (0 : Int64) := ((lg_cmp_eq _ _).mp c_18)
          have h := cw_t k_19 h
          refine lv_iinc (v := x6 + (1 : Int32)) (lv' := [(6, .int (x6 + (1 : Int32))), (0, .ref q0), (3, .long x3), (5, .int x5)]) hx hb dX8_sum_88 hl (k := 3) rfl rfl (by decide) rfl (fun ls hl => ?_)
          refine lv_goto (tgt := 40) hx hb dX8_sum_91 (by decide) ?_
          exact ih _ _ _ _ _ _ _ _ h _ _ _ hP hD hS (lv_sub hl [1, 2, 3, 0] rfl)
        · have k_19 : ¬ ((x3 &&& u_16) = (0 : Int64)) := (fun z9 => c_18 ((lg_cmp_eq _ _).mpr z9))
          have h := cw_f k_19 h
          refine lv_lload_n hx hb dX8_sum_66 rfl (lv_at hl 1 rfl) ?_
          refine lv_aload_n hx hb dX8_sum_67 rfl (lv_at hl 0 rfl) ?_
          refine va_get (D := D) (ci := 8) (v := .ref q0_rSet) (C := RX8) (T := TX8) (N := 43) hx hb hts in_X8_sum_X8 hown hK hP 0 rfl rfl 25 (by decide) lk_2 (fun _ h9 => h9) rfl dX8_sum_68 ?_
          refine lv_iload hx hb dX8_sum_71 (lv_at hl 3 rfl) ?_
          obtain ⟨b_20, h⟩ := cw_i h
          refine va_lald hx hb hK hP 3 1 rfl rfl b_20 dX8_sum_73 ?_
          refine lv_lxor hx hb dX8_sum_74 ?_
          refine lv_lstore_n (lv' := [(3, .long (x3 ^^^ (h0_rSet x6.toNatClampNeg))), (0, .ref q0), (5, .int x5), (6, .int x6)]) hx hb dX8_sum_75 rfl hl (by decide) rfl (fun ls hl => ?_)
          refine lv_iload hx hb dX8_sum_76 (lv_at hl 2 rfl) ?_
          refine lv_aload_n hx hb dX8_sum_78 rfl (lv_at hl 1 rfl) ?_
          refine va_get (D := D) (ci := 8) (v := .ref q0_rRight) (C := RX8) (T := TX8) (N := 43) hx hb hts in_X8_sum_X8 hown hK hP 0 rfl rfl 26 (by decide) lk_3 (fun _ h9 => h9) rfl dX8_sum_79 ?_
          refine lv_iload hx hb dX8_sum_82 (lv_at hl 3 rfl) ?_
          obtain ⟨b_21, h⟩ := cw_i h
          refine va_iald hx hb hK hP 4 0 rfl rfl b_21 dX8_sum_84 ?_
          refine lv_ixor hx hb dX8_sum_85 ?_
          refine lv_istore (lv' := [(5, .int (x5 ^^^ (h0_rRight x6.toNatClampNeg))), (3, .long (x3 ^^^ (h0_rSet x6.toNatClampNeg))), (0, .ref q0), (6, .int x6)]) hx hb dX8_sum_86 hl (by decide) rfl (fun ls hl => ?_)
          refine lv_iinc (v := x6 + (1 : Int32)) (lv' := [(6, .int (x6 + (1 : Int32))), (5, .int (x5 ^^^ (h0_rRight x6.toNatClampNeg))), (3, .long (x3 ^^^ (h0_rSet x6.toNatClampNeg))), (0, .ref q0)]) hx hb dX8_sum_88 hl (k := 3) rfl rfl (by decide) rfl (fun ls hl => ?_)
          refine lv_goto (tgt := 40) hx hb dX8_sum_91 (by decide) ?_
          exact ih _ _ _ _ _ _ _ _ h _ _ _ hP hD hS (lv_sub hl [3, 2, 1, 0] rfl)
  have h := hr0
  unfold D_X8_sum at h
  refine lv_aload_n hx hb dX8_sum_0 rfl (lv_at hl 0 rfl) ?_
  refine lv_aload_n hx hb dX8_sum_1 rfl (lv_at hl 0 rfl) ?_
  refine lv_lload_n hx hb dX8_sum_2 rfl (lv_at hl 1 rfl) ?_
  obtain ⟨u_1, hu_2, h⟩ := co_b h
  refine kx_i (ws' := fun _ => [(q0, .inr (8, [.int f0_thrown, .int f0_n, .int f0_equations, .ref q0_eSet, .ref q0_eRight, v0_clauses, v0_cYes, v0_cNo, v0_levels, v0_levelEquations, v0_levelClauses, v0_tape, v0_tapeSize, v0_faultIs, v0_faultAt, v0_at, v0_newEquations, v0_newClauses, v0_newSet, v0_newRight, v0_newYes, v0_newNo, v0_lineYes, v0_lineNo, .int f0_rowCount, .ref q0_rSet, .ref q0_rRight, .int (bI f0_isImpossible), v0_sumSet, v0_sumOf, v0_sumRight, v0_empty, v0_empties, v0_taken, v0_ones, v0_waitTaken, v0_waitOnes, v0_nodeCount, v0_lastModel, v0_modelCount, v0_modelIs, v0_gSet, v0_gateCount])), (q0_eSet, .inl (cL, n0_eSet, .inr (.inl h0_eSet))), (q0_eRight, .inl (cI, n0_eRight, .inl h0_eRight)), (q0_rSet, .inl (cL, n0_rSet, .inr (.inl h0_rSet))), (q0_rRight, .inl (cI, n0_rRight, .inl h0_rRight))]) hP hD hS hA [0] [1, 2, 3, 4] [4, 0, 1, 2, 3] rfl rfl (by decide) (by decide) (fun _ => rfl) (by decide) (va_runV (As := [.long x1]) (rest := [.ref q0]) ⟨hx, hb, hml, hown, hts⟩ (cm_X8_areThere l D cI cL (q0 := q0) (f0_n := f0_n) (v0_thrown := .int f0_thrown) (v0_equations := .int f0_equations) (v0_eSet := .ref q0_eSet) (v0_eRight := .ref q0_eRight) (v0_clauses := v0_clauses) (v0_cYes := v0_cYes) (v0_cNo := v0_cNo) (v0_levels := v0_levels) (v0_levelEquations := v0_levelEquations) (v0_levelClauses := v0_levelClauses) (v0_tape := v0_tape) (v0_tapeSize := v0_tapeSize) (v0_faultIs := v0_faultIs) (v0_faultAt := v0_faultAt) (v0_at := v0_at) (v0_newEquations := v0_newEquations) (v0_newClauses := v0_newClauses) (v0_newSet := v0_newSet) (v0_newRight := v0_newRight) (v0_newYes := v0_newYes) (v0_newNo := v0_newNo) (v0_lineYes := v0_lineYes) (v0_lineNo := v0_lineNo) (v0_rowCount := .int f0_rowCount) (v0_rSet := .ref q0_rSet) (v0_rRight := .ref q0_rRight) (v0_isImpossible := .int (bI f0_isImpossible)) (v0_sumSet := v0_sumSet) (v0_sumOf := v0_sumOf) (v0_sumRight := v0_sumRight) (v0_empty := v0_empty) (v0_empties := v0_empties) (v0_taken := v0_taken) (v0_ones := v0_ones) (v0_waitTaken := v0_waitTaken) (v0_waitOnes := v0_waitOnes) (v0_nodeCount := v0_nodeCount) (v0_lastModel := v0_lastModel) (v0_modelCount := v0_modelCount) (v0_modelIs := v0_modelIs) (v0_gSet := v0_gSet) (v0_gateCount := v0_gateCount) (x1 := x1) (r0 := u_1) (hr0 := hu_2) (sz := H.size)) (cwV 1 hts gX8_sum_X8_areThere rfl rfl rfl (by decide +kernel) ⟨Nat.le_of_ble_eq_true rfl, Nat.le_of_ble_eq_true rfl⟩) (kx_preV hEV hP hD [0] rfl (by decide) (k0 := 0) (ci := 8) rfl rfl rfl) rfl rfl hl.1 rfl (lv_room (Nat.le_of_ble_eq_true rfl)) dX8_sum_3 ⟨Nat.le_of_ble_eq_true rfl, Nat.le_of_ble_eq_true rfl⟩) (fun _ H locs _ hP hD hS => ?_)
  refine lv_iconst (v := (1 : Int32)) hx hb dX8_sum_6 (by decide) ?_
  obtain ⟨u_3, hu_4, h⟩ := co_b h
  refine kx_i (ws' := fun _ => [(q0, .inr (8, [.int u_3.2, .int f0_n, .int f0_equations, .ref q0_eSet, .ref q0_eRight, v0_clauses, v0_cYes, v0_cNo, v0_levels, v0_levelEquations, v0_levelClauses, v0_tape, v0_tapeSize, v0_faultIs, v0_faultAt, v0_at, v0_newEquations, v0_newClauses, v0_newSet, v0_newRight, v0_newYes, v0_newNo, v0_lineYes, v0_lineNo, .int f0_rowCount, .ref q0_rSet, .ref q0_rRight, .int (bI f0_isImpossible), v0_sumSet, v0_sumOf, v0_sumRight, v0_empty, v0_empties, v0_taken, v0_ones, v0_waitTaken, v0_waitOnes, v0_nodeCount, v0_lastModel, v0_modelCount, v0_modelIs, v0_gSet, v0_gateCount])), (q0_eSet, .inl (cL, n0_eSet, .inr (.inl h0_eSet))), (q0_eRight, .inl (cI, n0_eRight, .inl h0_eRight)), (q0_rSet, .inl (cL, n0_rSet, .inr (.inl h0_rSet))), (q0_rRight, .inl (cI, n0_rRight, .inl h0_rRight))]) hP hD hS hA [0] [1, 2, 3, 4] [4, 0, 1, 2, 3] rfl rfl (by decide) (by decide) (fun _ => rfl) (by decide) (va_runV (As := [.int (bI u_1), .int (bI true)]) (rest := []) ⟨hx, hb, hml, hown, hts⟩ (cm_X8_may l D cI cL (q0 := q0) (f0_thrown := f0_thrown) (v0_n := .int f0_n) (v0_equations := .int f0_equations) (v0_eSet := .ref q0_eSet) (v0_eRight := .ref q0_eRight) (v0_clauses := v0_clauses) (v0_cYes := v0_cYes) (v0_cNo := v0_cNo) (v0_levels := v0_levels) (v0_levelEquations := v0_levelEquations) (v0_levelClauses := v0_levelClauses) (v0_tape := v0_tape) (v0_tapeSize := v0_tapeSize) (v0_faultIs := v0_faultIs) (v0_faultAt := v0_faultAt) (v0_at := v0_at) (v0_newEquations := v0_newEquations) (v0_newClauses := v0_newClauses) (v0_newSet := v0_newSet) (v0_newRight := v0_newRight) (v0_newYes := v0_newYes) (v0_newNo := v0_newNo) (v0_lineYes := v0_lineYes) (v0_lineNo := v0_lineNo) (v0_rowCount := .int f0_rowCount) (v0_rSet := .ref q0_rSet) (v0_rRight := .ref q0_rRight) (v0_isImpossible := .int (bI f0_isImpossible)) (v0_sumSet := v0_sumSet) (v0_sumOf := v0_sumOf) (v0_sumRight := v0_sumRight) (v0_empty := v0_empty) (v0_empties := v0_empties) (v0_taken := v0_taken) (v0_ones := v0_ones) (v0_waitTaken := v0_waitTaken) (v0_waitOnes := v0_waitOnes) (v0_nodeCount := v0_nodeCount) (v0_lastModel := v0_lastModel) (v0_modelCount := v0_modelCount) (v0_modelIs := v0_modelIs) (v0_gSet := v0_gSet) (v0_gateCount := v0_gateCount) (x1 := u_1) (x2 := true) (r0 := u_3) (hr0 := hu_4) (sz := H.size)) (cwV 2 hts gX8_sum_X8_may rfl rfl rfl (by decide +kernel) ⟨Nat.le_of_ble_eq_true rfl, Nat.le_of_ble_eq_true rfl⟩) (kx_preV hEV hP hD [0] rfl (by decide) (k0 := 0) (ci := 8) rfl rfl rfl) rfl rfl hl.1 rfl (lv_room (Nat.le_of_ble_eq_true rfl)) dX8_sum_7 ⟨Nat.le_of_ble_eq_true rfl, Nat.le_of_ble_eq_true rfl⟩) (fun _ H locs _ hP hD hS => ?_)
  refine lv_if_ne (tgt := 15) hx hb dX8_sum_10 (by decide) (fun c_5 => ?_) (fun c_5 => ?_)
  · have k_6 : u_3.1 = true := (kx_nz c_5)
    have h := co_t k_6 h
    refine lv_aload_n hx hb dX8_sum_15 rfl (lv_at hl 0 rfl) ?_
    refine lv_lconst (v := (0 : Int64)) hx hb dX8_sum_16 (by decide) ?_
    refine lv_lconst (v := (0 : Int64)) hx hb dX8_sum_17 (by decide) ?_
    refine lv_iconst (v := (1 : Int32)) hx hb dX8_sum_18 (by decide) ?_
    obtain ⟨u_7, hu_8, h⟩ := co_b h
    refine kx_v (ws' := fun _ => [(q0, .inr (8, [.int u_3.2, .int f0_n, .int f0_equations, .ref q0_eSet, .ref q0_eRight, v0_clauses, v0_cYes, v0_cNo, v0_levels, v0_levelEquations, v0_levelClauses, v0_tape, v0_tapeSize, v0_faultIs, v0_faultAt, v0_at, v0_newEquations, v0_newClauses, v0_newSet, v0_newRight, v0_newYes, v0_newNo, v0_lineYes, v0_lineNo, .int u_7.1, .ref q0_rSet, .ref q0_rRight, .int (bI u_7.2.1), v0_sumSet, v0_sumOf, v0_sumRight, v0_empty, v0_empties, v0_taken, v0_ones, v0_waitTaken, v0_waitOnes, v0_nodeCount, v0_lastModel, v0_modelCount, v0_modelIs, v0_gSet, v0_gateCount])), (q0_eSet, .inl (cL, n0_eSet, .inr (.inl h0_eSet))), (q0_eRight, .inl (cI, n0_eRight, .inl h0_eRight)), (q0_rSet, .inl (cL, n0_rSet, .inr (.inl u_7.2.2.1))), (q0_rRight, .inl (cI, n0_rRight, .inl u_7.2.2.2))]) hP hD hS hA [0, 1, 2, 3, 4] [] [0, 1, 2, 3, 4] rfl rfl (by decide) (by decide) (fun _ => rfl) (by decide) (va_runV (As := [.long (0 : Int64), .long (0 : Int64), .int (bI true)]) (rest := []) ⟨hx, hb, hml, hown, hts⟩ (cm_X8_makeRows l D cI cL (q0 := q0) (q0_eSet := q0_eSet) (q0_eRight := q0_eRight) (q0_rSet := q0_rSet) (q0_rRight := q0_rRight) (n0_eSet := n0_eSet) (n0_eRight := n0_eRight) (n0_rSet := n0_rSet) (n0_rRight := n0_rRight) (f0_equations := f0_equations) (f0_rowCount := f0_rowCount) (f0_isImpossible := f0_isImpossible) (h0_eSet := h0_eSet) (h0_eRight := h0_eRight) (h0_rSet := h0_rSet) (h0_rRight := h0_rRight) (v0_thrown := .int u_3.2) (v0_n := .int f0_n) (v0_clauses := v0_clauses) (v0_cYes := v0_cYes) (v0_cNo := v0_cNo) (v0_levels := v0_levels) (v0_levelEquations := v0_levelEquations) (v0_levelClauses := v0_levelClauses) (v0_tape := v0_tape) (v0_tapeSize := v0_tapeSize) (v0_faultIs := v0_faultIs) (v0_faultAt := v0_faultAt) (v0_at := v0_at) (v0_newEquations := v0_newEquations) (v0_newClauses := v0_newClauses) (v0_newSet := v0_newSet) (v0_newRight := v0_newRight) (v0_newYes := v0_newYes) (v0_newNo := v0_newNo) (v0_lineYes := v0_lineYes) (v0_lineNo := v0_lineNo) (v0_sumSet := v0_sumSet) (v0_sumOf := v0_sumOf) (v0_sumRight := v0_sumRight) (v0_empty := v0_empty) (v0_empties := v0_empties) (v0_taken := v0_taken) (v0_ones := v0_ones) (v0_waitTaken := v0_waitTaken) (v0_waitOnes := v0_waitOnes) (v0_nodeCount := v0_nodeCount) (v0_lastModel := v0_lastModel) (v0_modelCount := v0_modelCount) (v0_modelIs := v0_modelIs) (v0_gSet := v0_gSet) (v0_gateCount := v0_gateCount) (x1 := (0 : Int64)) (x3 := (0 : Int64)) (x5 := true) (r0 := u_7) (hr0 := hu_8) (sz := H.size)) (cwV 3 hts gX8_sum_X8_makeRows rfl rfl rfl (by decide +kernel) ⟨Nat.le_of_ble_eq_true rfl, Nat.le_of_ble_eq_true rfl⟩) (kx_preV hEV hP hD [0, 1, 2, 3, 4] rfl (by decide) (k0 := 0) (ci := 8) rfl rfl rfl) rfl rfl hl.1 rfl (lv_room (Nat.le_of_ble_eq_true rfl)) dX8_sum_19 ⟨Nat.le_of_ble_eq_true rfl, Nat.le_of_ble_eq_true rfl⟩) (fun _ H locs _ hP hD hS => ?_)
    refine lv_aload_n hx hb dX8_sum_22 rfl (lv_at hl 0 rfl) ?_
    refine va_get (D := D) (ci := 8) (v := .int (bI u_7.2.1)) (C := RX8) (T := TX8) (N := 43) hx hb hts in_X8_sum_X8 hown hK hP 0 rfl rfl 27 (by decide) lk_0 (fun _ h9 => h9) rfl dX8_sum_23 ?_
    refine lv_if_eq (tgt := 32) hx hb dX8_sum_26 (by decide) (fun c_9 => ?_) (fun c_9 => ?_)
    · have k_10 : ¬ (u_7.2.1 = true) := (kx_z c_9)
      have h := co_f k_10 h
      refine lv_lload_n hx hb dX8_sum_32 rfl (lv_at hl 1 rfl) ?_
      refine lv_lstore_n (lv' := [(3, .long x1), (0, .ref q0), (1, .long x1)]) hx hb dX8_sum_33 rfl hl (by decide) rfl (fun ls hl => ?_)
      refine lv_iconst (v := (0 : Int32)) hx hb dX8_sum_34 (by decide) ?_
      refine lv_istore (lv' := [(5, .int (0 : Int32)), (3, .long x1), (0, .ref q0), (1, .long x1)]) hx hb dX8_sum_35 hl (by decide) rfl (fun ls hl => ?_)
      refine lv_iconst (v := (0 : Int32)) hx hb dX8_sum_37 (by decide) ?_
      refine lv_istore (lv' := [(6, .int (0 : Int32)), (5, .int (0 : Int32)), (3, .long x1), (0, .ref q0), (1, .long x1)]) hx hb dX8_sum_38 hl (by decide) rfl (fun ls hl => ?_)
      obtain ⟨n9, hn9⟩ := runw_some h
      exact (hloop n9) _ _ _ _ _ _ _ _ hn9 _ _ _ hP hD hS (lv_sub hl [3, 2, 1, 0] rfl)
    · have k_10 : u_7.2.1 = true := (kx_nz c_9)
      have h := co_t k_10 h
      refine lv_bipush (v := (-2 : Int32)) hx hb dX8_sum_29 (by decide) ?_
      have h := Option.some.inj h
      subst h
      subst hQ
      exact W.iret (v := (-2 : Int32)) hx hb hr (fun t ht hW => ⟨⟨(-2 : Int32), (), rfl, ⟨rfl, trivial⟩, by rw [ht]; exact hP, hD⟩, hS.F ht⟩) hS.2.2 dX8_sum_31
  · have k_6 : ¬ (u_3.1 = true) := (kx_z c_5)
    have h := co_f k_6 h
    refine lv_iconst (v := (0 : Int32)) hx hb dX8_sum_13 (by decide) ?_
    have h := Option.some.inj h
    subst h
    subst hQ
    exact W.iret (v := (0 : Int32)) hx hb hr (fun t ht hW => ⟨⟨(0 : Int32), (), rfl, ⟨rfl, trivial⟩, by rw [ht]; exact hP, hD⟩, hS.F ht⟩) hS.2.2 dX8_sum_14
