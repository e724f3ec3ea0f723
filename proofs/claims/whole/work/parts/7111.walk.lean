theorem in_X8_findGates_X8 : ∀ w ∈ wsX80, w ∈ wsX8_findGates := by decide +kernel
theorem lk_0_X8_findGates : Cond.fieldLink RX8 243 "ParityClausesModel" "gateCount" "I" ∈ wsX8_findGates := by decide +kernel
theorem lk_1_X8_findGates : Cond.constantLong RX8 88 (4611686018427387904) ∈ wsX8_findGates := by decide +kernel
theorem lk_2_X8_findGates : Cond.fieldLink RX8 105 "ParityClausesModel" "clauses" "I" ∈ wsX8_findGates := by decide +kernel
theorem lk_3_X8_findGates : Cond.fieldLink RX8 17 "ParityClausesModel" "cYes" "[J" ∈ wsX8_findGates := by decide +kernel
theorem lk_4_X8_findGates : Cond.fieldLink RX8 20 "ParityClausesModel" "cNo" "[J" ∈ wsX8_findGates := by decide +kernel
theorem lk_5_X8_findGates : Cond.constantLong RX8 246 (2) ∈ wsX8_findGates := by decide +kernel
theorem lk_6_X8_findGates : Cond.constantLong RX8 248 (4) ∈ wsX8_findGates := by decide +kernel
theorem lk_7_X8_findGates : Cond.fieldLink RX8 74 "ParityClausesModel" "gSet" "[J" ∈ wsX8_findGates := by decide +kernel
abbrev rm_X8_findGates : Room := { frames := 3, cells := 0, slots := 0, locals := 71 }
set_option maxHeartbeats 4000000 in
set_option maxRecDepth 100000 in
theorem cm_X8_findGates (l : Launch) (D : va_G) (cI cL : ClassId) (q0 q0_cYes q0_cNo q0_gSet : Nat) (n0_cYes n0_cNo n0_gSet : Nat) (f0_clauses : Int32) (f0_gateCount : Int32) (h0_cYes : Nat → Int64) (h0_cNo : Nat → Int64) (h0_gSet : Nat → Int64) (v0_thrown v0_n v0_equations v0_eSet v0_eRight v0_levels v0_levelEquations v0_levelClauses v0_tape v0_tapeSize v0_faultIs v0_faultAt v0_at v0_newEquations v0_newClauses v0_newSet v0_newRight v0_newYes v0_newNo v0_lineYes v0_lineNo v0_rowCount v0_rSet v0_rRight v0_isImpossible v0_sumSet v0_sumOf v0_sumRight v0_empty v0_empties v0_taken v0_ones v0_waitTaken v0_waitOnes v0_nodeCount v0_lastModel v0_modelCount v0_modelIs : Value) (r0 : Int32 × (Nat → Int64)) (hr0 : D_X8_findGates f0_clauses f0_gateCount n0_cYes h0_cYes n0_cNo h0_cNo n0_gSet h0_gSet = some r0) (sz : Nat) : Met l yX8_findGates wsX8_findGates rm_X8_findGates (PcW D cI cL [.ref q0] [(q0, .inr (8, [v0_thrown, v0_n, v0_equations, v0_eSet, v0_eRight, .int f0_clauses, .ref q0_cYes, .ref q0_cNo, v0_levels, v0_levelEquations, v0_levelClauses, v0_tape, v0_tapeSize, v0_faultIs, v0_faultAt, v0_at, v0_newEquations, v0_newClauses, v0_newSet, v0_newRight, v0_newYes, v0_newNo, v0_lineYes, v0_lineNo, v0_rowCount, v0_rSet, v0_rRight, v0_isImpossible, v0_sumSet, v0_sumOf, v0_sumRight, v0_empty, v0_empties, v0_taken, v0_ones, v0_waitTaken, v0_waitOnes, v0_nodeCount, v0_lastModel, v0_modelCount, v0_modelIs, .ref q0_gSet, .int f0_gateCount])), (q0_cYes, .inl (cL, n0_cYes, .inr (.inl h0_cYes))), (q0_cNo, .inl (cL, n0_cNo, .inr (.inl h0_cNo))), (q0_gSet, .inl (cL, n0_gSet, .inr (.inl h0_gSet)))] sz) (QvW D [(q0, .inr (8, [v0_thrown, v0_n, v0_equations, v0_eSet, v0_eRight, .int f0_clauses, .ref q0_cYes, .ref q0_cNo, v0_levels, v0_levelEquations, v0_levelClauses, v0_tape, v0_tapeSize, v0_faultIs, v0_faultAt, v0_at, v0_newEquations, v0_newClauses, v0_newSet, v0_newRight, v0_newYes, v0_newNo, v0_lineYes, v0_lineNo, v0_rowCount, v0_rSet, v0_rRight, v0_isImpossible, v0_sumSet, v0_sumOf, v0_sumRight, v0_empty, v0_empties, v0_taken, v0_ones, v0_waitTaken, v0_waitOnes, v0_nodeCount, v0_lastModel, v0_modelCount, v0_modelIs, .ref q0_gSet, .int f0_gateCount])), (q0_cYes, .inl (cL, n0_cYes, .inr (.inl h0_cYes))), (q0_cNo, .inl (cL, n0_cNo, .inr (.inl h0_cNo))), (q0_gSet, .inl (cL, n0_gSet, .inr (.inl h0_gSet)))] (fun _ : Unit => [(q0, .inr (8, [v0_thrown, v0_n, v0_equations, v0_eSet, v0_eRight, .int f0_clauses, .ref q0_cYes, .ref q0_cNo, v0_levels, v0_levelEquations, v0_levelClauses, v0_tape, v0_tapeSize, v0_faultIs, v0_faultAt, v0_at, v0_newEquations, v0_newClauses, v0_newSet, v0_newRight, v0_newYes, v0_newNo, v0_lineYes, v0_lineNo, v0_rowCount, v0_rSet, v0_rRight, v0_isImpossible, v0_sumSet, v0_sumOf, v0_sumRight, v0_empty, v0_empties, v0_taken, v0_ones, v0_waitTaken, v0_waitOnes, v0_nodeCount, v0_lastModel, v0_modelCount, v0_modelIs, .ref q0_gSet, .int r0.1])), (q0_cYes, .inl (cL, n0_cYes, .inr (.inl h0_cYes))), (q0_cNo, .inl (cL, n0_cNo, .inr (.inl h0_cNo))), (q0_gSet, .inl (cL, n0_gSet, .inr (.inl r0.2)))]) tU sz) 0 0 (va_A [(q0, .inr (8, [v0_thrown, v0_n, v0_equations, v0_eSet, v0_eRight, .int f0_clauses, .ref q0_cYes, .ref q0_cNo, v0_levels, v0_levelEquations, v0_levelClauses, v0_tape, v0_tapeSize, v0_faultIs, v0_faultAt, v0_at, v0_newEquations, v0_newClauses, v0_newSet, v0_newRight, v0_newYes, v0_newNo, v0_lineYes, v0_lineNo, v0_rowCount, v0_rSet, v0_rRight, v0_isImpossible, v0_sumSet, v0_sumOf, v0_sumRight, v0_empty, v0_empties, v0_taken, v0_ones, v0_waitTaken, v0_waitOnes, v0_nodeCount, v0_lastModel, v0_modelCount, v0_modelIs, .ref q0_gSet, .int f0_gateCount])), (q0_cYes, .inl (cL, n0_cYes, .inr (.inl h0_cYes))), (q0_cNo, .inl (cL, n0_cNo, .inr (.inl h0_cNo))), (q0_gSet, .inl (cL, n0_gSet, .inr (.inl h0_gSet)))] sz) := by
  refine Met.ofW (cc := cX8_findGates) (maxL := 9) (ret := none) (by decide) rfl ?_
  intro p e s m args below meth c s₁ B hml hv
  obtain ⟨hargs, hsz, hP, hEV, hD0⟩ := hv
  have hx := B.exec
  have hb := B.bytes
  have hr := B.returns
  have hts := atoms_spec (ws := wsX8_findGates) B.pre
  have hown : s.vm.findClass RX8 = some m.cls := findClass_of_methodNamed B.named
  have hlocks := B.notSynchronized
  have hK := hEV.K
  have lk_0 := hts _ lk_0_X8_findGates
  have lk_1 := hts _ lk_1_X8_findGates
  have lk_2 := hts _ lk_2_X8_findGates
  have lk_3 := hts _ lk_3_X8_findGates
  have lk_4 := hts _ lk_4_X8_findGates
  have lk_5 := hts _ lk_5_X8_findGates
  have lk_6 := hts _ lk_6_X8_findGates
  have lk_7 := hts _ lk_7_X8_findGates
  subst hsz
  unfold QvW PoW
  have hD := hD0.self (sz := s.heap.size)
  generalize hAe : va_A [(q0, .inr (8, [v0_thrown, v0_n, v0_equations, v0_eSet, v0_eRight, .int f0_clauses, .ref q0_cYes, .ref q0_cNo, v0_levels, v0_levelEquations, v0_levelClauses, v0_tape, v0_tapeSize, v0_faultIs, v0_faultAt, v0_at, v0_newEquations, v0_newClauses, v0_newSet, v0_newRight, v0_newYes, v0_newNo, v0_lineYes, v0_lineNo, v0_rowCount, v0_rSet, v0_rRight, v0_isImpossible, v0_sumSet, v0_sumOf, v0_sumRight, v0_empty, v0_empties, v0_taken, v0_ones, v0_waitTaken, v0_waitOnes, v0_nodeCount, v0_lastModel, v0_modelCount, v0_modelIs, .ref q0_gSet, .int f0_gateCount])), (q0_cYes, .inl (cL, n0_cYes, .inr (.inl h0_cYes))), (q0_cNo, .inl (cL, n0_cNo, .inr (.inl h0_cNo))), (q0_gSet, .inl (cL, n0_gSet, .inr (.inl h0_gSet)))] s.heap.size = A at hD ⊢
  have hA : ∀ q : Nat, s.heap.size ≤ q → A q := fun q h => by rw [← hAe]; exact Or.inr h
  have hent : entryFrame m args 9 = entryFrame m ([.ref q0] : List Value).toArray 9 := by rw [hargs]
  rw [hent]
  refine kx_Q (fun Q hQ => ?_)
  refine kx_H (fun H hH => ?_)
  have hP : va_P D vwCl [(q0, .inr (8, [v0_thrown, v0_n, v0_equations, v0_eSet, v0_eRight, .int f0_clauses, .ref q0_cYes, .ref q0_cNo, v0_levels, v0_levelEquations, v0_levelClauses, v0_tape, v0_tapeSize, v0_faultIs, v0_faultAt, v0_at, v0_newEquations, v0_newClauses, v0_newSet, v0_newRight, v0_newYes, v0_newNo, v0_lineYes, v0_lineNo, v0_rowCount, v0_rSet, v0_rRight, v0_isImpossible, v0_sumSet, v0_sumOf, v0_sumRight, v0_empty, v0_empties, v0_taken, v0_ones, v0_waitTaken, v0_waitOnes, v0_nodeCount, v0_lastModel, v0_modelCount, v0_modelIs, .ref q0_gSet, .int f0_gateCount])), (q0_cYes, .inl (cL, n0_cYes, .inr (.inl h0_cYes))), (q0_cNo, .inl (cL, n0_cNo, .inr (.inl h0_cNo))), (q0_gSet, .inl (cL, n0_gSet, .inr (.inl h0_gSet)))] H := by rw [hH]; exact hP
  have hS : va_S A s.heap H [] := by rw [hH]; exact va_S.rf
  have hl := lv_entry ([.ref q0]) (n := 9) (Nat.le_of_ble_eq_true rfl)
  rw [lg_entry_eq]
  generalize (lg_sl ([.ref q0]) ++ List.replicate (9 - (lg_sl ([.ref q0])).length) Slot.unset).toArray = ls at hl ⊢
  have hl : lv_has ls 9 [(0, .ref q0)] := hl
  have hloop : ∀ n9 : Nat, (∀ (x1 : Int64) (x3 : Bool) (f0_gateCount : Int32) (h0_gSet : Nat → Int64), iter (st_X8_findGates f0_clauses n0_cYes h0_cYes n0_cNo h0_cNo n0_gSet) n9 (.inl (x1, x3, f0_gateCount, h0_gSet)) = some r0 → ∀ (H : Heap) (locs : List Loc) (ls : Array Slot), va_P D vwCl [(q0, .inr (8, [v0_thrown, v0_n, v0_equations, v0_eSet, v0_eRight, .int f0_clauses, .ref q0_cYes, .ref q0_cNo, v0_levels, v0_levelEquations, v0_levelClauses, v0_tape, v0_tapeSize, v0_faultIs, v0_faultAt, v0_at, v0_newEquations, v0_newClauses, v0_newSet, v0_newRight, v0_newYes, v0_newNo, v0_lineYes, v0_lineNo, v0_rowCount, v0_rSet, v0_rRight, v0_isImpossible, v0_sumSet, v0_sumOf, v0_sumRight, v0_empty, v0_empties, v0_taken, v0_ones, v0_waitTaken, v0_waitOnes, v0_nodeCount, v0_lastModel, v0_modelCount, v0_modelIs, .ref q0_gSet, .int f0_gateCount])), (q0_cYes, .inl (cL, n0_cYes, .inr (.inl h0_cYes))), (q0_cNo, .inl (cL, n0_cNo, .inr (.inl h0_cNo))), (q0_gSet, .inl (cL, n0_gSet, .inr (.inl h0_gSet)))] H → va_D A [(q0, .inr (8, [v0_thrown, v0_n, v0_equations, v0_eSet, v0_eRight, .int f0_clauses, .ref q0_cYes, .ref q0_cNo, v0_levels, v0_levelEquations, v0_levelClauses, v0_tape, v0_tapeSize, v0_faultIs, v0_faultAt, v0_at, v0_newEquations, v0_newClauses, v0_newSet, v0_newRight, v0_newYes, v0_newNo, v0_lineYes, v0_lineNo, v0_rowCount, v0_rSet, v0_rRight, v0_isImpossible, v0_sumSet, v0_sumOf, v0_sumRight, v0_empty, v0_empties, v0_taken, v0_ones, v0_waitTaken, v0_waitOnes, v0_nodeCount, v0_lastModel, v0_modelCount, v0_modelIs, .ref q0_gSet, .int f0_gateCount])), (q0_cYes, .inl (cL, n0_cYes, .inr (.inl h0_cYes))), (q0_cNo, .inl (cL, n0_cNo, .inr (.inl h0_cNo))), (q0_gSet, .inl (cL, n0_gSet, .inr (.inl h0_gSet)))] → va_S A s.heap H locs → lv_has ls 9 [(0, .ref q0), (1, .long x1), (3, .int (bI x3))] → W p l e (headSpec wsX8_findGates rm_X8_findGates).room s m args below meth c H locs 0 0 Q (F0 m 9 ls [])) ∧ (∀ (x1 : Int64) (x4 : Int64) (x6 : Int32) (f0_gateCount : Int32) (h0_gSet : Nat → Int64), iter (st_X8_findGates f0_clauses n0_cYes h0_cYes n0_cNo h0_cNo n0_gSet) n9 (.inr (.inl (x1, x4, x6, f0_gateCount, h0_gSet))) = some r0 → ∀ (H : Heap) (locs : List Loc) (ls : Array Slot), va_P D vwCl [(q0, .inr (8, [v0_thrown, v0_n, v0_equations, v0_eSet, v0_eRight, .int f0_clauses, .ref q0_cYes, .ref q0_cNo, v0_levels, v0_levelEquations, v0_levelClauses, v0_tape, v0_tapeSize, v0_faultIs, v0_faultAt, v0_at, v0_newEquations, v0_newClauses, v0_newSet, v0_newRight, v0_newYes, v0_newNo, v0_lineYes, v0_lineNo, v0_rowCount, v0_rSet, v0_rRight, v0_isImpossible, v0_sumSet, v0_sumOf, v0_sumRight, v0_empty, v0_empties, v0_taken, v0_ones, v0_waitTaken, v0_waitOnes, v0_nodeCount, v0_lastModel, v0_modelCount, v0_modelIs, .ref q0_gSet, .int f0_gateCount])), (q0_cYes, .inl (cL, n0_cYes, .inr (.inl h0_cYes))), (q0_cNo, .inl (cL, n0_cNo, .inr (.inl h0_cNo))), (q0_gSet, .inl (cL, n0_gSet, .inr (.inl h0_gSet)))] H → va_D A [(q0, .inr (8, [v0_thrown, v0_n, v0_equations, v0_eSet, v0_eRight, .int f0_clauses, .ref q0_cYes, .ref q0_cNo, v0_levels, v0_levelEquations, v0_levelClauses, v0_tape, v0_tapeSize, v0_faultIs, v0_faultAt, v0_at, v0_newEquations, v0_newClauses, v0_newSet, v0_newRight, v0_newYes, v0_newNo, v0_lineYes, v0_lineNo, v0_rowCount, v0_rSet, v0_rRight, v0_isImpossible, v0_sumSet, v0_sumOf, v0_sumRight, v0_empty, v0_empties, v0_taken, v0_ones, v0_waitTaken, v0_waitOnes, v0_nodeCount, v0_lastModel, v0_modelCount, v0_modelIs, .ref q0_gSet, .int f0_gateCount])), (q0_cYes, .inl (cL, n0_cYes, .inr (.inl h0_cYes))), (q0_cNo, .inl (cL, n0_cNo, .inr (.inl h0_cNo))), (q0_gSet, .inl (cL, n0_gSet, .inr (.inl h0_gSet)))] → va_S A s.heap H locs → lv_has ls 9 [(0, .ref q0), (1, .long x1), (4, .long x4), (6, .int x6)] → W p l e (headSpec wsX8_findGates rm_X8_findGates).room s m args below meth c H locs 0 0 Q (F0 m 21 ls [])) ∧ (∀ (x3 : Bool) (x4 : Int64) (x6 : Int32) (f0_gateCount : Int32) (h0_gSet : Nat → Int64), iter (st_X8_findGates f0_clauses n0_cYes h0_cYes n0_cNo h0_cNo n0_gSet) n9 (.inr (.inr (x3, x4, x6, f0_gateCount, h0_gSet))) = some r0 → ∀ (H : Heap) (locs : List Loc) (ls : Array Slot), va_P D vwCl [(q0, .inr (8, [v0_thrown, v0_n, v0_equations, v0_eSet, v0_eRight, .int f0_clauses, .ref q0_cYes, .ref q0_cNo, v0_levels, v0_levelEquations, v0_levelClauses, v0_tape, v0_tapeSize, v0_faultIs, v0_faultAt, v0_at, v0_newEquations, v0_newClauses, v0_newSet, v0_newRight, v0_newYes, v0_newNo, v0_lineYes, v0_lineNo, v0_rowCount, v0_rSet, v0_rRight, v0_isImpossible, v0_sumSet, v0_sumOf, v0_sumRight, v0_empty, v0_empties, v0_taken, v0_ones, v0_waitTaken, v0_waitOnes, v0_nodeCount, v0_lastModel, v0_modelCount, v0_modelIs, .ref q0_gSet, .int f0_gateCount])), (q0_cYes, .inl (cL, n0_cYes, .inr (.inl h0_cYes))), (q0_cNo, .inl (cL, n0_cNo, .inr (.inl h0_cNo))), (q0_gSet, .inl (cL, n0_gSet, .inr (.inl h0_gSet)))] H → va_D A [(q0, .inr (8, [v0_thrown, v0_n, v0_equations, v0_eSet, v0_eRight, .int f0_clauses, .ref q0_cYes, .ref q0_cNo, v0_levels, v0_levelEquations, v0_levelClauses, v0_tape, v0_tapeSize, v0_faultIs, v0_faultAt, v0_at, v0_newEquations, v0_newClauses, v0_newSet, v0_newRight, v0_newYes, v0_newNo, v0_lineYes, v0_lineNo, v0_rowCount, v0_rSet, v0_rRight, v0_isImpossible, v0_sumSet, v0_sumOf, v0_sumRight, v0_empty, v0_empties, v0_taken, v0_ones, v0_waitTaken, v0_waitOnes, v0_nodeCount, v0_lastModel, v0_modelCount, v0_modelIs, .ref q0_gSet, .int f0_gateCount])), (q0_cYes, .inl (cL, n0_cYes, .inr (.inl h0_cYes))), (q0_cNo, .inl (cL, n0_cNo, .inr (.inl h0_cNo))), (q0_gSet, .inl (cL, n0_gSet, .inr (.inl h0_gSet)))] → va_S A s.heap H locs → lv_has ls 9 [(0, .ref q0), (3, .int (bI x3)), (4, .long x4), (6, .int x6)] → W p l e (headSpec wsX8_findGates rm_X8_findGates).room s m args below meth c H locs 0 0 Q (F0 m 113 ls [])) := by
    intro n9
    induction n9 with
    | zero => exact ⟨(fun _ _ _ _ h => nomatch h), (fun _ _ _ _ _ h => nomatch h), (fun _ _ _ _ _ h => nomatch h)⟩
    | succ n9 ih =>
      refine ⟨?_, ?_, ?_⟩
      · intro x1 x3 f0_gateCount h0_gSet h H locs ls hP hD hS hl
        have h : run1 (iter (st_X8_findGates f0_clauses n0_cYes h0_cYes n0_cNo h0_cNo n0_gSet) n9) (b_X8_findGates_9 f0_clauses n0_cYes h0_cYes n0_cNo h0_cNo n0_gSet x1 x3 f0_gateCount h0_gSet) = some r0 := h
        unfold b_X8_findGates_9 at h
        refine lv_iload_n hx hb dX8_findGates_9 rfl (lv_at hl 2 rfl) ?_
        refine lv_if_eq (tgt := 181) hx hb dX8_findGates_10 (by decide) (fun c_1 => ?_) (fun c_1 => ?_)
        · have k_2 : ¬ (x3 = true) := (kx_z c_1)
          have h := cw_f k_2 h
          have h := Option.some.inj h
          subst h
          subst hQ
          exact W.vret hx hb hr (fun t ht hW => ⟨⟨(), rfl, trivial, by rw [ht]; exact hP, hD⟩, hS.F ht⟩) hS.2.2 dX8_findGates_181
        · have k_2 : x3 = true := (kx_nz c_1)
          have h := cw_t k_2 h
          refine lv_ldc2 hx hb hown lk_1 dX8_findGates_13 ?_
          refine lv_lstore (lv' := [(4, .long (4611686018427387904 : Int64)), (0, .ref q0), (1, .long x1), (3, .int (bI x3))]) hx hb dX8_findGates_16 hl (by decide) rfl (fun ls hl => ?_)
          refine lv_iconst (v := (0 : Int32)) hx hb dX8_findGates_18 (by decide) ?_
          refine lv_istore (lv' := [(6, .int (0 : Int32)), (4, .long (4611686018427387904 : Int64)), (0, .ref q0), (1, .long x1), (3, .int (bI x3))]) hx hb dX8_findGates_19 hl (by decide) rfl (fun ls hl => ?_)
          exact ih.2.1 _ _ _ _ _ h _ _ _ hP hD hS (lv_sub hl [2, 3, 1, 0] rfl)
      · intro x1 x4 x6 f0_gateCount h0_gSet h H locs ls hP hD hS hl
        have h : run1 (iter (st_X8_findGates f0_clauses n0_cYes h0_cYes n0_cNo h0_cNo n0_gSet) n9) (b_X8_findGates_21 f0_clauses n0_cYes h0_cYes n0_cNo h0_cNo n0_gSet x1 x4 x6 f0_gateCount h0_gSet) = some r0 := h
        unfold b_X8_findGates_21 at h
        refine lv_iload hx hb dX8_findGates_21 (lv_at hl 3 rfl) ?_
        refine lv_aload_n hx hb dX8_findGates_23 rfl (lv_at hl 0 rfl) ?_
        refine va_get (D := D) (ci := 8) (v := .int f0_clauses) (C := RX8) (T := TX8) (N := 43) hx hb hts in_X8_findGates_X8 hown hK hP 0 rfl rfl 5 (by decide) lk_2 (fun _ h9 => h9) rfl dX8_findGates_24 ?_
        refine lv_icmp_ge (tgt := 95) hx hb dX8_findGates_27 (by decide) (fun c_3 => ?_) (fun c_3 => ?_)
        · have k_4 : f0_clauses ≤ x6 := c_3
          have h := cw_t k_4 h
          refine lv_lload hx hb dX8_findGates_95 (lv_at hl 2 rfl) ?_
          refine lv_ldc2 hx hb hown lk_1 dX8_findGates_97 ?_
          refine W.lcmp hx hb dX8_findGates_100 ?_
          refine lv_if_eq (tgt := 108) hx hb dX8_findGates_101 (by decide) (fun c_5 => ?_) (fun c_5 => ?_)
          · have k_6 : x4 = (4611686018427387904 : Int64) := ((lg_cmp_eq _ _).mp c_5)
            have h := cw_t k_6 h
            refine lv_iconst (v := (0 : Int32)) hx hb dX8_findGates_108 (by decide) ?_
            refine lv_istore_n (lv' := [(3, .int (0 : Int32)), (0, .ref q0), (1, .long x1), (4, .long x4), (6, .int x6)]) hx hb dX8_findGates_109 rfl hl (by decide) rfl (fun ls hl => ?_)
            refine lv_iconst (v := (0 : Int32)) hx hb dX8_findGates_110 (by decide) ?_
            refine lv_istore (lv' := [(6, .int (0 : Int32)), (3, .int (0 : Int32)), (0, .ref q0), (1, .long x1), (4, .long x4)]) hx hb dX8_findGates_111 hl (by decide) rfl (fun ls hl => ?_)
            exact ih.2.2 _ _ _ _ _ h _ _ _ hP hD hS (lv_sub hl [2, 1, 4, 0] rfl)
          · have k_6 : ¬ (x4 = (4611686018427387904 : Int64)) := (fun z9 => c_5 ((lg_cmp_eq _ _).mpr z9))
            have h := cw_f k_6 h
            refine lv_iconst (v := (1 : Int32)) hx hb dX8_findGates_104 (by decide) ?_
            refine lv_goto (tgt := 109) hx hb dX8_findGates_105 (by decide) ?_
            refine lv_istore_n (lv' := [(3, .int (1 : Int32)), (0, .ref q0), (1, .long x1), (4, .long x4), (6, .int x6)]) hx hb dX8_findGates_109 rfl hl (by decide) rfl (fun ls hl => ?_)
            refine lv_iconst (v := (0 : Int32)) hx hb dX8_findGates_110 (by decide) ?_
            refine lv_istore (lv' := [(6, .int (0 : Int32)), (3, .int (1 : Int32)), (0, .ref q0), (1, .long x1), (4, .long x4)]) hx hb dX8_findGates_111 hl (by decide) rfl (fun ls hl => ?_)
            exact ih.2.2 _ _ _ _ _ h _ _ _ hP hD hS (lv_sub hl [2, 1, 4, 0] rfl)
        · have k_4 : ¬ (f0_clauses ≤ x6) := c_3
          have h := cw_f k_4 h
          refine lv_aload_n hx hb dX8_findGates_30 rfl (lv_at hl 0 rfl) ?_
          refine va_get (D := D) (ci := 8) (v := .ref q0_cYes) (C := RX8) (T := TX8) (N := 43) hx hb hts in_X8_findGates_X8 hown hK hP 0 rfl rfl 6 (by decide) lk_3 (fun _ h9 => h9) rfl dX8_findGates_31 ?_
          refine lv_iload hx hb dX8_findGates_34 (lv_at hl 3 rfl) ?_
          obtain ⟨b_7, h⟩ := cw_i h
          refine va_lald hx hb hK hP 1 1 rfl rfl b_7 dX8_findGates_36 ?_
          refine lv_aload_n hx hb dX8_findGates_37 rfl (lv_at hl 0 rfl) ?_
          refine va_get (D := D) (ci := 8) (v := .ref q0_cNo) (C := RX8) (T := TX8) (N := 43) hx hb hts in_X8_findGates_X8 hown hK hP 0 rfl rfl 7 (by decide) lk_4 (fun _ h9 => h9) rfl dX8_findGates_38 ?_
          refine lv_iload hx hb dX8_findGates_41 (lv_at hl 3 rfl) ?_
          obtain ⟨b_8, h⟩ := cw_i h
          refine va_lald hx hb hK hP 2 1 rfl rfl b_8 dX8_findGates_43 ?_
          refine lv_lor hx hb dX8_findGates_44 ?_
          refine lv_lstore (lv' := [(7, .long ((h0_cYes x6.toNatClampNeg) ||| (h0_cNo x6.toNatClampNeg))), (0, .ref q0), (1, .long x1), (4, .long x4), (6, .int x6)]) hx hb dX8_findGates_45 hl (by decide) rfl (fun ls hl => ?_)
          refine lv_lload hx hb dX8_findGates_47 (lv_at hl 0 rfl) ?_
          refine lv_lload_n hx hb dX8_findGates_49 rfl (lv_at hl 2 rfl) ?_
          refine W.lcmp hx hb dX8_findGates_50 ?_
          refine lv_if_le (tgt := 85) hx hb dX8_findGates_51 (by decide) (fun c_9 => ?_) (fun c_9 => ?_)
          · have k_10 : ((h0_cYes x6.toNatClampNeg) ||| (h0_cNo x6.toNatClampNeg)) ≤ x1 := ((lg_cmp_le _ _).mp c_9)
            have h := cw_t k_10 h
            refine lv_lload hx hb dX8_findGates_85 (lv_at hl 3 rfl) ?_
            refine lv_lstore (lv' := [(4, .long x4), (7, .long ((h0_cYes x6.toNatClampNeg) ||| (h0_cNo x6.toNatClampNeg))), (0, .ref q0), (1, .long x1), (6, .int x6)]) hx hb dX8_findGates_87 hl (by decide) rfl (fun ls hl => ?_)
            refine lv_iinc (v := x6 + (1 : Int32)) (lv' := [(6, .int (x6 + (1 : Int32))), (4, .long x4), (7, .long ((h0_cYes x6.toNatClampNeg) ||| (h0_cNo x6.toNatClampNeg))), (0, .ref q0), (1, .long x1)]) hx hb dX8_findGates_89 hl (k := 4) rfl rfl (by decide) rfl (fun ls hl => ?_)
            refine lv_goto (tgt := 21) hx hb dX8_findGates_92 (by decide) ?_
            exact ih.2.1 _ _ _ _ _ h _ _ _ hP hD hS (lv_sub hl [3, 4, 1, 0] rfl)
          · have k_10 : ¬ (((h0_cYes x6.toNatClampNeg) ||| (h0_cNo x6.toNatClampNeg)) ≤ x1) := (fun z9 => c_9 ((lg_cmp_le _ _).mpr z9))
            have h := cw_f k_10 h
            refine lv_lload hx hb dX8_findGates_54 (lv_at hl 0 rfl) ?_
            refine lv_lload hx hb dX8_findGates_56 (lv_at hl 3 rfl) ?_
            refine W.lcmp hx hb dX8_findGates_58 ?_
            refine lv_if_ge (tgt := 85) hx hb dX8_findGates_59 (by decide) (fun c_11 => ?_) (fun c_11 => ?_)
            · have k_12 : x4 ≤ ((h0_cYes x6.toNatClampNeg) ||| (h0_cNo x6.toNatClampNeg)) := ((lg_cmp_ge _ _).mp c_11)
              have h := cw_t k_12 h
              refine lv_lload hx hb dX8_findGates_85 (lv_at hl 3 rfl) ?_
              refine lv_lstore (lv' := [(4, .long x4), (7, .long ((h0_cYes x6.toNatClampNeg) ||| (h0_cNo x6.toNatClampNeg))), (0, .ref q0), (1, .long x1), (6, .int x6)]) hx hb dX8_findGates_87 hl (by decide) rfl (fun ls hl => ?_)
              refine lv_iinc (v := x6 + (1 : Int32)) (lv' := [(6, .int (x6 + (1 : Int32))), (4, .long x4), (7, .long ((h0_cYes x6.toNatClampNeg) ||| (h0_cNo x6.toNatClampNeg))), (0, .ref q0), (1, .long x1)]) hx hb dX8_findGates_89 hl (k := 4) rfl rfl (by decide) rfl (fun ls hl => ?_)
              refine lv_goto (tgt := 21) hx hb dX8_findGates_92 (by decide) ?_
              exact ih.2.1 _ _ _ _ _ h _ _ _ hP hD hS (lv_sub hl [3, 4, 1, 0] rfl)
            · have k_12 : ¬ (x4 ≤ ((h0_cYes x6.toNatClampNeg) ||| (h0_cNo x6.toNatClampNeg))) := (fun z9 => c_11 ((lg_cmp_ge _ _).mpr z9))
              have h := cw_f k_12 h
              refine lv_lload hx hb dX8_findGates_62 (lv_at hl 0 rfl) ?_
              obtain ⟨u_13, hu_14, h⟩ := cw_b h
              refine kx_i (ws' := fun _ => [(q0, .inr (8, [v0_thrown, v0_n, v0_equations, v0_eSet, v0_eRight, .int f0_clauses, .ref q0_cYes, .ref q0_cNo, v0_levels, v0_levelEquations, v0_levelClauses, v0_tape, v0_tapeSize, v0_faultIs, v0_faultAt, v0_at, v0_newEquations, v0_newClauses, v0_newSet, v0_newRight, v0_newYes, v0_newNo, v0_lineYes, v0_lineNo, v0_rowCount, v0_rSet, v0_rRight, v0_isImpossible, v0_sumSet, v0_sumOf, v0_sumRight, v0_empty, v0_empties, v0_taken, v0_ones, v0_waitTaken, v0_waitOnes, v0_nodeCount, v0_lastModel, v0_modelCount, v0_modelIs, .ref q0_gSet, .int f0_gateCount])), (q0_cYes, .inl (cL, n0_cYes, .inr (.inl h0_cYes))), (q0_cNo, .inl (cL, n0_cNo, .inr (.inl h0_cNo))), (q0_gSet, .inl (cL, n0_gSet, .inr (.inl h0_gSet)))]) hP hD hS hA [] [0, 1, 2, 3] [0, 1, 2, 3] rfl rfl (by decide) (by decide) (fun _ => rfl) (by decide) (va_runS (As := [.long ((h0_cYes x6.toNatClampNeg) ||| (h0_cNo x6.toNatClampNeg))]) (rest := []) ⟨hx, hb, hml, hown, hts⟩ (cm_X8_bits l D cI cL (x0 := (h0_cYes x6.toNatClampNeg) ||| (h0_cNo x6.toNatClampNeg)) (r0 := u_13) (hr0 := hu_14) (sz := H.size)) (va_cwS 1 hts gX8_findGates_X8_bits rfl rfl rfl (by decide +kernel) ⟨Nat.le_of_ble_eq_true rfl, Nat.le_of_ble_eq_true rfl⟩) (kx_preS hEV hP hD [] rfl (by decide)) rfl rfl hl.1 rfl (lv_room (Nat.le_of_ble_eq_true rfl)) dX8_findGates_64 ⟨Nat.le_of_ble_eq_true rfl, Nat.le_of_ble_eq_true rfl⟩) (fun _ H locs _ hP hD hS => ?_)
              refine lv_i2l (v := u_13.toInt64) hx hb dX8_findGates_67 rfl ?_
              refine lv_ldc2 hx hb hown lk_5 dX8_findGates_68 ?_
              refine lv_ldc2 hx hb hown lk_6 dX8_findGates_71 ?_
              obtain ⟨u_15, hu_16, h⟩ := cw_b h
              refine kx_i (ws' := fun _ => [(q0, .inr (8, [v0_thrown, v0_n, v0_equations, v0_eSet, v0_eRight, .int f0_clauses, .ref q0_cYes, .ref q0_cNo, v0_levels, v0_levelEquations, v0_levelClauses, v0_tape, v0_tapeSize, v0_faultIs, v0_faultAt, v0_at, v0_newEquations, v0_newClauses, v0_newSet, v0_newRight, v0_newYes, v0_newNo, v0_lineYes, v0_lineNo, v0_rowCount, v0_rSet, v0_rRight, v0_isImpossible, v0_sumSet, v0_sumOf, v0_sumRight, v0_empty, v0_empties, v0_taken, v0_ones, v0_waitTaken, v0_waitOnes, v0_nodeCount, v0_lastModel, v0_modelCount, v0_modelIs, .ref q0_gSet, .int f0_gateCount])), (q0_cYes, .inl (cL, n0_cYes, .inr (.inl h0_cYes))), (q0_cNo, .inl (cL, n0_cNo, .inr (.inl h0_cNo))), (q0_gSet, .inl (cL, n0_gSet, .inr (.inl h0_gSet)))]) hP hD hS hA [] [0, 1, 2, 3] [0, 1, 2, 3] rfl rfl (by decide) (by decide) (fun _ => rfl) (by decide) (va_runS (As := [.long u_13.toInt64, .long (2 : Int64), .long (4 : Int64)]) (rest := []) ⟨hx, hb, hml, hown, hts⟩ (cm_X8_isIn l D cI cL (x0 := u_13.toInt64) (x2 := (2 : Int64)) (x4 := (4 : Int64)) (r0 := u_15) (hr0 := hu_16) (sz := H.size)) (va_cwS 3 hts gX8_findGates_X8_isIn rfl rfl rfl (by decide +kernel) ⟨Nat.le_of_ble_eq_true rfl, Nat.le_of_ble_eq_true rfl⟩) (kx_preS hEV hP hD [] rfl (by decide)) rfl rfl hl.1 rfl (lv_room (Nat.le_of_ble_eq_true rfl)) dX8_findGates_74 ⟨Nat.le_of_ble_eq_true rfl, Nat.le_of_ble_eq_true rfl⟩) (fun _ H locs _ hP hD hS => ?_)
              refine lv_if_eq (tgt := 85) hx hb dX8_findGates_77 (by decide) (fun c_17 => ?_) (fun c_17 => ?_)
              · have k_18 : ¬ (u_15 = true) := (kx_z c_17)
                have h := cw_f k_18 h
                refine lv_lload hx hb dX8_findGates_85 (lv_at hl 3 rfl) ?_
                refine lv_lstore (lv' := [(4, .long x4), (7, .long ((h0_cYes x6.toNatClampNeg) ||| (h0_cNo x6.toNatClampNeg))), (0, .ref q0), (1, .long x1), (6, .int x6)]) hx hb dX8_findGates_87 hl (by decide) rfl (fun ls hl => ?_)
                refine lv_iinc (v := x6 + (1 : Int32)) (lv' := [(6, .int (x6 + (1 : Int32))), (4, .long x4), (7, .long ((h0_cYes x6.toNatClampNeg) ||| (h0_cNo x6.toNatClampNeg))), (0, .ref q0), (1, .long x1)]) hx hb dX8_findGates_89 hl (k := 4) rfl rfl (by decide) rfl (fun ls hl => ?_)
                refine lv_goto (tgt := 21) hx hb dX8_findGates_92 (by decide) ?_
                exact ih.2.1 _ _ _ _ _ h _ _ _ hP hD hS (lv_sub hl [3, 4, 1, 0] rfl)
              · have k_18 : u_15 = true := (kx_nz c_17)
                have h := cw_t k_18 h
                refine lv_lload hx hb dX8_findGates_80 (lv_at hl 0 rfl) ?_
                refine lv_goto (tgt := 87) hx hb dX8_findGates_82 (by decide) ?_
                refine lv_lstore (lv' := [(4, .long ((h0_cYes x6.toNatClampNeg) ||| (h0_cNo x6.toNatClampNeg))), (7, .long ((h0_cYes x6.toNatClampNeg) ||| (h0_cNo x6.toNatClampNeg))), (0, .ref q0), (1, .long x1), (6, .int x6)]) hx hb dX8_findGates_87 hl (by decide) rfl (fun ls hl => ?_)
                refine lv_iinc (v := x6 + (1 : Int32)) (lv' := [(6, .int (x6 + (1 : Int32))), (4, .long ((h0_cYes x6.toNatClampNeg) ||| (h0_cNo x6.toNatClampNeg))), (7, .long ((h0_cYes x6.toNatClampNeg) ||| (h0_cNo x6.toNatClampNeg))), (0, .ref q0), (1, .long x1)]) hx hb dX8_findGates_89 hl (k := 4) rfl rfl (by decide) rfl (fun ls hl => ?_)
                refine lv_goto (tgt := 21) hx hb dX8_findGates_92 (by decide) ?_
                exact ih.2.1 _ _ _ _ _ h _ _ _ hP hD hS (lv_sub hl [3, 4, 1, 0] rfl)
      · intro x3 x4 x6 f0_gateCount h0_gSet h H locs ls hP hD hS hl
        have h : run1 (iter (st_X8_findGates f0_clauses n0_cYes h0_cYes n0_cNo h0_cNo n0_gSet) n9) (b_X8_findGates_113 f0_clauses n0_cYes h0_cYes n0_cNo h0_cNo n0_gSet x3 x4 x6 f0_gateCount h0_gSet) = some r0 := h
        unfold b_X8_findGates_113 at h
        refine lv_iload hx hb dX8_findGates_113 (lv_at hl 3 rfl) ?_
        refine lv_iconst (v := (2 : Int32)) hx hb dX8_findGates_115 (by decide) ?_
        refine lv_icmp_ge (tgt := 175) hx hb dX8_findGates_116 (by decide) (fun c_19 => ?_) (fun c_19 => ?_)
        · have k_20 : (2 : Int32) ≤ x6 := c_19
          have h := cw_t k_20 h
          refine lv_lload hx hb dX8_findGates_175 (lv_at hl 2 rfl) ?_
          refine lv_lstore_n (lv' := [(1, .long x4), (0, .ref q0), (3, .int (bI x3)), (4, .long x4), (6, .int x6)]) hx hb dX8_findGates_177 rfl hl (by decide) rfl (fun ls hl => ?_)
          refine lv_goto (tgt := 9) hx hb dX8_findGates_178 (by decide) ?_
          exact ih.1 _ _ _ _ h _ _ _ hP hD hS (lv_sub hl [1, 0, 2] rfl)
        · have k_20 : ¬ ((2 : Int32) ≤ x6) := c_19
          have h := cw_f k_20 h
          refine lv_iload_n hx hb dX8_findGates_119 rfl (lv_at hl 1 rfl) ?_
          refine lv_if_eq (tgt := 175) hx hb dX8_findGates_120 (by decide) (fun c_21 => ?_) (fun c_21 => ?_)
          · have k_22 : ¬ (x3 = true) := (kx_z c_21)
            have h := cw_f k_22 h
            refine lv_lload hx hb dX8_findGates_175 (lv_at hl 2 rfl) ?_
            refine lv_lstore_n (lv' := [(1, .long x4), (0, .ref q0), (3, .int (bI x3)), (4, .long x4), (6, .int x6)]) hx hb dX8_findGates_177 rfl hl (by decide) rfl (fun ls hl => ?_)
            refine lv_goto (tgt := 9) hx hb dX8_findGates_178 (by decide) ?_
            exact ih.1 _ _ _ _ h _ _ _ hP hD hS (lv_sub hl [1, 0, 2] rfl)
          · have k_22 : x3 = true := (kx_nz c_21)
            have h := cw_t k_22 h
            refine lv_aload_n hx hb dX8_findGates_123 rfl (lv_at hl 0 rfl) ?_
            refine lv_lload hx hb dX8_findGates_124 (lv_at hl 2 rfl) ?_
            refine lv_iload hx hb dX8_findGates_126 (lv_at hl 3 rfl) ?_
            obtain ⟨u_23, hu_24, h⟩ := cw_b h
            refine kx_i (ws' := fun _ => [(q0, .inr (8, [v0_thrown, v0_n, v0_equations, v0_eSet, v0_eRight, .int f0_clauses, .ref q0_cYes, .ref q0_cNo, v0_levels, v0_levelEquations, v0_levelClauses, v0_tape, v0_tapeSize, v0_faultIs, v0_faultAt, v0_at, v0_newEquations, v0_newClauses, v0_newSet, v0_newRight, v0_newYes, v0_newNo, v0_lineYes, v0_lineNo, v0_rowCount, v0_rSet, v0_rRight, v0_isImpossible, v0_sumSet, v0_sumOf, v0_sumRight, v0_empty, v0_empties, v0_taken, v0_ones, v0_waitTaken, v0_waitOnes, v0_nodeCount, v0_lastModel, v0_modelCount, v0_modelIs, .ref q0_gSet, .int f0_gateCount])), (q0_cYes, .inl (cL, n0_cYes, .inr (.inl h0_cYes))), (q0_cNo, .inl (cL, n0_cNo, .inr (.inl h0_cNo))), (q0_gSet, .inl (cL, n0_gSet, .inr (.inl h0_gSet)))]) hP hD hS hA [0, 1, 2] [3] [1, 2, 3, 0] rfl rfl (by decide) (by decide) (fun _ => rfl) (by decide) (va_runV (As := [.long x4, .int x6]) (rest := []) ⟨hx, hb, hml, hown, hts⟩ (cm_X8_isGate l D cI cL (q0 := q0) (q0_cYes := q0_cYes) (q0_cNo := q0_cNo) (n0_cYes := n0_cYes) (n0_cNo := n0_cNo) (f0_clauses := f0_clauses) (h0_cYes := h0_cYes) (h0_cNo := h0_cNo) (v0_thrown := v0_thrown) (v0_n := v0_n) (v0_equations := v0_equations) (v0_eSet := v0_eSet) (v0_eRight := v0_eRight) (v0_levels := v0_levels) (v0_levelEquations := v0_levelEquations) (v0_levelClauses := v0_levelClauses) (v0_tape := v0_tape) (v0_tapeSize := v0_tapeSize) (v0_faultIs := v0_faultIs) (v0_faultAt := v0_faultAt) (v0_at := v0_at) (v0_newEquations := v0_newEquations) (v0_newClauses := v0_newClauses) (v0_newSet := v0_newSet) (v0_newRight := v0_newRight) (v0_newYes := v0_newYes) (v0_newNo := v0_newNo) (v0_lineYes := v0_lineYes) (v0_lineNo := v0_lineNo) (v0_rowCount := v0_rowCount) (v0_rSet := v0_rSet) (v0_rRight := v0_rRight) (v0_isImpossible := v0_isImpossible) (v0_sumSet := v0_sumSet) (v0_sumOf := v0_sumOf) (v0_sumRight := v0_sumRight) (v0_empty := v0_empty) (v0_empties := v0_empties) (v0_taken := v0_taken) (v0_ones := v0_ones) (v0_waitTaken := v0_waitTaken) (v0_waitOnes := v0_waitOnes) (v0_nodeCount := v0_nodeCount) (v0_lastModel := v0_lastModel) (v0_modelCount := v0_modelCount) (v0_modelIs := v0_modelIs) (v0_gSet := .ref q0_gSet) (v0_gateCount := .int f0_gateCount) (x1 := x4) (x3 := x6) (r0 := u_23) (hr0 := hu_24) (sz := H.size)) (cwV 2 hts gX8_findGates_X8_isGate rfl rfl rfl (by decide +kernel) ⟨Nat.le_of_ble_eq_true rfl, Nat.le_of_ble_eq_true rfl⟩) (kx_preV hEV hP hD [0, 1, 2] rfl (by decide) (k0 := 0) (ci := 8) rfl rfl rfl) rfl rfl hl.1 rfl (lv_room (Nat.le_of_ble_eq_true rfl)) dX8_findGates_128 ⟨Nat.le_of_ble_eq_true rfl, Nat.le_of_ble_eq_true rfl⟩) (fun _ H locs _ hP hD hS => ?_)
            refine lv_if_eq (tgt := 169) hx hb dX8_findGates_131 (by decide) (fun c_25 => ?_) (fun c_25 => ?_)
            · have k_26 : ¬ (u_23 = true) := (kx_z c_25)
              have h := cw_f k_26 h
              refine lv_iinc (v := x6 + (1 : Int32)) (lv' := [(6, .int (x6 + (1 : Int32))), (0, .ref q0), (3, .int (bI x3)), (4, .long x4)]) hx hb dX8_findGates_169 hl (k := 3) rfl rfl (by decide) rfl (fun ls hl => ?_)
              refine lv_goto (tgt := 113) hx hb dX8_findGates_172 (by decide) ?_
              exact ih.2.2 _ _ _ _ _ h _ _ _ hP hD hS (lv_sub hl [1, 2, 3, 0] rfl)
            · have k_26 : u_23 = true := (kx_nz c_25)
              have h := cw_t k_26 h
              refine lv_aload_n hx hb dX8_findGates_134 rfl (lv_at hl 0 rfl) ?_
              refine va_get (D := D) (ci := 8) (v := .ref q0_gSet) (C := RX8) (T := TX8) (N := 43) hx hb hts in_X8_findGates_X8 hown hK hP 0 rfl rfl 41 (by decide) lk_7 (fun _ h9 => h9) rfl dX8_findGates_135 ?_
              refine lv_aload_n hx hb dX8_findGates_138 rfl (lv_at hl 0 rfl) ?_
              refine va_get (D := D) (ci := 8) (v := .int f0_gateCount) (C := RX8) (T := TX8) (N := 43) hx hb hts in_X8_findGates_X8 hown hK hP 0 rfl rfl 42 (by decide) lk_0 (fun _ h9 => h9) rfl dX8_findGates_139 ?_
              refine lv_lload hx hb dX8_findGates_142 (lv_at hl 2 rfl) ?_
              refine lv_iload hx hb dX8_findGates_144 (lv_at hl 3 rfl) ?_
              refine lv_iconst (v := (1 : Int32)) hx hb dX8_findGates_146 (by decide) ?_
              refine lv_icmp_ne (tgt := 156) hx hb dX8_findGates_147 (by decide) (fun c_27 => ?_) (fun c_27 => ?_)
              · have k_28 : ¬ (x6 = (1 : Int32)) := c_27
                have h := cw_f k_28 h
                refine lv_lconst (v := (0 : Int64)) hx hb dX8_findGates_156 (by decide) ?_
                refine lv_lor hx hb dX8_findGates_157 ?_
                obtain ⟨b_29, h⟩ := cw_i h
                refine va_last hx hb hK hP hD hS 3 1 rfl rfl b_29 dX8_findGates_158 (fun H locs hP hD hS => ?_)
                have hP : va_P D vwCl [(q0, .inr (8, [v0_thrown, v0_n, v0_equations, v0_eSet, v0_eRight, .int f0_clauses, .ref q0_cYes, .ref q0_cNo, v0_levels, v0_levelEquations, v0_levelClauses, v0_tape, v0_tapeSize, v0_faultIs, v0_faultAt, v0_at, v0_newEquations, v0_newClauses, v0_newSet, v0_newRight, v0_newYes, v0_newNo, v0_lineYes, v0_lineNo, v0_rowCount, v0_rSet, v0_rRight, v0_isImpossible, v0_sumSet, v0_sumOf, v0_sumRight, v0_empty, v0_empties, v0_taken, v0_ones, v0_waitTaken, v0_waitOnes, v0_nodeCount, v0_lastModel, v0_modelCount, v0_modelIs, .ref q0_gSet, .int f0_gateCount])), (q0_cYes, .inl (cL, n0_cYes, .inr (.inl h0_cYes))), (q0_cNo, .inl (cL, n0_cNo, .inr (.inl h0_cNo))), (q0_gSet, .inl (cL, n0_gSet, .inr (.inl (vp_updL h0_gSet f0_gateCount.toNatClampNeg (x4 ||| (0 : Int64))))))] H := hP
                have hD : va_D A [(q0, .inr (8, [v0_thrown, v0_n, v0_equations, v0_eSet, v0_eRight, .int f0_clauses, .ref q0_cYes, .ref q0_cNo, v0_levels, v0_levelEquations, v0_levelClauses, v0_tape, v0_tapeSize, v0_faultIs, v0_faultAt, v0_at, v0_newEquations, v0_newClauses, v0_newSet, v0_newRight, v0_newYes, v0_newNo, v0_lineYes, v0_lineNo, v0_rowCount, v0_rSet, v0_rRight, v0_isImpossible, v0_sumSet, v0_sumOf, v0_sumRight, v0_empty, v0_empties, v0_taken, v0_ones, v0_waitTaken, v0_waitOnes, v0_nodeCount, v0_lastModel, v0_modelCount, v0_modelIs, .ref q0_gSet, .int f0_gateCount])), (q0_cYes, .inl (cL, n0_cYes, .inr (.inl h0_cYes))), (q0_cNo, .inl (cL, n0_cNo, .inr (.inl h0_cNo))), (q0_gSet, .inl (cL, n0_gSet, .inr (.inl (vp_updL h0_gSet f0_gateCount.toNatClampNeg (x4 ||| (0 : Int64))))))] := hD
                refine lv_aload_n hx hb dX8_findGates_159 rfl (lv_at hl 0 rfl) ?_
                refine lv_dup hx hb dX8_findGates_160 rfl ?_
                refine va_get (D := D) (ci := 8) (v := .int f0_gateCount) (C := RX8) (T := TX8) (N := 43) hx hb hts in_X8_findGates_X8 hown hK hP 0 rfl rfl 42 (by decide) lk_0 (fun _ h9 => h9) rfl dX8_findGates_161 ?_
                refine lv_iconst (v := (1 : Int32)) hx hb dX8_findGates_164 (by decide) ?_
                refine lv_iadd hx hb dX8_findGates_165 ?_
                refine va_put (D := D) (ci := 8) (v := .int (f0_gateCount + (1 : Int32))) (ty := .int) (C := RX8) (T := TX8) (N := 43) hx hb hts in_X8_findGates_X8 tyX8 tyX8_ok nmX8 hown hK hP hD hS 0 rfl rfl 42 (by decide) lk_0 (fun _ h9 => h9) rfl (by decide +kernel) rfl rfl (Nat.le_of_ble_eq_true rfl) dX8_findGates_166 (fun H locs hP hD hS => ?_)
                have hP : va_P D vwCl [(q0, .inr (8, [v0_thrown, v0_n, v0_equations, v0_eSet, v0_eRight, .int f0_clauses, .ref q0_cYes, .ref q0_cNo, v0_levels, v0_levelEquations, v0_levelClauses, v0_tape, v0_tapeSize, v0_faultIs, v0_faultAt, v0_at, v0_newEquations, v0_newClauses, v0_newSet, v0_newRight, v0_newYes, v0_newNo, v0_lineYes, v0_lineNo, v0_rowCount, v0_rSet, v0_rRight, v0_isImpossible, v0_sumSet, v0_sumOf, v0_sumRight, v0_empty, v0_empties, v0_taken, v0_ones, v0_waitTaken, v0_waitOnes, v0_nodeCount, v0_lastModel, v0_modelCount, v0_modelIs, .ref q0_gSet, .int (f0_gateCount + (1 : Int32))])), (q0_cYes, .inl (cL, n0_cYes, .inr (.inl h0_cYes))), (q0_cNo, .inl (cL, n0_cNo, .inr (.inl h0_cNo))), (q0_gSet, .inl (cL, n0_gSet, .inr (.inl (vp_updL h0_gSet f0_gateCount.toNatClampNeg (x4 ||| (0 : Int64))))))] H := hP
                have hD : va_D A [(q0, .inr (8, [v0_thrown, v0_n, v0_equations, v0_eSet, v0_eRight, .int f0_clauses, .ref q0_cYes, .ref q0_cNo, v0_levels, v0_levelEquations, v0_levelClauses, v0_tape, v0_tapeSize, v0_faultIs, v0_faultAt, v0_at, v0_newEquations, v0_newClauses, v0_newSet, v0_newRight, v0_newYes, v0_newNo, v0_lineYes, v0_lineNo, v0_rowCount, v0_rSet, v0_rRight, v0_isImpossible, v0_sumSet, v0_sumOf, v0_sumRight, v0_empty, v0_empties, v0_taken, v0_ones, v0_waitTaken, v0_waitOnes, v0_nodeCount, v0_lastModel, v0_modelCount, v0_modelIs, .ref q0_gSet, .int (f0_gateCount + (1 : Int32))])), (q0_cYes, .inl (cL, n0_cYes, .inr (.inl h0_cYes))), (q0_cNo, .inl (cL, n0_cNo, .inr (.inl h0_cNo))), (q0_gSet, .inl (cL, n0_gSet, .inr (.inl (vp_updL h0_gSet f0_gateCount.toNatClampNeg (x4 ||| (0 : Int64))))))] := hD
                refine lv_iinc (v := x6 + (1 : Int32)) (lv' := [(6, .int (x6 + (1 : Int32))), (0, .ref q0), (3, .int (bI x3)), (4, .long x4)]) hx hb dX8_findGates_169 hl (k := 3) rfl rfl (by decide) rfl (fun ls hl => ?_)
                refine lv_goto (tgt := 113) hx hb dX8_findGates_172 (by decide) ?_
                exact ih.2.2 _ _ _ _ _ h _ _ _ hP hD hS (lv_sub hl [1, 2, 3, 0] rfl)
              · have k_28 : x6 = (1 : Int32) := c_27
                have h := cw_t k_28 h
                refine lv_ldc2 hx hb hown lk_1 dX8_findGates_150 ?_
                refine lv_goto (tgt := 157) hx hb dX8_findGates_153 (by decide) ?_
                refine lv_lor hx hb dX8_findGates_157 ?_
                obtain ⟨b_30, h⟩ := cw_i h
                refine va_last hx hb hK hP hD hS 3 1 rfl rfl b_30 dX8_findGates_158 (fun H locs hP hD hS => ?_)
                have hP : va_P D vwCl [(q0, .inr (8, [v0_thrown, v0_n, v0_equations, v0_eSet, v0_eRight, .int f0_clauses, .ref q0_cYes, .ref q0_cNo, v0_levels, v0_levelEquations, v0_levelClauses, v0_tape, v0_tapeSize, v0_faultIs, v0_faultAt, v0_at, v0_newEquations, v0_newClauses, v0_newSet, v0_newRight, v0_newYes, v0_newNo, v0_lineYes, v0_lineNo, v0_rowCount, v0_rSet, v0_rRight, v0_isImpossible, v0_sumSet, v0_sumOf, v0_sumRight, v0_empty, v0_empties, v0_taken, v0_ones, v0_waitTaken, v0_waitOnes, v0_nodeCount, v0_lastModel, v0_modelCount, v0_modelIs, .ref q0_gSet, .int f0_gateCount])), (q0_cYes, .inl (cL, n0_cYes, .inr (.inl h0_cYes))), (q0_cNo, .inl (cL, n0_cNo, .inr (.inl h0_cNo))), (q0_gSet, .inl (cL, n0_gSet, .inr (.inl (vp_updL h0_gSet f0_gateCount.toNatClampNeg (x4 ||| (4611686018427387904 : Int64))))))] H := hP
                have hD : va_D A [(q0, .inr (8, [v0_thrown, v0_n, v0_equations, v0_eSet, v0_eRight, .int f0_clauses, .ref q0_cYes, .ref q0_cNo, v0_levels, v0_levelEquations, v0_levelClauses, v0_tape, v0_tapeSize, v0_faultIs, v0_faultAt, v0_at, v0_newEquations, v0_newClauses, v0_newSet, v0_newRight, v0_newYes, v0_newNo, v0_lineYes, v0_lineNo, v0_rowCount, v0_rSet, v0_rRight, v0_isImpossible, v0_sumSet, v0_sumOf, v0_sumRight, v0_empty, v0_empties, v0_taken, v0_ones, v0_waitTaken, v0_waitOnes, v0_nodeCount, v0_lastModel, v0_modelCount, v0_modelIs, .ref q0_gSet, .int f0_gateCount])), (q0_cYes, .inl (cL, n0_cYes, .inr (.inl h0_cYes))), (q0_cNo, .inl (cL, n0_cNo, .inr (.inl h0_cNo))), (q0_gSet, .inl (cL, n0_gSet, .inr (.inl (vp_updL h0_gSet f0_gateCount.toNatClampNeg (x4 ||| (4611686018427387904 : Int64))))))] := hD
                refine lv_aload_n hx hb dX8_findGates_159 rfl (lv_at hl 0 rfl) ?_
                refine lv_dup hx hb dX8_findGates_160 rfl ?_
                refine va_get (D := D) (ci := 8) (v := .int f0_gateCount) (C := RX8) (T := TX8) (N := 43) hx hb hts in_X8_findGates_X8 hown hK hP 0 rfl rfl 42 (by decide) lk_0 (fun _ h9 => h9) rfl dX8_findGates_161 ?_
                refine lv_iconst (v := (1 : Int32)) hx hb dX8_findGates_164 (by decide) ?_
                refine lv_iadd hx hb dX8_findGates_165 ?_
                refine va_put (D := D) (ci := 8) (v := .int (f0_gateCount + (1 : Int32))) (ty := .int) (C := RX8) (T := TX8) (N := 43) hx hb hts in_X8_findGates_X8 tyX8 tyX8_ok nmX8 hown hK hP hD hS 0 rfl rfl 42 (by decide) lk_0 (fun _ h9 => h9) rfl (by decide +kernel) rfl rfl (Nat.le_of_ble_eq_true rfl) dX8_findGates_166 (fun H locs hP hD hS => ?_)
                have hP : va_P D vwCl [(q0, .inr (8, [v0_thrown, v0_n, v0_equations, v0_eSet, v0_eRight, .int f0_clauses, .ref q0_cYes, .ref q0_cNo, v0_levels, v0_levelEquations, v0_levelClauses, v0_tape, v0_tapeSize, v0_faultIs, v0_faultAt, v0_at, v0_newEquations, v0_newClauses, v0_newSet, v0_newRight, v0_newYes, v0_newNo, v0_lineYes, v0_lineNo, v0_rowCount, v0_rSet, v0_rRight, v0_isImpossible, v0_sumSet, v0_sumOf, v0_sumRight, v0_empty, v0_empties, v0_taken, v0_ones, v0_waitTaken, v0_waitOnes, v0_nodeCount, v0_lastModel, v0_modelCount, v0_modelIs, .ref q0_gSet, .int (f0_gateCount + (1 : Int32))])), (q0_cYes, .inl (cL, n0_cYes, .inr (.inl h0_cYes))), (q0_cNo, .inl (cL, n0_cNo, .inr (.inl h0_cNo))), (q0_gSet, .inl (cL, n0_gSet, .inr (.inl (vp_updL h0_gSet f0_gateCount.toNatClampNeg (x4 ||| (4611686018427387904 : Int64))))))] H := hP
                have hD : va_D A [(q0, .inr (8, [v0_thrown, v0_n, v0_equations, v0_eSet, v0_eRight, .int f0_clauses, .ref q0_cYes, .ref q0_cNo, v0_levels, v0_levelEquations, v0_levelClauses, v0_tape, v0_tapeSize, v0_faultIs, v0_faultAt, v0_at, v0_newEquations, v0_newClauses, v0_newSet, v0_newRight, v0_newYes, v0_newNo, v0_lineYes, v0_lineNo, v0_rowCount, v0_rSet, v0_rRight, v0_isImpossible, v0_sumSet, v0_sumOf, v0_sumRight, v0_empty, v0_empties, v0_taken, v0_ones, v0_waitTaken, v0_waitOnes, v0_nodeCount, v0_lastModel, v0_modelCount, v0_modelIs, .ref q0_gSet, .int (f0_gateCount + (1 : Int32))])), (q0_cYes, .inl (cL, n0_cYes, .inr (.inl h0_cYes))), (q0_cNo, .inl (cL, n0_cNo, .inr (.inl h0_cNo))), (q0_gSet, .inl (cL, n0_gSet, .inr (.inl (vp_updL h0_gSet f0_gateCount.toNatClampNeg (x4 ||| (4611686018427387904 : Int64))))))] := hD
                refine lv_iinc (v := x6 + (1 : Int32)) (lv' := [(6, .int (x6 + (1 : Int32))), (0, .ref q0), (3, .int (bI x3)), (4, .long x4)]) hx hb dX8_findGates_169 hl (k := 3) rfl rfl (by decide) rfl (fun ls hl => ?_)
                refine lv_goto (tgt := 113) hx hb dX8_findGates_172 (by decide) ?_
                exact ih.2.2 _ _ _ _ _ h _ _ _ hP hD hS (lv_sub hl [1, 2, 3, 0] rfl)
  have h := hr0
  unfold D_X8_findGates at h
  refine lv_aload_n hx hb dX8_findGates_0 rfl (lv_at hl 0 rfl) ?_
  refine lv_iconst (v := (0 : Int32)) hx hb dX8_findGates_1 (by decide) ?_
  refine va_put (D := D) (ci := 8) (v := .int (0 : Int32)) (ty := .int) (C := RX8) (T := TX8) (N := 43) hx hb hts in_X8_findGates_X8 tyX8 tyX8_ok nmX8 hown hK hP hD hS 0 rfl rfl 42 (by decide) lk_0 (fun _ h9 => h9) rfl (by decide +kernel) rfl rfl (Nat.le_of_ble_eq_true rfl) dX8_findGates_2 (fun H locs hP hD hS => ?_)
  have hP : va_P D vwCl [(q0, .inr (8, [v0_thrown, v0_n, v0_equations, v0_eSet, v0_eRight, .int f0_clauses, .ref q0_cYes, .ref q0_cNo, v0_levels, v0_levelEquations, v0_levelClauses, v0_tape, v0_tapeSize, v0_faultIs, v0_faultAt, v0_at, v0_newEquations, v0_newClauses, v0_newSet, v0_newRight, v0_newYes, v0_newNo, v0_lineYes, v0_lineNo, v0_rowCount, v0_rSet, v0_rRight, v0_isImpossible, v0_sumSet, v0_sumOf, v0_sumRight, v0_empty, v0_empties, v0_taken, v0_ones, v0_waitTaken, v0_waitOnes, v0_nodeCount, v0_lastModel, v0_modelCount, v0_modelIs, .ref q0_gSet, .int (0 : Int32)])), (q0_cYes, .inl (cL, n0_cYes, .inr (.inl h0_cYes))), (q0_cNo, .inl (cL, n0_cNo, .inr (.inl h0_cNo))), (q0_gSet, .inl (cL, n0_gSet, .inr (.inl h0_gSet)))] H := hP
  have hD : va_D A [(q0, .inr (8, [v0_thrown, v0_n, v0_equations, v0_eSet, v0_eRight, .int f0_clauses, .ref q0_cYes, .ref q0_cNo, v0_levels, v0_levelEquations, v0_levelClauses, v0_tape, v0_tapeSize, v0_faultIs, v0_faultAt, v0_at, v0_newEquations, v0_newClauses, v0_newSet, v0_newRight, v0_newYes, v0_newNo, v0_lineYes, v0_lineNo, v0_rowCount, v0_rSet, v0_rRight, v0_isImpossible, v0_sumSet, v0_sumOf, v0_sumRight, v0_empty, v0_empties, v0_taken, v0_ones, v0_waitTaken, v0_waitOnes, v0_nodeCount, v0_lastModel, v0_modelCount, v0_modelIs, .ref q0_gSet, .int (0 : Int32)])), (q0_cYes, .inl (cL, n0_cYes, .inr (.inl h0_cYes))), (q0_cNo, .inl (cL, n0_cNo, .inr (.inl h0_cNo))), (q0_gSet, .inl (cL, n0_gSet, .inr (.inl h0_gSet)))] := hD
  refine lv_lconst (v := (0 : Int64)) hx hb dX8_findGates_5 (by decide) ?_
  refine lv_lstore_n (lv' := [(1, .long (0 : Int64)), (0, .ref q0)]) hx hb dX8_findGates_6 rfl hl (by decide) rfl (fun ls hl => ?_)
  refine lv_iconst (v := (1 : Int32)) hx hb dX8_findGates_7 (by decide) ?_
  refine lv_istore_n (lv' := [(3, .int (1 : Int32)), (1, .long (0 : Int64)), (0, .ref q0)]) hx hb dX8_findGates_8 rfl hl (by decide) rfl (fun ls hl => ?_)
  obtain ⟨n9, hn9⟩ := runw_some h
  exact (hloop n9).1 _ _ _ _ hn9 _ _ _ hP hD hS (lv_sub hl [2, 1, 0] rfl)
theorem in_X8_gates_X8 : ∀ w ∈ wsX80, w ∈ wsX8_gates := by decide +kernel
theorem lk_0_X8_gates : Cond.fieldLink RX8 81 "ParityClausesModel" "thrown" "I" ∈ wsX8_gates := by decide +kernel
theorem lk_1_X8_gates : Cond.fieldLink RX8 243 "ParityClausesModel" "gateCount" "I" ∈ wsX8_gates := by decide +kernel
abbrev rm_X8_gates : Room := { frames := 4, cells := 0, slots := 0, locals := 99 }
set_option maxHeartbeats 4000000 in
set_option maxRecDepth 100000 in
theorem cm_X8_gates (l : Launch) (D : va_G) (cI cL : ClassId) (q0 q0_cYes q0_cNo q0_gSet : Nat) (n0_cYes n0_cNo n0_gSet : Nat) (f0_thrown : Int32) (f0_clauses : Int32) (f0_gateCount : Int32) (h0_cYes : Nat → Int64) (h0_cNo : Nat → Int64) (h0_gSet : Nat → Int64) (v0_n v0_equations v0_eSet v0_eRight v0_levels v0_levelEquations v0_levelClauses v0_tape v0_tapeSize v0_faultIs v0_faultAt v0_at v0_newEquations v0_newClauses v0_newSet v0_newRight v0_newYes v0_newNo v0_lineYes v0_lineNo v0_rowCount v0_rSet v0_rRight v0_isImpossible v0_sumSet v0_sumOf v0_sumRight v0_empty v0_empties v0_taken v0_ones v0_waitTaken v0_waitOnes v0_nodeCount v0_lastModel v0_modelCount v0_modelIs : Value) (r0 : Int32 × Int32 × Int32 × (Nat → Int64)) (hr0 : D_X8_gates f0_thrown f0_clauses f0_gateCount n0_cYes h0_cYes n0_cNo h0_cNo n0_gSet h0_gSet = some r0) (sz : Nat) : Met l yX8_gates wsX8_gates rm_X8_gates (PcW D cI cL [.ref q0] [(q0, .inr (8, [.int f0_thrown, v0_n, v0_equations, v0_eSet, v0_eRight, .int f0_clauses, .ref q0_cYes, .ref q0_cNo, v0_levels, v0_levelEquations, v0_levelClauses, v0_tape, v0_tapeSize, v0_faultIs, v0_faultAt, v0_at, v0_newEquations, v0_newClauses, v0_newSet, v0_newRight, v0_newYes, v0_newNo, v0_lineYes, v0_lineNo, v0_rowCount, v0_rSet, v0_rRight, v0_isImpossible, v0_sumSet, v0_sumOf, v0_sumRight, v0_empty, v0_empties, v0_taken, v0_ones, v0_waitTaken, v0_waitOnes, v0_nodeCount, v0_lastModel, v0_modelCount, v0_modelIs, .ref q0_gSet, .int f0_gateCount])), (q0_cYes, .inl (cL, n0_cYes, .inr (.inl h0_cYes))), (q0_cNo, .inl (cL, n0_cNo, .inr (.inl h0_cNo))), (q0_gSet, .inl (cL, n0_gSet, .inr (.inl h0_gSet)))] sz) (QiW D [(q0, .inr (8, [.int f0_thrown, v0_n, v0_equations, v0_eSet, v0_eRight, .int f0_clauses, .ref q0_cYes, .ref q0_cNo, v0_levels, v0_levelEquations, v0_levelClauses, v0_tape, v0_tapeSize, v0_faultIs, v0_faultAt, v0_at, v0_newEquations, v0_newClauses, v0_newSet, v0_newRight, v0_newYes, v0_newNo, v0_lineYes, v0_lineNo, v0_rowCount, v0_rSet, v0_rRight, v0_isImpossible, v0_sumSet, v0_sumOf, v0_sumRight, v0_empty, v0_empties, v0_taken, v0_ones, v0_waitTaken, v0_waitOnes, v0_nodeCount, v0_lastModel, v0_modelCount, v0_modelIs, .ref q0_gSet, .int f0_gateCount])), (q0_cYes, .inl (cL, n0_cYes, .inr (.inl h0_cYes))), (q0_cNo, .inl (cL, n0_cNo, .inr (.inl h0_cNo))), (q0_gSet, .inl (cL, n0_gSet, .inr (.inl h0_gSet)))] r0.1 (fun _ : Unit => [(q0, .inr (8, [.int r0.2.1, v0_n, v0_equations, v0_eSet, v0_eRight, .int f0_clauses, .ref q0_cYes, .ref q0_cNo, v0_levels, v0_levelEquations, v0_levelClauses, v0_tape, v0_tapeSize, v0_faultIs, v0_faultAt, v0_at, v0_newEquations, v0_newClauses, v0_newSet, v0_newRight, v0_newYes, v0_newNo, v0_lineYes, v0_lineNo, v0_rowCount, v0_rSet, v0_rRight, v0_isImpossible, v0_sumSet, v0_sumOf, v0_sumRight, v0_empty, v0_empties, v0_taken, v0_ones, v0_waitTaken, v0_waitOnes, v0_nodeCount, v0_lastModel, v0_modelCount, v0_modelIs, .ref q0_gSet, .int r0.2.2.1])), (q0_cYes, .inl (cL, n0_cYes, .inr (.inl h0_cYes))), (q0_cNo, .inl (cL, n0_cNo, .inr (.inl h0_cNo))), (q0_gSet, .inl (cL, n0_gSet, .inr (.inl r0.2.2.2)))]) tU sz) 0 0 (va_A [(q0, .inr (8, [.int f0_thrown, v0_n, v0_equations, v0_eSet, v0_eRight, .int f0_clauses, .ref q0_cYes, .ref q0_cNo, v0_levels, v0_levelEquations, v0_levelClauses, v0_tape, v0_tapeSize, v0_faultIs, v0_faultAt, v0_at, v0_newEquations, v0_newClauses, v0_newSet, v0_newRight, v0_newYes, v0_newNo, v0_lineYes, v0_lineNo, v0_rowCount, v0_rSet, v0_rRight, v0_isImpossible, v0_sumSet, v0_sumOf, v0_sumRight, v0_empty, v0_empties, v0_taken, v0_ones, v0_waitTaken, v0_waitOnes, v0_nodeCount, v0_lastModel, v0_modelCount, v0_modelIs, .ref q0_gSet, .int f0_gateCount])), (q0_cYes, .inl (cL, n0_cYes, .inr (.inl h0_cYes))), (q0_cNo, .inl (cL, n0_cNo, .inr (.inl h0_cNo))), (q0_gSet, .inl (cL, n0_gSet, .inr (.inl h0_gSet)))] sz) := by
  refine Met.ofW (cc := cX8_gates) (maxL := 1) (ret := (some .int)) (by decide) rfl ?_
  intro p e s m args below meth c s₁ B hml hv
  obtain ⟨hargs, hsz, hP, hEV, hD0⟩ := hv
  have hx := B.exec
  have hb := B.bytes
  have hr := B.returns
  have hts := atoms_spec (ws := wsX8_gates) B.pre
  have hown : s.vm.findClass RX8 = some m.cls := findClass_of_methodNamed B.named
  have hlocks := B.notSynchronized
  have hK := hEV.K
  have lk_0 := hts _ lk_0_X8_gates
  have lk_1 := hts _ lk_1_X8_gates
  subst hsz
  unfold QiW PoW
  have hD := hD0.self (sz := s.heap.size)
  generalize hAe : va_A [(q0, .inr (8, [.int f0_thrown, v0_n, v0_equations, v0_eSet, v0_eRight, .int f0_clauses, .ref q0_cYes, .ref q0_cNo, v0_levels, v0_levelEquations, v0_levelClauses, v0_tape, v0_tapeSize, v0_faultIs, v0_faultAt, v0_at, v0_newEquations, v0_newClauses, v0_newSet, v0_newRight, v0_newYes, v0_newNo, v0_lineYes, v0_lineNo, v0_rowCount, v0_rSet, v0_rRight, v0_isImpossible, v0_sumSet, v0_sumOf, v0_sumRight, v0_empty, v0_empties, v0_taken, v0_ones, v0_waitTaken, v0_waitOnes, v0_nodeCount, v0_lastModel, v0_modelCount, v0_modelIs, .ref q0_gSet, .int f0_gateCount])), (q0_cYes, .inl (cL, n0_cYes, .inr (.inl h0_cYes))), (q0_cNo, .inl (cL, n0_cNo, .inr (.inl h0_cNo))), (q0_gSet, .inl (cL, n0_gSet, .inr (.inl h0_gSet)))] s.heap.size = A at hD ⊢
  have hA : ∀ q : Nat, s.heap.size ≤ q → A q := fun q h => by rw [← hAe]; exact Or.inr h
  have hent : entryFrame m args 1 = entryFrame m ([.ref q0] : List Value).toArray 1 := by rw [hargs]
  rw [hent]
  refine kx_Q (fun Q hQ => ?_)
  refine kx_H (fun H hH => ?_)
  have hP : va_P D vwCl [(q0, .inr (8, [.int f0_thrown, v0_n, v0_equations, v0_eSet, v0_eRight, .int f0_clauses, .ref q0_cYes, .ref q0_cNo, v0_levels, v0_levelEquations, v0_levelClauses, v0_tape, v0_tapeSize, v0_faultIs, v0_faultAt, v0_at, v0_newEquations, v0_newClauses, v0_newSet, v0_newRight, v0_newYes, v0_newNo, v0_lineYes, v0_lineNo, v0_rowCount, v0_rSet, v0_rRight, v0_isImpossible, v0_sumSet, v0_sumOf, v0_sumRight, v0_empty, v0_empties, v0_taken, v0_ones, v0_waitTaken, v0_waitOnes, v0_nodeCount, v0_lastModel, v0_modelCount, v0_modelIs, .ref q0_gSet, .int f0_gateCount])), (q0_cYes, .inl (cL, n0_cYes, .inr (.inl h0_cYes))), (q0_cNo, .inl (cL, n0_cNo, .inr (.inl h0_cNo))), (q0_gSet, .inl (cL, n0_gSet, .inr (.inl h0_gSet)))] H := by rw [hH]; exact hP
  have hS : va_S A s.heap H [] := by rw [hH]; exact va_S.rf
  have hl := lv_entry ([.ref q0]) (n := 1) (Nat.le_of_ble_eq_true rfl)
  rw [lg_entry_eq]
  generalize (lg_sl ([.ref q0]) ++ List.replicate (1 - (lg_sl ([.ref q0])).length) Slot.unset).toArray = ls at hl ⊢
  have hl : lv_has ls 1 [(0, .ref q0)] := hl
  have h := hr0
  unfold D_X8_gates at h
  refine lv_aload_n hx hb dX8_gates_0 rfl (lv_at hl 0 rfl) ?_
  refine lv_iconst (v := (0 : Int32)) hx hb dX8_gates_1 (by decide) ?_
  refine va_put (D := D) (ci := 8) (v := .int (0 : Int32)) (ty := .int) (C := RX8) (T := TX8) (N := 43) hx hb hts in_X8_gates_X8 tyX8 tyX8_ok nmX8 hown hK hP hD hS 0 rfl rfl 0 (by decide) lk_0 (fun _ h9 => h9) rfl (by decide +kernel) rfl rfl (Nat.le_of_ble_eq_true rfl) dX8_gates_2 (fun H locs hP hD hS => ?_)
  have hP : va_P D vwCl [(q0, .inr (8, [.int (0 : Int32), v0_n, v0_equations, v0_eSet, v0_eRight, .int f0_clauses, .ref q0_cYes, .ref q0_cNo, v0_levels, v0_levelEquations, v0_levelClauses, v0_tape, v0_tapeSize, v0_faultIs, v0_faultAt, v0_at, v0_newEquations, v0_newClauses, v0_newSet, v0_newRight, v0_newYes, v0_newNo, v0_lineYes, v0_lineNo, v0_rowCount, v0_rSet, v0_rRight, v0_isImpossible, v0_sumSet, v0_sumOf, v0_sumRight, v0_empty, v0_empties, v0_taken, v0_ones, v0_waitTaken, v0_waitOnes, v0_nodeCount, v0_lastModel, v0_modelCount, v0_modelIs, .ref q0_gSet, .int f0_gateCount])), (q0_cYes, .inl (cL, n0_cYes, .inr (.inl h0_cYes))), (q0_cNo, .inl (cL, n0_cNo, .inr (.inl h0_cNo))), (q0_gSet, .inl (cL, n0_gSet, .inr (.inl h0_gSet)))] H := hP
  have hD : va_D A [(q0, .inr (8, [.int (0 : Int32), v0_n, v0_equations, v0_eSet, v0_eRight, .int f0_clauses, .ref q0_cYes, .ref q0_cNo, v0_levels, v0_levelEquations, v0_levelClauses, v0_tape, v0_tapeSize, v0_faultIs, v0_faultAt, v0_at, v0_newEquations, v0_newClauses, v0_newSet, v0_newRight, v0_newYes, v0_newNo, v0_lineYes, v0_lineNo, v0_rowCount, v0_rSet, v0_rRight, v0_isImpossible, v0_sumSet, v0_sumOf, v0_sumRight, v0_empty, v0_empties, v0_taken, v0_ones, v0_waitTaken, v0_waitOnes, v0_nodeCount, v0_lastModel, v0_modelCount, v0_modelIs, .ref q0_gSet, .int f0_gateCount])), (q0_cYes, .inl (cL, n0_cYes, .inr (.inl h0_cYes))), (q0_cNo, .inl (cL, n0_cNo, .inr (.inl h0_cNo))), (q0_gSet, .inl (cL, n0_gSet, .inr (.inl h0_gSet)))] := hD
  refine lv_aload_n hx hb dX8_gates_5 rfl (lv_at hl 0 rfl) ?_
  obtain ⟨u_1, hu_2, h⟩ := co_b h
  refine kx_v (ws' := fun _ => [(q0, .inr (8, [.int (0 : Int32), v0_n, v0_equations, v0_eSet, v0_eRight, .int f0_clauses, .ref q0_cYes, .ref q0_cNo, v0_levels, v0_levelEquations, v0_levelClauses, v0_tape, v0_tapeSize, v0_faultIs, v0_faultAt, v0_at, v0_newEquations, v0_newClauses, v0_newSet, v0_newRight, v0_newYes, v0_newNo, v0_lineYes, v0_lineNo, v0_rowCount, v0_rSet, v0_rRight, v0_isImpossible, v0_sumSet, v0_sumOf, v0_sumRight, v0_empty, v0_empties, v0_taken, v0_ones, v0_waitTaken, v0_waitOnes, v0_nodeCount, v0_lastModel, v0_modelCount, v0_modelIs, .ref q0_gSet, .int u_1.1])), (q0_cYes, .inl (cL, n0_cYes, .inr (.inl h0_cYes))), (q0_cNo, .inl (cL, n0_cNo, .inr (.inl h0_cNo))), (q0_gSet, .inl (cL, n0_gSet, .inr (.inl u_1.2)))]) hP hD hS hA [0, 1, 2, 3] [] [0, 1, 2, 3] rfl rfl (by decide) (by decide) (fun _ => rfl) (by decide) (va_runV (As := []) (rest := []) ⟨hx, hb, hml, hown, hts⟩ (cm_X8_findGates l D cI cL (q0 := q0) (q0_cYes := q0_cYes) (q0_cNo := q0_cNo) (q0_gSet := q0_gSet) (n0_cYes := n0_cYes) (n0_cNo := n0_cNo) (n0_gSet := n0_gSet) (f0_clauses := f0_clauses) (f0_gateCount := f0_gateCount) (h0_cYes := h0_cYes) (h0_cNo := h0_cNo) (h0_gSet := h0_gSet) (v0_thrown := .int (0 : Int32)) (v0_n := v0_n) (v0_equations := v0_equations) (v0_eSet := v0_eSet) (v0_eRight := v0_eRight) (v0_levels := v0_levels) (v0_levelEquations := v0_levelEquations) (v0_levelClauses := v0_levelClauses) (v0_tape := v0_tape) (v0_tapeSize := v0_tapeSize) (v0_faultIs := v0_faultIs) (v0_faultAt := v0_faultAt) (v0_at := v0_at) (v0_newEquations := v0_newEquations) (v0_newClauses := v0_newClauses) (v0_newSet := v0_newSet) (v0_newRight := v0_newRight) (v0_newYes := v0_newYes) (v0_newNo := v0_newNo) (v0_lineYes := v0_lineYes) (v0_lineNo := v0_lineNo) (v0_rowCount := v0_rowCount) (v0_rSet := v0_rSet) (v0_rRight := v0_rRight) (v0_isImpossible := v0_isImpossible) (v0_sumSet := v0_sumSet) (v0_sumOf := v0_sumOf) (v0_sumRight := v0_sumRight) (v0_empty := v0_empty) (v0_empties := v0_empties) (v0_taken := v0_taken) (v0_ones := v0_ones) (v0_waitTaken := v0_waitTaken) (v0_waitOnes := v0_waitOnes) (v0_nodeCount := v0_nodeCount) (v0_lastModel := v0_lastModel) (v0_modelCount := v0_modelCount) (v0_modelIs := v0_modelIs) (r0 := u_1) (hr0 := hu_2) (sz := H.size)) (cwV 0 hts gX8_gates_X8_findGates rfl rfl rfl (by decide +kernel) ⟨Nat.le_of_ble_eq_true rfl, Nat.le_of_ble_eq_true rfl⟩) (kx_preV hEV hP hD [0, 1, 2, 3] rfl (by decide) (k0 := 0) (ci := 8) rfl rfl rfl) rfl rfl hl.1 rfl (lv_room (Nat.le_of_ble_eq_true rfl)) dX8_gates_6 ⟨Nat.le_of_ble_eq_true rfl, Nat.le_of_ble_eq_true rfl⟩) (fun _ H locs _ hP hD hS => ?_)
  refine lv_aload_n hx hb dX8_gates_9 rfl (lv_at hl 0 rfl) ?_
  refine va_get (D := D) (ci := 8) (v := .int u_1.1) (C := RX8) (T := TX8) (N := 43) hx hb hts in_X8_gates_X8 hown hK hP 0 rfl rfl 42 (by decide) lk_1 (fun _ h9 => h9) rfl dX8_gates_10 ?_
  have h := Option.some.inj h
  subst h
  subst hQ
  exact W.iret (v := u_1.1) hx hb hr (fun t ht hW => ⟨⟨u_1.1, (), rfl, ⟨rfl, trivial⟩, by rw [ht]; exact hP, hD⟩, hS.F ht⟩) hS.2.2 dX8_gates_13
theorem in_X8_gate_X8 : ∀ w ∈ wsX80, w ∈ wsX8_gate := by decide +kernel
theorem lk_0_X8_gate : Cond.fieldLink RX8 243 "ParityClausesModel" "gateCount" "I" ∈ wsX8_gate := by decide +kernel
theorem lk_1_X8_gate : Cond.fieldLink RX8 74 "ParityClausesModel" "gSet" "[J" ∈ wsX8_gate := by decide +kernel
abbrev rm_X8_gate : Room := { frames := 4, cells := 0, slots := 0, locals := 99 }
set_option maxHeartbeats 4000000 in
set_option maxRecDepth 100000 in
theorem cm_X8_gate (l : Launch) (D : va_G) (cI cL : ClassId) (q0 q0_cYes q0_cNo q0_gSet : Nat) (n0_cYes n0_cNo n0_gSet : Nat) (f0_thrown : Int32) (f0_clauses : Int32) (f0_gateCount : Int32) (h0_cYes : Nat → Int64) (h0_cNo : Nat → Int64) (h0_gSet : Nat → Int64) (v0_n v0_equations v0_eSet v0_eRight v0_levels v0_levelEquations v0_levelClauses v0_tape v0_tapeSize v0_faultIs v0_faultAt v0_at v0_newEquations v0_newClauses v0_newSet v0_newRight v0_newYes v0_newNo v0_lineYes v0_lineNo v0_rowCount v0_rSet v0_rRight v0_isImpossible v0_sumSet v0_sumOf v0_sumRight v0_empty v0_empties v0_taken v0_ones v0_waitTaken v0_waitOnes v0_nodeCount v0_lastModel v0_modelCount v0_modelIs : Value) (x1 : Int32) (r0 : Int64 × Int32 × Int32 × (Nat → Int64)) (hr0 : D_X8_gate f0_thrown f0_clauses f0_gateCount n0_cYes h0_cYes n0_cNo h0_cNo n0_gSet h0_gSet x1 = some r0) (sz : Nat) : Met l yX8_gate wsX8_gate rm_X8_gate (PcW D cI cL [.ref q0, .int x1] [(q0, .inr (8, [.int f0_thrown, v0_n, v0_equations, v0_eSet, v0_eRight, .int f0_clauses, .ref q0_cYes, .ref q0_cNo, v0_levels, v0_levelEquations, v0_levelClauses, v0_tape, v0_tapeSize, v0_faultIs, v0_faultAt, v0_at, v0_newEquations, v0_newClauses, v0_newSet, v0_newRight, v0_newYes, v0_newNo, v0_lineYes, v0_lineNo, v0_rowCount, v0_rSet, v0_rRight, v0_isImpossible, v0_sumSet, v0_sumOf, v0_sumRight, v0_empty, v0_empties, v0_taken, v0_ones, v0_waitTaken, v0_waitOnes, v0_nodeCount, v0_lastModel, v0_modelCount, v0_modelIs, .ref q0_gSet, .int f0_gateCount])), (q0_cYes, .inl (cL, n0_cYes, .inr (.inl h0_cYes))), (q0_cNo, .inl (cL, n0_cNo, .inr (.inl h0_cNo))), (q0_gSet, .inl (cL, n0_gSet, .inr (.inl h0_gSet)))] sz) (QlW D [(q0, .inr (8, [.int f0_thrown, v0_n, v0_equations, v0_eSet, v0_eRight, .int f0_clauses, .ref q0_cYes, .ref q0_cNo, v0_levels, v0_levelEquations, v0_levelClauses, v0_tape, v0_tapeSize, v0_faultIs, v0_faultAt, v0_at, v0_newEquations, v0_newClauses, v0_newSet, v0_newRight, v0_newYes, v0_newNo, v0_lineYes, v0_lineNo, v0_rowCount, v0_rSet, v0_rRight, v0_isImpossible, v0_sumSet, v0_sumOf, v0_sumRight, v0_empty, v0_empties, v0_taken, v0_ones, v0_waitTaken, v0_waitOnes, v0_nodeCount, v0_lastModel, v0_modelCount, v0_modelIs, .ref q0_gSet, .int f0_gateCount])), (q0_cYes, .inl (cL, n0_cYes, .inr (.inl h0_cYes))), (q0_cNo, .inl (cL, n0_cNo, .inr (.inl h0_cNo))), (q0_gSet, .inl (cL, n0_gSet, .inr (.inl h0_gSet)))] r0.1 (fun _ : Unit => [(q0, .inr (8, [.int r0.2.1, v0_n, v0_equations, v0_eSet, v0_eRight, .int f0_clauses, .ref q0_cYes, .ref q0_cNo, v0_levels, v0_levelEquations, v0_levelClauses, v0_tape, v0_tapeSize, v0_faultIs, v0_faultAt, v0_at, v0_newEquations, v0_newClauses, v0_newSet, v0_newRight, v0_newYes, v0_newNo, v0_lineYes, v0_lineNo, v0_rowCount, v0_rSet, v0_rRight, v0_isImpossible, v0_sumSet, v0_sumOf, v0_sumRight, v0_empty, v0_empties, v0_taken, v0_ones, v0_waitTaken, v0_waitOnes, v0_nodeCount, v0_lastModel, v0_modelCount, v0_modelIs, .ref q0_gSet, .int r0.2.2.1])), (q0_cYes, .inl (cL, n0_cYes, .inr (.inl h0_cYes))), (q0_cNo, .inl (cL, n0_cNo, .inr (.inl h0_cNo))), (q0_gSet, .inl (cL, n0_gSet, .inr (.inl r0.2.2.2)))]) tU sz) 0 0 (va_A [(q0, .inr (8, [.int f0_thrown, v0_n, v0_equations, v0_eSet, v0_eRight, .int f0_clauses, .ref q0_cYes, .ref q0_cNo, v0_levels, v0_levelEquations, v0_levelClauses, v0_tape, v0_tapeSize, v0_faultIs, v0_faultAt, v0_at, v0_newEquations, v0_newClauses, v0_newSet, v0_newRight, v0_newYes, v0_newNo, v0_lineYes, v0_lineNo, v0_rowCount, v0_rSet, v0_rRight, v0_isImpossible, v0_sumSet, v0_sumOf, v0_sumRight, v0_empty, v0_empties, v0_taken, v0_ones, v0_waitTaken, v0_waitOnes, v0_nodeCount, v0_lastModel, v0_modelCount, v0_modelIs, .ref q0_gSet, .int f0_gateCount])), (q0_cYes, .inl (cL, n0_cYes, .inr (.inl h0_cYes))), (q0_cNo, .inl (cL, n0_cNo, .inr (.inl h0_cNo))), (q0_gSet, .inl (cL, n0_gSet, .inr (.inl h0_gSet)))] sz) := by
  refine Met.ofW (cc := cX8_gate) (maxL := 2) (ret := (some .long)) (by decide) rfl ?_
  intro p e s m args below meth c s₁ B hml hv
  obtain ⟨hargs, hsz, hP, hEV, hD0⟩ := hv
  have hx := B.exec
  have hb := B.bytes
  have hr := B.returns
  have hts := atoms_spec (ws := wsX8_gate) B.pre
  have hown : s.vm.findClass RX8 = some m.cls := findClass_of_methodNamed B.named
  have hlocks := B.notSynchronized
  have hK := hEV.K
  have lk_0 := hts _ lk_0_X8_gate
  have lk_1 := hts _ lk_1_X8_gate
  subst hsz
  unfold QlW PoW
  have hD := hD0.self (sz := s.heap.size)
  generalize hAe : va_A [(q0, .inr (8, [.int f0_thrown, v0_n, v0_equations, v0_eSet, v0_eRight, .int f0_clauses, .ref q0_cYes, .ref q0_cNo, v0_levels, v0_levelEquations, v0_levelClauses, v0_tape, v0_tapeSize, v0_faultIs, v0_faultAt, v0_at, v0_newEquations, v0_newClauses, v0_newSet, v0_newRight, v0_newYes, v0_newNo, v0_lineYes, v0_lineNo, v0_rowCount, v0_rSet, v0_rRight, v0_isImpossible, v0_sumSet, v0_sumOf, v0_sumRight, v0_empty, v0_empties, v0_taken, v0_ones, v0_waitTaken, v0_waitOnes, v0_nodeCount, v0_lastModel, v0_modelCount, v0_modelIs, .ref q0_gSet, .int f0_gateCount])), (q0_cYes, .inl (cL, n0_cYes, .inr (.inl h0_cYes))), (q0_cNo, .inl (cL, n0_cNo, .inr (.inl h0_cNo))), (q0_gSet, .inl (cL, n0_gSet, .inr (.inl h0_gSet)))] s.heap.size = A at hD ⊢
  have hA : ∀ q : Nat, s.heap.size ≤ q → A q := fun q h => by rw [← hAe]; exact Or.inr h
  have hent : entryFrame m args 2 = entryFrame m ([.ref q0, .int x1] : List Value).toArray 2 := by rw [hargs]
  rw [hent]
  refine kx_Q (fun Q hQ => ?_)
  refine kx_H (fun H hH => ?_)
  have hP : va_P D vwCl [(q0, .inr (8, [.int f0_thrown, v0_n, v0_equations, v0_eSet, v0_eRight, .int f0_clauses, .ref q0_cYes, .ref q0_cNo, v0_levels, v0_levelEquations, v0_levelClauses, v0_tape, v0_tapeSize, v0_faultIs, v0_faultAt, v0_at, v0_newEquations, v0_newClauses, v0_newSet, v0_newRight, v0_newYes, v0_newNo, v0_lineYes, v0_lineNo, v0_rowCount, v0_rSet, v0_rRight, v0_isImpossible, v0_sumSet, v0_sumOf, v0_sumRight, v0_empty, v0_empties, v0_taken, v0_ones, v0_waitTaken, v0_waitOnes, v0_nodeCount, v0_lastModel, v0_modelCount, v0_modelIs, .ref q0_gSet, .int f0_gateCount])), (q0_cYes, .inl (cL, n0_cYes, .inr (.inl h0_cYes))), (q0_cNo, .inl (cL, n0_cNo, .inr (.inl h0_cNo))), (q0_gSet, .inl (cL, n0_gSet, .inr (.inl h0_gSet)))] H := by rw [hH]; exact hP
  have hS : va_S A s.heap H [] := by rw [hH]; exact va_S.rf
  have hl := lv_entry ([.ref q0, .int x1]) (n := 2) (Nat.le_of_ble_eq_true rfl)
  rw [lg_entry_eq]
  generalize (lg_sl ([.ref q0, .int x1]) ++ List.replicate (2 - (lg_sl ([.ref q0, .int x1])).length) Slot.unset).toArray = ls at hl ⊢
  have hl : lv_has ls 2 [(0, .ref q0), (1, .int x1)] := hl
  have h := hr0
  unfold D_X8_gate at h
  refine lv_aload_n hx hb dX8_gate_0 rfl (lv_at hl 0 rfl) ?_
  obtain ⟨u_1, hu_2, h⟩ := co_b h
  refine kx_v (ws' := fun _ => [(q0, .inr (8, [.int f0_thrown, v0_n, v0_equations, v0_eSet, v0_eRight, .int f0_clauses, .ref q0_cYes, .ref q0_cNo, v0_levels, v0_levelEquations, v0_levelClauses, v0_tape, v0_tapeSize, v0_faultIs, v0_faultAt, v0_at, v0_newEquations, v0_newClauses, v0_newSet, v0_newRight, v0_newYes, v0_newNo, v0_lineYes, v0_lineNo, v0_rowCount, v0_rSet, v0_rRight, v0_isImpossible, v0_sumSet, v0_sumOf, v0_sumRight, v0_empty, v0_empties, v0_taken, v0_ones, v0_waitTaken, v0_waitOnes, v0_nodeCount, v0_lastModel, v0_modelCount, v0_modelIs, .ref q0_gSet, .int u_1.1])), (q0_cYes, .inl (cL, n0_cYes, .inr (.inl h0_cYes))), (q0_cNo, .inl (cL, n0_cNo, .inr (.inl h0_cNo))), (q0_gSet, .inl (cL, n0_gSet, .inr (.inl u_1.2)))]) hP hD hS hA [0, 1, 2, 3] [] [0, 1, 2, 3] rfl rfl (by decide) (by decide) (fun _ => rfl) (by decide) (va_runV (As := []) (rest := []) ⟨hx, hb, hml, hown, hts⟩ (cm_X8_findGates l D cI cL (q0 := q0) (q0_cYes := q0_cYes) (q0_cNo := q0_cNo) (q0_gSet := q0_gSet) (n0_cYes := n0_cYes) (n0_cNo := n0_cNo) (n0_gSet := n0_gSet) (f0_clauses := f0_clauses) (f0_gateCount := f0_gateCount) (h0_cYes := h0_cYes) (h0_cNo := h0_cNo) (h0_gSet := h0_gSet) (v0_thrown := .int f0_thrown) (v0_n := v0_n) (v0_equations := v0_equations) (v0_eSet := v0_eSet) (v0_eRight := v0_eRight) (v0_levels := v0_levels) (v0_levelEquations := v0_levelEquations) (v0_levelClauses := v0_levelClauses) (v0_tape := v0_tape) (v0_tapeSize := v0_tapeSize) (v0_faultIs := v0_faultIs) (v0_faultAt := v0_faultAt) (v0_at := v0_at) (v0_newEquations := v0_newEquations) (v0_newClauses := v0_newClauses) (v0_newSet := v0_newSet) (v0_newRight := v0_newRight) (v0_newYes := v0_newYes) (v0_newNo := v0_newNo) (v0_lineYes := v0_lineYes) (v0_lineNo := v0_lineNo) (v0_rowCount := v0_rowCount) (v0_rSet := v0_rSet) (v0_rRight := v0_rRight) (v0_isImpossible := v0_isImpossible) (v0_sumSet := v0_sumSet) (v0_sumOf := v0_sumOf) (v0_sumRight := v0_sumRight) (v0_empty := v0_empty) (v0_empties := v0_empties) (v0_taken := v0_taken) (v0_ones := v0_ones) (v0_waitTaken := v0_waitTaken) (v0_waitOnes := v0_waitOnes) (v0_nodeCount := v0_nodeCount) (v0_lastModel := v0_lastModel) (v0_modelCount := v0_modelCount) (v0_modelIs := v0_modelIs) (r0 := u_1) (hr0 := hu_2) (sz := H.size)) (cwV 0 hts gX8_gate_X8_findGates rfl rfl rfl (by decide +kernel) ⟨Nat.le_of_ble_eq_true rfl, Nat.le_of_ble_eq_true rfl⟩) (kx_preV hEV hP hD [0, 1, 2, 3] rfl (by decide) (k0 := 0) (ci := 8) rfl rfl rfl) rfl rfl hl.1 rfl (lv_room (Nat.le_of_ble_eq_true rfl)) dX8_gate_1 ⟨Nat.le_of_ble_eq_true rfl, Nat.le_of_ble_eq_true rfl⟩) (fun _ H locs _ hP hD hS => ?_)
  refine lv_aload_n hx hb dX8_gate_4 rfl (lv_at hl 0 rfl) ?_
  refine lv_iload_n hx hb dX8_gate_5 rfl (lv_at hl 1 rfl) ?_
  refine lv_i2l (v := x1.toInt64) hx hb dX8_gate_6 rfl ?_
  refine lv_lconst (v := (0 : Int64)) hx hb dX8_gate_7 (by decide) ?_
  refine lv_aload_n hx hb dX8_gate_8 rfl (lv_at hl 0 rfl) ?_
  refine va_get (D := D) (ci := 8) (v := .int u_1.1) (C := RX8) (T := TX8) (N := 43) hx hb hts in_X8_gate_X8 hown hK hP 0 rfl rfl 42 (by decide) lk_0 (fun _ h9 => h9) rfl dX8_gate_9 ?_
  refine lv_iconst (v := (1 : Int32)) hx hb dX8_gate_12 (by decide) ?_
  refine lv_isub hx hb dX8_gate_13 ?_
  refine lv_i2l (v := (u_1.1 - (1 : Int32)).toInt64) hx hb dX8_gate_14 rfl ?_
  obtain ⟨u_3, hu_4, h⟩ := co_b h
  refine kx_i (ws' := fun _ => [(q0, .inr (8, [.int f0_thrown, v0_n, v0_equations, v0_eSet, v0_eRight, .int f0_clauses, .ref q0_cYes, .ref q0_cNo, v0_levels, v0_levelEquations, v0_levelClauses, v0_tape, v0_tapeSize, v0_faultIs, v0_faultAt, v0_at, v0_newEquations, v0_newClauses, v0_newSet, v0_newRight, v0_newYes, v0_newNo, v0_lineYes, v0_lineNo, v0_rowCount, v0_rSet, v0_rRight, v0_isImpossible, v0_sumSet, v0_sumOf, v0_sumRight, v0_empty, v0_empties, v0_taken, v0_ones, v0_waitTaken, v0_waitOnes, v0_nodeCount, v0_lastModel, v0_modelCount, v0_modelIs, .ref q0_gSet, .int u_1.1])), (q0_cYes, .inl (cL, n0_cYes, .inr (.inl h0_cYes))), (q0_cNo, .inl (cL, n0_cNo, .inr (.inl h0_cNo))), (q0_gSet, .inl (cL, n0_gSet, .inr (.inl u_1.2)))]) hP hD hS hA [] [0, 1, 2, 3] [0, 1, 2, 3] rfl rfl (by decide) (by decide) (fun _ => rfl) (by decide) (va_runS (As := [.long x1.toInt64, .long (0 : Int64), .long ((u_1.1 - (1 : Int32)).toInt64)]) (rest := [.ref q0]) ⟨hx, hb, hml, hown, hts⟩ (cm_X8_isIn l D cI cL (x0 := x1.toInt64) (x2 := (0 : Int64)) (x4 := (u_1.1 - (1 : Int32)).toInt64) (r0 := u_3) (hr0 := hu_4) (sz := H.size)) (va_cwS 3 hts gX8_gate_X8_isIn rfl rfl rfl (by decide +kernel) ⟨Nat.le_of_ble_eq_true rfl, Nat.le_of_ble_eq_true rfl⟩) (kx_preS hEV hP hD [] rfl (by decide)) rfl rfl hl.1 rfl (lv_room (Nat.le_of_ble_eq_true rfl)) dX8_gate_15 ⟨Nat.le_of_ble_eq_true rfl, Nat.le_of_ble_eq_true rfl⟩) (fun _ H locs _ hP hD hS => ?_)
  refine lv_iconst (v := (1 : Int32)) hx hb dX8_gate_18 (by decide) ?_
  obtain ⟨u_5, hu_6, h⟩ := co_b h
  refine kx_i (ws' := fun _ => [(q0, .inr (8, [.int u_5.2, v0_n, v0_equations, v0_eSet, v0_eRight, .int f0_clauses, .ref q0_cYes, .ref q0_cNo, v0_levels, v0_levelEquations, v0_levelClauses, v0_tape, v0_tapeSize, v0_faultIs, v0_faultAt, v0_at, v0_newEquations, v0_newClauses, v0_newSet, v0_newRight, v0_newYes, v0_newNo, v0_lineYes, v0_lineNo, v0_rowCount, v0_rSet, v0_rRight, v0_isImpossible, v0_sumSet, v0_sumOf, v0_sumRight, v0_empty, v0_empties, v0_taken, v0_ones, v0_waitTaken, v0_waitOnes, v0_nodeCount, v0_lastModel, v0_modelCount, v0_modelIs, .ref q0_gSet, .int u_1.1])), (q0_cYes, .inl (cL, n0_cYes, .inr (.inl h0_cYes))), (q0_cNo, .inl (cL, n0_cNo, .inr (.inl h0_cNo))), (q0_gSet, .inl (cL, n0_gSet, .inr (.inl u_1.2)))]) hP hD hS hA [0] [1, 2, 3] [3, 0, 1, 2] rfl rfl (by decide) (by decide) (fun _ => rfl) (by decide) (va_runV (As := [.int (bI u_3), .int (bI true)]) (rest := []) ⟨hx, hb, hml, hown, hts⟩ (cm_X8_may l D cI cL (q0 := q0) (f0_thrown := f0_thrown) (v0_n := v0_n) (v0_equations := v0_equations) (v0_eSet := v0_eSet) (v0_eRight := v0_eRight) (v0_clauses := .int f0_clauses) (v0_cYes := .ref q0_cYes) (v0_cNo := .ref q0_cNo) (v0_levels := v0_levels) (v0_levelEquations := v0_levelEquations) (v0_levelClauses := v0_levelClauses) (v0_tape := v0_tape) (v0_tapeSize := v0_tapeSize) (v0_faultIs := v0_faultIs) (v0_faultAt := v0_faultAt) (v0_at := v0_at) (v0_newEquations := v0_newEquations) (v0_newClauses := v0_newClauses) (v0_newSet := v0_newSet) (v0_newRight := v0_newRight) (v0_newYes := v0_newYes) (v0_newNo := v0_newNo) (v0_lineYes := v0_lineYes) (v0_lineNo := v0_lineNo) (v0_rowCount := v0_rowCount) (v0_rSet := v0_rSet) (v0_rRight := v0_rRight) (v0_isImpossible := v0_isImpossible) (v0_sumSet := v0_sumSet) (v0_sumOf := v0_sumOf) (v0_sumRight := v0_sumRight) (v0_empty := v0_empty) (v0_empties := v0_empties) (v0_taken := v0_taken) (v0_ones := v0_ones) (v0_waitTaken := v0_waitTaken) (v0_waitOnes := v0_waitOnes) (v0_nodeCount := v0_nodeCount) (v0_lastModel := v0_lastModel) (v0_modelCount := v0_modelCount) (v0_modelIs := v0_modelIs) (v0_gSet := .ref q0_gSet) (v0_gateCount := .int u_1.1) (x1 := u_3) (x2 := true) (r0 := u_5) (hr0 := hu_6) (sz := H.size)) (cwV 2 hts gX8_gate_X8_may rfl rfl rfl (by decide +kernel) ⟨Nat.le_of_ble_eq_true rfl, Nat.le_of_ble_eq_true rfl⟩) (kx_preV hEV hP hD [0] rfl (by decide) (k0 := 0) (ci := 8) rfl rfl rfl) rfl rfl hl.1 rfl (lv_room (Nat.le_of_ble_eq_true rfl)) dX8_gate_19 ⟨Nat.le_of_ble_eq_true rfl, Nat.le_of_ble_eq_true rfl⟩) (fun _ H locs _ hP hD hS => ?_)
  refine lv_if_eq (tgt := 34) hx hb dX8_gate_22 (by decide) (fun c_7 => ?_) (fun c_7 => ?_)
  · have k_8 : ¬ (u_5.1 = true) := (kx_z c_7)
    have h := co_f k_8 h
    refine lv_lconst (v := (0 : Int64)) hx hb dX8_gate_34 (by decide) ?_
    have h := Option.some.inj h
    subst h
    subst hQ
    exact W.lret (v := (0 : Int64)) hx hb hr (fun t ht hW => ⟨⟨(0 : Int64), (), rfl, ⟨rfl, trivial⟩, by rw [ht]; exact hP, hD⟩, hS.F ht⟩) hS.2.2 dX8_gate_35
  · have k_8 : u_5.1 = true := (kx_nz c_7)
    have h := co_t k_8 h
    refine lv_aload_n hx hb dX8_gate_25 rfl (lv_at hl 0 rfl) ?_
    refine va_get (D := D) (ci := 8) (v := .ref q0_gSet) (C := RX8) (T := TX8) (N := 43) hx hb hts in_X8_gate_X8 hown hK hP 0 rfl rfl 41 (by decide) lk_1 (fun _ h9 => h9) rfl dX8_gate_26 ?_
    refine lv_iload_n hx hb dX8_gate_29 rfl (lv_at hl 1 rfl) ?_
    obtain ⟨b_9, h⟩ := co_i h
    refine va_lald hx hb hK hP 3 1 rfl rfl b_9 dX8_gate_30 ?_
    refine lv_goto (tgt := 35) hx hb dX8_gate_31 (by decide) ?_
    have h := Option.some.inj h
    subst h
    subst hQ
    exact W.lret (v := u_1.2 x1.toNatClampNeg) hx hb hr (fun t ht hW => ⟨⟨u_1.2 x1.toNatClampNeg, (), rfl, ⟨rfl, trivial⟩, by rw [ht]; exact hP, hD⟩, hS.F ht⟩) hS.2.2 dX8_gate_35
theorem in_X8_count_X8 : ∀ w ∈ wsX80, w ∈ wsX8_count := by decide +kernel
theorem lk_0_X8_count : Cond.constantLong RX8 248 (4) ∈ wsX8_count := by decide +kernel
theorem lk_1_X8_count : Cond.fieldLink RX8 115 "ParityClausesModel" "tapeSize" "I" ∈ wsX8_count := by decide +kernel
theorem lk_2_X8_count : Cond.fieldLink RX8 108 "ParityClausesModel" "levels" "I" ∈ wsX8_count := by decide +kernel
theorem lk_3_X8_count : Cond.fieldLink RX8 105 "ParityClausesModel" "clauses" "I" ∈ wsX8_count := by decide +kernel
theorem lk_4_X8_count : Cond.fieldLink RX8 98 "ParityClausesModel" "equations" "I" ∈ wsX8_count := by decide +kernel
theorem lk_5_X8_count : Cond.fieldLink RX8 77 "ParityClausesModel" "n" "I" ∈ wsX8_count := by decide +kernel
abbrev rm_X8_count : Room := { frames := 1, cells := 0, slots := 0, locals := 25 }
set_option maxHeartbeats 4000000 in
set_option maxRecDepth 100000 in
theorem cm_X8_count (l : Launch) (D : va_G) (cI cL : ClassId) (q0 : Nat) (f0_thrown : Int32) (f0_n : Int32) (f0_equations : Int32) (f0_clauses : Int32) (f0_levels : Int32) (f0_tapeSize : Int32) (v0_eSet v0_eRight v0_cYes v0_cNo v0_levelEquations v0_levelClauses v0_tape v0_faultIs v0_faultAt v0_at v0_newEquations v0_newClauses v0_newSet v0_newRight v0_newYes v0_newNo v0_lineYes v0_lineNo v0_rowCount v0_rSet v0_rRight v0_isImpossible v0_sumSet v0_sumOf v0_sumRight v0_empty v0_empties v0_taken v0_ones v0_waitTaken v0_waitOnes v0_nodeCount v0_lastModel v0_modelCount v0_modelIs v0_gSet v0_gateCount : Value) (x1 : Int32) (r0 : Int32 × Int32) (hr0 : D_X8_count f0_thrown f0_n f0_equations f0_clauses f0_levels f0_tapeSize x1 = some r0) (sz : Nat) : Met l yX8_count wsX8_count rm_X8_count (PcW D cI cL [.ref q0, .int x1] [(q0, .inr (8, [.int f0_thrown, .int f0_n, .int f0_equations, v0_eSet, v0_eRight, .int f0_clauses, v0_cYes, v0_cNo, .int f0_levels, v0_levelEquations, v0_levelClauses, v0_tape, .int f0_tapeSize, v0_faultIs, v0_faultAt, v0_at, v0_newEquations, v0_newClauses, v0_newSet, v0_newRight, v0_newYes, v0_newNo, v0_lineYes, v0_lineNo, v0_rowCount, v0_rSet, v0_rRight, v0_isImpossible, v0_sumSet, v0_sumOf, v0_sumRight, v0_empty, v0_empties, v0_taken, v0_ones, v0_waitTaken, v0_waitOnes, v0_nodeCount, v0_lastModel, v0_modelCount, v0_modelIs, v0_gSet, v0_gateCount]))] sz) (QiW D [(q0, .inr (8, [.int f0_thrown, .int f0_n, .int f0_equations, v0_eSet, v0_eRight, .int f0_clauses, v0_cYes, v0_cNo, .int f0_levels, v0_levelEquations, v0_levelClauses, v0_tape, .int f0_tapeSize, v0_faultIs, v0_faultAt, v0_at, v0_newEquations, v0_newClauses, v0_newSet, v0_newRight, v0_newYes, v0_newNo, v0_lineYes, v0_lineNo, v0_rowCount, v0_rSet, v0_rRight, v0_isImpossible, v0_sumSet, v0_sumOf, v0_sumRight, v0_empty, v0_empties, v0_taken, v0_ones, v0_waitTaken, v0_waitOnes, v0_nodeCount, v0_lastModel, v0_modelCount, v0_modelIs, v0_gSet, v0_gateCount]))] r0.1 (fun _ : Unit => [(q0, .inr (8, [.int r0.2, .int f0_n, .int f0_equations, v0_eSet, v0_eRight, .int f0_clauses, v0_cYes, v0_cNo, .int f0_levels, v0_levelEquations, v0_levelClauses, v0_tape, .int f0_tapeSize, v0_faultIs, v0_faultAt, v0_at, v0_newEquations, v0_newClauses, v0_newSet, v0_newRight, v0_newYes, v0_newNo, v0_lineYes, v0_lineNo, v0_rowCount, v0_rSet, v0_rRight, v0_isImpossible, v0_sumSet, v0_sumOf, v0_sumRight, v0_empty, v0_empties, v0_taken, v0_ones, v0_waitTaken, v0_waitOnes, v0_nodeCount, v0_lastModel, v0_modelCount, v0_modelIs, v0_gSet, v0_gateCount]))]) tU sz) 0 0 (va_A [(q0, .inr (8, [.int f0_thrown, .int f0_n, .int f0_equations, v0_eSet, v0_eRight, .int f0_clauses, v0_cYes, v0_cNo, .int f0_levels, v0_levelEquations, v0_levelClauses, v0_tape, .int f0_tapeSize, v0_faultIs, v0_faultAt, v0_at, v0_newEquations, v0_newClauses, v0_newSet, v0_newRight, v0_newYes, v0_newNo, v0_lineYes, v0_lineNo, v0_rowCount, v0_rSet, v0_rRight, v0_isImpossible, v0_sumSet, v0_sumOf, v0_sumRight, v0_empty, v0_empties, v0_taken, v0_ones, v0_waitTaken, v0_waitOnes, v0_nodeCount, v0_lastModel, v0_modelCount, v0_modelIs, v0_gSet, v0_gateCount]))] sz) := by
  refine Met.ofW (cc := cX8_count) (maxL := 2) (ret := (some .int)) (by decide) rfl ?_
  intro p e s m args below meth c s₁ B hml hv
  obtain ⟨hargs, hsz, hP, hEV, hD0⟩ := hv
  have hx := B.exec
  have hb := B.bytes
  have hr := B.returns
  have hts := atoms_spec (ws := wsX8_count) B.pre
  have hown : s.vm.findClass RX8 = some m.cls := findClass_of_methodNamed B.named
  have hlocks := B.notSynchronized
  have hK := hEV.K
  have lk_0 := hts _ lk_0_X8_count
  have lk_1 := hts _ lk_1_X8_count
  have lk_2 := hts _ lk_2_X8_count
  have lk_3 := hts _ lk_3_X8_count
  have lk_4 := hts _ lk_4_X8_count
  have lk_5 := hts _ lk_5_X8_count
  subst hsz
  unfold QiW PoW
  have hD := hD0.self (sz := s.heap.size)
  generalize hAe : va_A [(q0, .inr (8, [.int f0_thrown, .int f0_n, .int f0_equations, v0_eSet, v0_eRight, .int f0_clauses, v0_cYes, v0_cNo, .int f0_levels, v0_levelEquations, v0_levelClauses, v0_tape, .int f0_tapeSize, v0_faultIs, v0_faultAt, v0_at, v0_newEquations, v0_newClauses, v0_newSet, v0_newRight, v0_newYes, v0_newNo, v0_lineYes, v0_lineNo, v0_rowCount, v0_rSet, v0_rRight, v0_isImpossible, v0_sumSet, v0_sumOf, v0_sumRight, v0_empty, v0_empties, v0_taken, v0_ones, v0_waitTaken, v0_waitOnes, v0_nodeCount, v0_lastModel, v0_modelCount, v0_modelIs, v0_gSet, v0_gateCount]))] s.heap.size = A at hD ⊢
  have hA : ∀ q : Nat, s.heap.size ≤ q → A q := fun q h => by rw [← hAe]; exact Or.inr h
  have hent : entryFrame m args 2 = entryFrame m ([.ref q0, .int x1] : List Value).toArray 2 := by rw [hargs]
  rw [hent]
  refine kx_Q (fun Q hQ => ?_)
  refine kx_H (fun H hH => ?_)
  have hP : va_P D vwCl [(q0, .inr (8, [.int f0_thrown, .int f0_n, .int f0_equations, v0_eSet, v0_eRight, .int f0_clauses, v0_cYes, v0_cNo, .int f0_levels, v0_levelEquations, v0_levelClauses, v0_tape, .int f0_tapeSize, v0_faultIs, v0_faultAt, v0_at, v0_newEquations, v0_newClauses, v0_newSet, v0_newRight, v0_newYes, v0_newNo, v0_lineYes, v0_lineNo, v0_rowCount, v0_rSet, v0_rRight, v0_isImpossible, v0_sumSet, v0_sumOf, v0_sumRight, v0_empty, v0_empties, v0_taken, v0_ones, v0_waitTaken, v0_waitOnes, v0_nodeCount, v0_lastModel, v0_modelCount, v0_modelIs, v0_gSet, v0_gateCount]))] H := by rw [hH]; exact hP
  have hS : va_S A s.heap H [] := by rw [hH]; exact va_S.rf
  have hl := lv_entry ([.ref q0, .int x1]) (n := 2) (Nat.le_of_ble_eq_true rfl)
  rw [lg_entry_eq]
  generalize (lg_sl ([.ref q0, .int x1]) ++ List.replicate (2 - (lg_sl ([.ref q0, .int x1])).length) Slot.unset).toArray = ls at hl ⊢
  have hl : lv_has ls 2 [(0, .ref q0), (1, .int x1)] := hl
  have h := hr0
  unfold D_X8_count at h
  refine lv_aload_n hx hb dX8_count_0 rfl (lv_at hl 0 rfl) ?_
  refine lv_iload_n hx hb dX8_count_1 rfl (lv_at hl 1 rfl) ?_
  refine lv_i2l (v := x1.toInt64) hx hb dX8_count_2 rfl ?_
  refine lv_lconst (v := (0 : Int64)) hx hb dX8_count_3 (by decide) ?_
  refine lv_ldc2 hx hb hown lk_0 dX8_count_4 ?_
  obtain ⟨u_1, hu_2, h⟩ := co_b h
  refine kx_i (ws' := fun _ => [(q0, .inr (8, [.int f0_thrown, .int f0_n, .int f0_equations, v0_eSet, v0_eRight, .int f0_clauses, v0_cYes, v0_cNo, .int f0_levels, v0_levelEquations, v0_levelClauses, v0_tape, .int f0_tapeSize, v0_faultIs, v0_faultAt, v0_at, v0_newEquations, v0_newClauses, v0_newSet, v0_newRight, v0_newYes, v0_newNo, v0_lineYes, v0_lineNo, v0_rowCount, v0_rSet, v0_rRight, v0_isImpossible, v0_sumSet, v0_sumOf, v0_sumRight, v0_empty, v0_empties, v0_taken, v0_ones, v0_waitTaken, v0_waitOnes, v0_nodeCount, v0_lastModel, v0_modelCount, v0_modelIs, v0_gSet, v0_gateCount]))]) hP hD hS hA [] [0] [0] rfl rfl (by decide) (by decide) (fun _ => rfl) (by decide) (va_runS (As := [.long x1.toInt64, .long (0 : Int64), .long (4 : Int64)]) (rest := [.ref q0]) ⟨hx, hb, hml, hown, hts⟩ (cm_X8_isIn l D cI cL (x0 := x1.toInt64) (x2 := (0 : Int64)) (x4 := (4 : Int64)) (r0 := u_1) (hr0 := hu_2) (sz := H.size)) (va_cwS 3 hts gX8_count_X8_isIn rfl rfl rfl (by decide +kernel) ⟨Nat.le_of_ble_eq_true rfl, Nat.le_of_ble_eq_true rfl⟩) (kx_preS hEV hP hD [] rfl (by decide)) rfl rfl hl.1 rfl (lv_room (Nat.le_of_ble_eq_true rfl)) dX8_count_7 ⟨Nat.le_of_ble_eq_true rfl, Nat.le_of_ble_eq_true rfl⟩) (fun _ H locs _ hP hD hS => ?_)
  refine lv_iconst (v := (1 : Int32)) hx hb dX8_count_10 (by decide) ?_
  obtain ⟨u_3, hu_4, h⟩ := co_b h
  refine kx_i (ws' := fun _ => [(q0, .inr (8, [.int u_3.2, .int f0_n, .int f0_equations, v0_eSet, v0_eRight, .int f0_clauses, v0_cYes, v0_cNo, .int f0_levels, v0_levelEquations, v0_levelClauses, v0_tape, .int f0_tapeSize, v0_faultIs, v0_faultAt, v0_at, v0_newEquations, v0_newClauses, v0_newSet, v0_newRight, v0_newYes, v0_newNo, v0_lineYes, v0_lineNo, v0_rowCount, v0_rSet, v0_rRight, v0_isImpossible, v0_sumSet, v0_sumOf, v0_sumRight, v0_empty, v0_empties, v0_taken, v0_ones, v0_waitTaken, v0_waitOnes, v0_nodeCount, v0_lastModel, v0_modelCount, v0_modelIs, v0_gSet, v0_gateCount]))]) hP hD hS hA [0] [] [0] rfl rfl (by decide) (by decide) (fun _ => rfl) (by decide) (va_runV (As := [.int (bI u_1), .int (bI true)]) (rest := []) ⟨hx, hb, hml, hown, hts⟩ (cm_X8_may l D cI cL (q0 := q0) (f0_thrown := f0_thrown) (v0_n := .int f0_n) (v0_equations := .int f0_equations) (v0_eSet := v0_eSet) (v0_eRight := v0_eRight) (v0_clauses := .int f0_clauses) (v0_cYes := v0_cYes) (v0_cNo := v0_cNo) (v0_levels := .int f0_levels) (v0_levelEquations := v0_levelEquations) (v0_levelClauses := v0_levelClauses) (v0_tape := v0_tape) (v0_tapeSize := .int f0_tapeSize) (v0_faultIs := v0_faultIs) (v0_faultAt := v0_faultAt) (v0_at := v0_at) (v0_newEquations := v0_newEquations) (v0_newClauses := v0_newClauses) (v0_newSet := v0_newSet) (v0_newRight := v0_newRight) (v0_newYes := v0_newYes) (v0_newNo := v0_newNo) (v0_lineYes := v0_lineYes) (v0_lineNo := v0_lineNo) (v0_rowCount := v0_rowCount) (v0_rSet := v0_rSet) (v0_rRight := v0_rRight) (v0_isImpossible := v0_isImpossible) (v0_sumSet := v0_sumSet) (v0_sumOf := v0_sumOf) (v0_sumRight := v0_sumRight) (v0_empty := v0_empty) (v0_empties := v0_empties) (v0_taken := v0_taken) (v0_ones := v0_ones) (v0_waitTaken := v0_waitTaken) (v0_waitOnes := v0_waitOnes) (v0_nodeCount := v0_nodeCount) (v0_lastModel := v0_lastModel) (v0_modelCount := v0_modelCount) (v0_modelIs := v0_modelIs) (v0_gSet := v0_gSet) (v0_gateCount := v0_gateCount) (x1 := u_1) (x2 := true) (r0 := u_3) (hr0 := hu_4) (sz := H.size)) (cwV 2 hts gX8_count_X8_may rfl rfl rfl (by decide +kernel) ⟨Nat.le_of_ble_eq_true rfl, Nat.le_of_ble_eq_true rfl⟩) (kx_preV hEV hP hD [0] rfl (by decide) (k0 := 0) (ci := 8) rfl rfl rfl) rfl rfl hl.1 rfl (lv_room (Nat.le_of_ble_eq_true rfl)) dX8_count_11 ⟨Nat.le_of_ble_eq_true rfl, Nat.le_of_ble_eq_true rfl⟩) (fun _ H locs _ hP hD hS => ?_)
  refine lv_if_ne (tgt := 19) hx hb dX8_count_14 (by decide) (fun c_5 => ?_) (fun c_5 => ?_)
  · have k_6 : u_3.1 = true := (kx_nz c_5)
    have h := co_t k_6 h
    refine lv_iload_n hx hb dX8_count_19 rfl (lv_at hl 1 rfl) ?_
    refine lv_if_ne (tgt := 30) hx hb dX8_count_20 (by decide) (fun c_7 => ?_) (fun c_7 => ?_)
    · have k_8 : ¬ (x1 = 0) := c_7
      have h := co_f k_8 h
      refine lv_iload_n hx hb dX8_count_30 rfl (lv_at hl 1 rfl) ?_
      refine lv_iconst (v := (1 : Int32)) hx hb dX8_count_31 (by decide) ?_
      refine lv_icmp_ne (tgt := 42) hx hb dX8_count_32 (by decide) (fun c_9 => ?_) (fun c_9 => ?_)
      · have k_10 : ¬ (x1 = (1 : Int32)) := c_9
        have h := co_f k_10 h
        refine lv_iload_n hx hb dX8_count_42 rfl (lv_at hl 1 rfl) ?_
        refine lv_iconst (v := (2 : Int32)) hx hb dX8_count_43 (by decide) ?_
        refine lv_icmp_ne (tgt := 54) hx hb dX8_count_44 (by decide) (fun c_11 => ?_) (fun c_11 => ?_)
        · have k_12 : ¬ (x1 = (2 : Int32)) := c_11
          have h := co_f k_12 h
          refine lv_iload_n hx hb dX8_count_54 rfl (lv_at hl 1 rfl) ?_
          refine lv_iconst (v := (3 : Int32)) hx hb dX8_count_55 (by decide) ?_
          refine lv_icmp_ne (tgt := 66) hx hb dX8_count_56 (by decide) (fun c_13 => ?_) (fun c_13 => ?_)
          · have k_14 : ¬ (x1 = (3 : Int32)) := c_13
            have h := co_f k_14 h
            refine lv_aload_n hx hb dX8_count_66 rfl (lv_at hl 0 rfl) ?_
            refine va_get (D := D) (ci := 8) (v := .int f0_tapeSize) (C := RX8) (T := TX8) (N := 43) hx hb hts in_X8_count_X8 hown hK hP 0 rfl rfl 12 (by decide) lk_1 (fun _ h9 => h9) rfl dX8_count_67 ?_
            have h := Option.some.inj h
            subst h
            subst hQ
            exact W.iret (v := f0_tapeSize) hx hb hr (fun t ht hW => ⟨⟨f0_tapeSize, (), rfl, ⟨rfl, trivial⟩, by rw [ht]; exact hP, hD⟩, hS.F ht⟩) hS.2.2 dX8_count_70
          · have k_14 : x1 = (3 : Int32) := c_13
            have h := co_t k_14 h
            refine lv_aload_n hx hb dX8_count_59 rfl (lv_at hl 0 rfl) ?_
            refine va_get (D := D) (ci := 8) (v := .int f0_levels) (C := RX8) (T := TX8) (N := 43) hx hb hts in_X8_count_X8 hown hK hP 0 rfl rfl 8 (by decide) lk_2 (fun _ h9 => h9) rfl dX8_count_60 ?_
            refine lv_goto (tgt := 70) hx hb dX8_count_63 (by decide) ?_
            have h := Option.some.inj h
            subst h
            subst hQ
            exact W.iret (v := f0_levels) hx hb hr (fun t ht hW => ⟨⟨f0_levels, (), rfl, ⟨rfl, trivial⟩, by rw [ht]; exact hP, hD⟩, hS.F ht⟩) hS.2.2 dX8_count_70
        · have k_12 : x1 = (2 : Int32) := c_11
          have h := co_t k_12 h
          refine lv_aload_n hx hb dX8_count_47 rfl (lv_at hl 0 rfl) ?_
          refine va_get (D := D) (ci := 8) (v := .int f0_clauses) (C := RX8) (T := TX8) (N := 43) hx hb hts in_X8_count_X8 hown hK hP 0 rfl rfl 5 (by decide) lk_3 (fun _ h9 => h9) rfl dX8_count_48 ?_
          refine lv_goto (tgt := 70) hx hb dX8_count_51 (by decide) ?_
          have h := Option.some.inj h
          subst h
          subst hQ
          exact W.iret (v := f0_clauses) hx hb hr (fun t ht hW => ⟨⟨f0_clauses, (), rfl, ⟨rfl, trivial⟩, by rw [ht]; exact hP, hD⟩, hS.F ht⟩) hS.2.2 dX8_count_70
      · have k_10 : x1 = (1 : Int32) := c_9
        have h := co_t k_10 h
        refine lv_aload_n hx hb dX8_count_35 rfl (lv_at hl 0 rfl) ?_
        refine va_get (D := D) (ci := 8) (v := .int f0_equations) (C := RX8) (T := TX8) (N := 43) hx hb hts in_X8_count_X8 hown hK hP 0 rfl rfl 2 (by decide) lk_4 (fun _ h9 => h9) rfl dX8_count_36 ?_
        refine lv_goto (tgt := 70) hx hb dX8_count_39 (by decide) ?_
        have h := Option.some.inj h
        subst h
        subst hQ
        exact W.iret (v := f0_equations) hx hb hr (fun t ht hW => ⟨⟨f0_equations, (), rfl, ⟨rfl, trivial⟩, by rw [ht]; exact hP, hD⟩, hS.F ht⟩) hS.2.2 dX8_count_70
    · have k_8 : x1 = 0 := c_7
      have h := co_t k_8 h
      refine lv_aload_n hx hb dX8_count_23 rfl (lv_at hl 0 rfl) ?_
      refine va_get (D := D) (ci := 8) (v := .int f0_n) (C := RX8) (T := TX8) (N := 43) hx hb hts in_X8_count_X8 hown hK hP 0 rfl rfl 1 (by decide) lk_5 (fun _ h9 => h9) rfl dX8_count_24 ?_
      refine lv_goto (tgt := 70) hx hb dX8_count_27 (by decide) ?_
      have h := Option.some.inj h
      subst h
      subst hQ
      exact W.iret (v := f0_n) hx hb hr (fun t ht hW => ⟨⟨f0_n, (), rfl, ⟨rfl, trivial⟩, by rw [ht]; exact hP, hD⟩, hS.F ht⟩) hS.2.2 dX8_count_70
  · have k_6 : ¬ (u_3.1 = true) := (kx_z c_5)
    have h := co_f k_6 h
    refine lv_iconst (v := (0 : Int32)) hx hb dX8_count_17 (by decide) ?_
    have h := Option.some.inj h
    subst h
    subst hQ
    exact W.iret (v := (0 : Int32)) hx hb hr (fun t ht hW => ⟨⟨(0 : Int32), (), rfl, ⟨rfl, trivial⟩, by rw [ht]; exact hP, hD⟩, hS.F ht⟩) hS.2.2 dX8_count_18
theorem in_X8_clear_X8 : ∀ w ∈ wsX80, w ∈ wsX8_clear := by decide +kernel
theorem lk_0_X8_clear : Cond.fieldLink RX8 81 "ParityClausesModel" "thrown" "I" ∈ wsX8_clear := by decide +kernel
theorem lk_1_X8_clear : Cond.fieldLink RX8 98 "ParityClausesModel" "equations" "I" ∈ wsX8_clear := by decide +kernel
theorem lk_2_X8_clear : Cond.fieldLink RX8 105 "ParityClausesModel" "clauses" "I" ∈ wsX8_clear := by decide +kernel
theorem lk_3_X8_clear : Cond.fieldLink RX8 108 "ParityClausesModel" "levels" "I" ∈ wsX8_clear := by decide +kernel
theorem lk_4_X8_clear : Cond.fieldLink RX8 115 "ParityClausesModel" "tapeSize" "I" ∈ wsX8_clear := by decide +kernel
abbrev rm_X8_clear : Room := { frames := 0, cells := 0, slots := 0, locals := 0 }
set_option maxHeartbeats 4000000 in
set_option maxRecDepth 100000 in
theorem cm_X8_clear (l : Launch) (D : va_G) (cI cL : ClassId) (q0 : Nat) (f0_thrown : Int32) (f0_equations : Int32) (f0_clauses : Int32) (f0_levels : Int32) (f0_tapeSize : Int32) (v0_n v0_eSet v0_eRight v0_cYes v0_cNo v0_levelEquations v0_levelClauses v0_tape v0_faultIs v0_faultAt v0_at v0_newEquations v0_newClauses v0_newSet v0_newRight v0_newYes v0_newNo v0_lineYes v0_lineNo v0_rowCount v0_rSet v0_rRight v0_isImpossible v0_sumSet v0_sumOf v0_sumRight v0_empty v0_empties v0_taken v0_ones v0_waitTaken v0_waitOnes v0_nodeCount v0_lastModel v0_modelCount v0_modelIs v0_gSet v0_gateCount : Value) (r0 : Int32 × Int32 × Int32 × Int32 × Int32) (hr0 : D_X8_clear f0_thrown f0_equations f0_clauses f0_levels f0_tapeSize = some r0) (sz : Nat) : Met l yX8_clear wsX8_clear rm_X8_clear (PcW D cI cL [.ref q0] [(q0, .inr (8, [.int f0_thrown, v0_n, .int f0_equations, v0_eSet, v0_eRight, .int f0_clauses, v0_cYes, v0_cNo, .int f0_levels, v0_levelEquations, v0_levelClauses, v0_tape, .int f0_tapeSize, v0_faultIs, v0_faultAt, v0_at, v0_newEquations, v0_newClauses, v0_newSet, v0_newRight, v0_newYes, v0_newNo, v0_lineYes, v0_lineNo, v0_rowCount, v0_rSet, v0_rRight, v0_isImpossible, v0_sumSet, v0_sumOf, v0_sumRight, v0_empty, v0_empties, v0_taken, v0_ones, v0_waitTaken, v0_waitOnes, v0_nodeCount, v0_lastModel, v0_modelCount, v0_modelIs, v0_gSet, v0_gateCount]))] sz) (QvW D [(q0, .inr (8, [.int f0_thrown, v0_n, .int f0_equations, v0_eSet, v0_eRight, .int f0_clauses, v0_cYes, v0_cNo, .int f0_levels, v0_levelEquations, v0_levelClauses, v0_tape, .int f0_tapeSize, v0_faultIs, v0_faultAt, v0_at, v0_newEquations, v0_newClauses, v0_newSet, v0_newRight, v0_newYes, v0_newNo, v0_lineYes, v0_lineNo, v0_rowCount, v0_rSet, v0_rRight, v0_isImpossible, v0_sumSet, v0_sumOf, v0_sumRight, v0_empty, v0_empties, v0_taken, v0_ones, v0_waitTaken, v0_waitOnes, v0_nodeCount, v0_lastModel, v0_modelCount, v0_modelIs, v0_gSet, v0_gateCount]))] (fun _ : Unit => [(q0, .inr (8, [.int r0.1, v0_n, .int r0.2.1, v0_eSet, v0_eRight, .int r0.2.2.1, v0_cYes, v0_cNo, .int r0.2.2.2.1, v0_levelEquations, v0_levelClauses, v0_tape, .int r0.2.2.2.2, v0_faultIs, v0_faultAt, v0_at, v0_newEquations, v0_newClauses, v0_newSet, v0_newRight, v0_newYes, v0_newNo, v0_lineYes, v0_lineNo, v0_rowCount, v0_rSet, v0_rRight, v0_isImpossible, v0_sumSet, v0_sumOf, v0_sumRight, v0_empty, v0_empties, v0_taken, v0_ones, v0_waitTaken, v0_waitOnes, v0_nodeCount, v0_lastModel, v0_modelCount, v0_modelIs, v0_gSet, v0_gateCount]))]) tU sz) 0 0 (va_A [(q0, .inr (8, [.int f0_thrown, v0_n, .int f0_equations, v0_eSet, v0_eRight, .int f0_clauses, v0_cYes, v0_cNo, .int f0_levels, v0_levelEquations, v0_levelClauses, v0_tape, .int f0_tapeSize, v0_faultIs, v0_faultAt, v0_at, v0_newEquations, v0_newClauses, v0_newSet, v0_newRight, v0_newYes, v0_newNo, v0_lineYes, v0_lineNo, v0_rowCount, v0_rSet, v0_rRight, v0_isImpossible, v0_sumSet, v0_sumOf, v0_sumRight, v0_empty, v0_empties, v0_taken, v0_ones, v0_waitTaken, v0_waitOnes, v0_nodeCount, v0_lastModel, v0_modelCount, v0_modelIs, v0_gSet, v0_gateCount]))] sz) := by
  refine Met.ofW (cc := cX8_clear) (maxL := 1) (ret := none) (by decide) rfl ?_
  intro p e s m args below meth c s₁ B hml hv
  obtain ⟨hargs, hsz, hP, hEV, hD0⟩ := hv
  have hx := B.exec
  have hb := B.bytes
  have hr := B.returns
  have hts := atoms_spec (ws := wsX8_clear) B.pre
  have hown : s.vm.findClass RX8 = some m.cls := findClass_of_methodNamed B.named
  have hlocks := B.notSynchronized
  have hK := hEV.K
  have lk_0 := hts _ lk_0_X8_clear
  have lk_1 := hts _ lk_1_X8_clear
  have lk_2 := hts _ lk_2_X8_clear
  have lk_3 := hts _ lk_3_X8_clear
  have lk_4 := hts _ lk_4_X8_clear
  subst hsz
  unfold QvW PoW
  have hD := hD0.self (sz := s.heap.size)
  generalize hAe : va_A [(q0, .inr (8, [.int f0_thrown, v0_n, .int f0_equations, v0_eSet, v0_eRight, .int f0_clauses, v0_cYes, v0_cNo, .int f0_levels, v0_levelEquations, v0_levelClauses, v0_tape, .int f0_tapeSize, v0_faultIs, v0_faultAt, v0_at, v0_newEquations, v0_newClauses, v0_newSet, v0_newRight, v0_newYes, v0_newNo, v0_lineYes, v0_lineNo, v0_rowCount, v0_rSet, v0_rRight, v0_isImpossible, v0_sumSet, v0_sumOf, v0_sumRight, v0_empty, v0_empties, v0_taken, v0_ones, v0_waitTaken, v0_waitOnes, v0_nodeCount, v0_lastModel, v0_modelCount, v0_modelIs, v0_gSet, v0_gateCount]))] s.heap.size = A at hD ⊢
  have hA : ∀ q : Nat, s.heap.size ≤ q → A q := fun q h => by rw [← hAe]; exact Or.inr h
  have hent : entryFrame m args 1 = entryFrame m ([.ref q0] : List Value).toArray 1 := by rw [hargs]
  rw [hent]
  refine kx_Q (fun Q hQ => ?_)
  refine kx_H (fun H hH => ?_)
  have hP : va_P D vwCl [(q0, .inr (8, [.int f0_thrown, v0_n, .int f0_equations, v0_eSet, v0_eRight, .int f0_clauses, v0_cYes, v0_cNo, .int f0_levels, v0_levelEquations, v0_levelClauses, v0_tape, .int f0_tapeSize, v0_faultIs, v0_faultAt, v0_at, v0_newEquations, v0_newClauses, v0_newSet, v0_newRight, v0_newYes, v0_newNo, v0_lineYes, v0_lineNo, v0_rowCount, v0_rSet, v0_rRight, v0_isImpossible, v0_sumSet, v0_sumOf, v0_sumRight, v0_empty, v0_empties, v0_taken, v0_ones, v0_waitTaken, v0_waitOnes, v0_nodeCount, v0_lastModel, v0_modelCount, v0_modelIs, v0_gSet, v0_gateCount]))] H := by rw [hH]; exact hP
  have hS : va_S A s.heap H [] := by rw [hH]; exact va_S.rf
  have hl := lv_entry ([.ref q0]) (n := 1) (Nat.le_of_ble_eq_true rfl)
  rw [lg_entry_eq]
  generalize (lg_sl ([.ref q0]) ++ List.replicate (1 - (lg_sl ([.ref q0])).length) Slot.unset).toArray = ls at hl ⊢
  have hl : lv_has ls 1 [(0, .ref q0)] := hl
  have h := hr0
  unfold D_X8_clear at h
  refine lv_aload_n hx hb dX8_clear_0 rfl (lv_at hl 0 rfl) ?_
  refine lv_iconst (v := (0 : Int32)) hx hb dX8_clear_1 (by decide) ?_
  refine va_put (D := D) (ci := 8) (v := .int (0 : Int32)) (ty := .int) (C := RX8) (T := TX8) (N := 43) hx hb hts in_X8_clear_X8 tyX8 tyX8_ok nmX8 hown hK hP hD hS 0 rfl rfl 0 (by decide) lk_0 (fun _ h9 => h9) rfl (by decide +kernel) rfl rfl (Nat.le_of_ble_eq_true rfl) dX8_clear_2 (fun H locs hP hD hS => ?_)
  have hP : va_P D vwCl [(q0, .inr (8, [.int (0 : Int32), v0_n, .int f0_equations, v0_eSet, v0_eRight, .int f0_clauses, v0_cYes, v0_cNo, .int f0_levels, v0_levelEquations, v0_levelClauses, v0_tape, .int f0_tapeSize, v0_faultIs, v0_faultAt, v0_at, v0_newEquations, v0_newClauses, v0_newSet, v0_newRight, v0_newYes, v0_newNo, v0_lineYes, v0_lineNo, v0_rowCount, v0_rSet, v0_rRight, v0_isImpossible, v0_sumSet, v0_sumOf, v0_sumRight, v0_empty, v0_empties, v0_taken, v0_ones, v0_waitTaken, v0_waitOnes, v0_nodeCount, v0_lastModel, v0_modelCount, v0_modelIs, v0_gSet, v0_gateCount]))] H := hP
  have hD : va_D A [(q0, .inr (8, [.int (0 : Int32), v0_n, .int f0_equations, v0_eSet, v0_eRight, .int f0_clauses, v0_cYes, v0_cNo, .int f0_levels, v0_levelEquations, v0_levelClauses, v0_tape, .int f0_tapeSize, v0_faultIs, v0_faultAt, v0_at, v0_newEquations, v0_newClauses, v0_newSet, v0_newRight, v0_newYes, v0_newNo, v0_lineYes, v0_lineNo, v0_rowCount, v0_rSet, v0_rRight, v0_isImpossible, v0_sumSet, v0_sumOf, v0_sumRight, v0_empty, v0_empties, v0_taken, v0_ones, v0_waitTaken, v0_waitOnes, v0_nodeCount, v0_lastModel, v0_modelCount, v0_modelIs, v0_gSet, v0_gateCount]))] := hD
  refine lv_aload_n hx hb dX8_clear_5 rfl (lv_at hl 0 rfl) ?_
  refine lv_iconst (v := (0 : Int32)) hx hb dX8_clear_6 (by decide) ?_
  refine va_put (D := D) (ci := 8) (v := .int (0 : Int32)) (ty := .int) (C := RX8) (T := TX8) (N := 43) hx hb hts in_X8_clear_X8 tyX8 tyX8_ok nmX8 hown hK hP hD hS 0 rfl rfl 2 (by decide) lk_1 (fun _ h9 => h9) rfl (by decide +kernel) rfl rfl (Nat.le_of_ble_eq_true rfl) dX8_clear_7 (fun H locs hP hD hS => ?_)
  have hP : va_P D vwCl [(q0, .inr (8, [.int (0 : Int32), v0_n, .int (0 : Int32), v0_eSet, v0_eRight, .int f0_clauses, v0_cYes, v0_cNo, .int f0_levels, v0_levelEquations, v0_levelClauses, v0_tape, .int f0_tapeSize, v0_faultIs, v0_faultAt, v0_at, v0_newEquations, v0_newClauses, v0_newSet, v0_newRight, v0_newYes, v0_newNo, v0_lineYes, v0_lineNo, v0_rowCount, v0_rSet, v0_rRight, v0_isImpossible, v0_sumSet, v0_sumOf, v0_sumRight, v0_empty, v0_empties, v0_taken, v0_ones, v0_waitTaken, v0_waitOnes, v0_nodeCount, v0_lastModel, v0_modelCount, v0_modelIs, v0_gSet, v0_gateCount]))] H := hP
  have hD : va_D A [(q0, .inr (8, [.int (0 : Int32), v0_n, .int (0 : Int32), v0_eSet, v0_eRight, .int f0_clauses, v0_cYes, v0_cNo, .int f0_levels, v0_levelEquations, v0_levelClauses, v0_tape, .int f0_tapeSize, v0_faultIs, v0_faultAt, v0_at, v0_newEquations, v0_newClauses, v0_newSet, v0_newRight, v0_newYes, v0_newNo, v0_lineYes, v0_lineNo, v0_rowCount, v0_rSet, v0_rRight, v0_isImpossible, v0_sumSet, v0_sumOf, v0_sumRight, v0_empty, v0_empties, v0_taken, v0_ones, v0_waitTaken, v0_waitOnes, v0_nodeCount, v0_lastModel, v0_modelCount, v0_modelIs, v0_gSet, v0_gateCount]))] := hD
  refine lv_aload_n hx hb dX8_clear_10 rfl (lv_at hl 0 rfl) ?_
  refine lv_iconst (v := (0 : Int32)) hx hb dX8_clear_11 (by decide) ?_
  refine va_put (D := D) (ci := 8) (v := .int (0 : Int32)) (ty := .int) (C := RX8) (T := TX8) (N := 43) hx hb hts in_X8_clear_X8 tyX8 tyX8_ok nmX8 hown hK hP hD hS 0 rfl rfl 5 (by decide) lk_2 (fun _ h9 => h9) rfl (by decide +kernel) rfl rfl (Nat.le_of_ble_eq_true rfl) dX8_clear_12 (fun H locs hP hD hS => ?_)
  have hP : va_P D vwCl [(q0, .inr (8, [.int (0 : Int32), v0_n, .int (0 : Int32), v0_eSet, v0_eRight, .int (0 : Int32), v0_cYes, v0_cNo, .int f0_levels, v0_levelEquations, v0_levelClauses, v0_tape, .int f0_tapeSize, v0_faultIs, v0_faultAt, v0_at, v0_newEquations, v0_newClauses, v0_newSet, v0_newRight, v0_newYes, v0_newNo, v0_lineYes, v0_lineNo, v0_rowCount, v0_rSet, v0_rRight, v0_isImpossible, v0_sumSet, v0_sumOf, v0_sumRight, v0_empty, v0_empties, v0_taken, v0_ones, v0_waitTaken, v0_waitOnes, v0_nodeCount, v0_lastModel, v0_modelCount, v0_modelIs, v0_gSet, v0_gateCount]))] H := hP
  have hD : va_D A [(q0, .inr (8, [.int (0 : Int32), v0_n, .int (0 : Int32), v0_eSet, v0_eRight, .int (0 : Int32), v0_cYes, v0_cNo, .int f0_levels, v0_levelEquations, v0_levelClauses, v0_tape, .int f0_tapeSize, v0_faultIs, v0_faultAt, v0_at, v0_newEquations, v0_newClauses, v0_newSet, v0_newRight, v0_newYes, v0_newNo, v0_lineYes, v0_lineNo, v0_rowCount, v0_rSet, v0_rRight, v0_isImpossible, v0_sumSet, v0_sumOf, v0_sumRight, v0_empty, v0_empties, v0_taken, v0_ones, v0_waitTaken, v0_waitOnes, v0_nodeCount, v0_lastModel, v0_modelCount, v0_modelIs, v0_gSet, v0_gateCount]))] := hD
  refine lv_aload_n hx hb dX8_clear_15 rfl (lv_at hl 0 rfl) ?_
  refine lv_iconst (v := (0 : Int32)) hx hb dX8_clear_16 (by decide) ?_
  refine va_put (D := D) (ci := 8) (v := .int (0 : Int32)) (ty := .int) (C := RX8) (T := TX8) (N := 43) hx hb hts in_X8_clear_X8 tyX8 tyX8_ok nmX8 hown hK hP hD hS 0 rfl rfl 8 (by decide) lk_3 (fun _ h9 => h9) rfl (by decide +kernel) rfl rfl (Nat.le_of_ble_eq_true rfl) dX8_clear_17 (fun H locs hP hD hS => ?_)
  have hP : va_P D vwCl [(q0, .inr (8, [.int (0 : Int32), v0_n, .int (0 : Int32), v0_eSet, v0_eRight, .int (0 : Int32), v0_cYes, v0_cNo, .int (0 : Int32), v0_levelEquations, v0_levelClauses, v0_tape, .int f0_tapeSize, v0_faultIs, v0_faultAt, v0_at, v0_newEquations, v0_newClauses, v0_newSet, v0_newRight, v0_newYes, v0_newNo, v0_lineYes, v0_lineNo, v0_rowCount, v0_rSet, v0_rRight, v0_isImpossible, v0_sumSet, v0_sumOf, v0_sumRight, v0_empty, v0_empties, v0_taken, v0_ones, v0_waitTaken, v0_waitOnes, v0_nodeCount, v0_lastModel, v0_modelCount, v0_modelIs, v0_gSet, v0_gateCount]))] H := hP
  have hD : va_D A [(q0, .inr (8, [.int (0 : Int32), v0_n, .int (0 : Int32), v0_eSet, v0_eRight, .int (0 : Int32), v0_cYes, v0_cNo, .int (0 : Int32), v0_levelEquations, v0_levelClauses, v0_tape, .int f0_tapeSize, v0_faultIs, v0_faultAt, v0_at, v0_newEquations, v0_newClauses, v0_newSet, v0_newRight, v0_newYes, v0_newNo, v0_lineYes, v0_lineNo, v0_rowCount, v0_rSet, v0_rRight, v0_isImpossible, v0_sumSet, v0_sumOf, v0_sumRight, v0_empty, v0_empties, v0_taken, v0_ones, v0_waitTaken, v0_waitOnes, v0_nodeCount, v0_lastModel, v0_modelCount, v0_modelIs, v0_gSet, v0_gateCount]))] := hD
  refine lv_aload_n hx hb dX8_clear_20 rfl (lv_at hl 0 rfl) ?_
  refine lv_iconst (v := (0 : Int32)) hx hb dX8_clear_21 (by decide) ?_
  refine va_put (D := D) (ci := 8) (v := .int (0 : Int32)) (ty := .int) (C := RX8) (T := TX8) (N := 43) hx hb hts in_X8_clear_X8 tyX8 tyX8_ok nmX8 hown hK hP hD hS 0 rfl rfl 12 (by decide) lk_4 (fun _ h9 => h9) rfl (by decide +kernel) rfl rfl (Nat.le_of_ble_eq_true rfl) dX8_clear_22 (fun H locs hP hD hS => ?_)
  have hP : va_P D vwCl [(q0, .inr (8, [.int (0 : Int32), v0_n, .int (0 : Int32), v0_eSet, v0_eRight, .int (0 : Int32), v0_cYes, v0_cNo, .int (0 : Int32), v0_levelEquations, v0_levelClauses, v0_tape, .int (0 : Int32), v0_faultIs, v0_faultAt, v0_at, v0_newEquations, v0_newClauses, v0_newSet, v0_newRight, v0_newYes, v0_newNo, v0_lineYes, v0_lineNo, v0_rowCount, v0_rSet, v0_rRight, v0_isImpossible, v0_sumSet, v0_sumOf, v0_sumRight, v0_empty, v0_empties, v0_taken, v0_ones, v0_waitTaken, v0_waitOnes, v0_nodeCount, v0_lastModel, v0_modelCount, v0_modelIs, v0_gSet, v0_gateCount]))] H := hP
  have hD : va_D A [(q0, .inr (8, [.int (0 : Int32), v0_n, .int (0 : Int32), v0_eSet, v0_eRight, .int (0 : Int32), v0_cYes, v0_cNo, .int (0 : Int32), v0_levelEquations, v0_levelClauses, v0_tape, .int (0 : Int32), v0_faultIs, v0_faultAt, v0_at, v0_newEquations, v0_newClauses, v0_newSet, v0_newRight, v0_newYes, v0_newNo, v0_lineYes, v0_lineNo, v0_rowCount, v0_rSet, v0_rRight, v0_isImpossible, v0_sumSet, v0_sumOf, v0_sumRight, v0_empty, v0_empties, v0_taken, v0_ones, v0_waitTaken, v0_waitOnes, v0_nodeCount, v0_lastModel, v0_modelCount, v0_modelIs, v0_gSet, v0_gateCount]))] := hD
  have h := Option.some.inj h
  subst h
  subst hQ
  exact W.vret hx hb hr (fun t ht hW => ⟨⟨(), rfl, trivial, by rw [ht]; exact hP, hD⟩, hS.F ht⟩) hS.2.2 dX8_clear_25
