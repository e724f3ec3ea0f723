theorem in_X8_thrown_X8 : ∀ w ∈ wsX80, w ∈ wsX8_thrown := by decide +kernel
theorem lk_0_X8_thrown : Cond.fieldLink RX8 81 "ParityClausesModel" "thrown" "I" ∈ wsX8_thrown := by decide +kernel
abbrev rm_X8_thrown : Room := { frames := 0, cells := 0, slots := 0, locals := 0 }
set_option maxHeartbeats 4000000 in
set_option maxRecDepth 100000 in
theorem cm_X8_thrown (l : Launch) (D : va_G) (cI cL : ClassId) (q0 : Nat) (f0_thrown : Int32) (v0_n v0_equations v0_eSet v0_eRight v0_clauses v0_cYes v0_cNo v0_levels v0_levelEquations v0_levelClauses v0_tape v0_tapeSize v0_faultIs v0_faultAt v0_at v0_newEquations v0_newClauses v0_newSet v0_newRight v0_newYes v0_newNo v0_lineYes v0_lineNo v0_rowCount v0_rSet v0_rRight v0_isImpossible v0_sumSet v0_sumOf v0_sumRight v0_empty v0_empties v0_taken v0_ones v0_waitTaken v0_waitOnes v0_nodeCount v0_lastModel v0_modelCount v0_modelIs v0_gSet v0_gateCount : Value) (r0 : Int32) (hr0 : D_X8_thrown f0_thrown = some r0) (sz : Nat) : Met l yX8_thrown wsX8_thrown rm_X8_thrown (PcW D cI cL [.ref q0] [(q0, .inr (8, [.int f0_thrown, v0_n, v0_equations, v0_eSet, v0_eRight, v0_clauses, v0_cYes, v0_cNo, v0_levels, v0_levelEquations, v0_levelClauses, v0_tape, v0_tapeSize, v0_faultIs, v0_faultAt, v0_at, v0_newEquations, v0_newClauses, v0_newSet, v0_newRight, v0_newYes, v0_newNo, v0_lineYes, v0_lineNo, v0_rowCount, v0_rSet, v0_rRight, v0_isImpossible, v0_sumSet, v0_sumOf, v0_sumRight, v0_empty, v0_empties, v0_taken, v0_ones, v0_waitTaken, v0_waitOnes, v0_nodeCount, v0_lastModel, v0_modelCount, v0_modelIs, v0_gSet, v0_gateCount]))] sz) (QiW D [(q0, .inr (8, [.int f0_thrown, v0_n, v0_equations, v0_eSet, v0_eRight, v0_clauses, v0_cYes, v0_cNo, v0_levels, v0_levelEquations, v0_levelClauses, v0_tape, v0_tapeSize, v0_faultIs, v0_faultAt, v0_at, v0_newEquations, v0_newClauses, v0_newSet, v0_newRight, v0_newYes, v0_newNo, v0_lineYes, v0_lineNo, v0_rowCount, v0_rSet, v0_rRight, v0_isImpossible, v0_sumSet, v0_sumOf, v0_sumRight, v0_empty, v0_empties, v0_taken, v0_ones, v0_waitTaken, v0_waitOnes, v0_nodeCount, v0_lastModel, v0_modelCount, v0_modelIs, v0_gSet, v0_gateCount]))] r0 (fun _ : Unit => [(q0, .inr (8, [.int f0_thrown, v0_n, v0_equations, v0_eSet, v0_eRight, v0_clauses, v0_cYes, v0_cNo, v0_levels, v0_levelEquations, v0_levelClauses, v0_tape, v0_tapeSize, v0_faultIs, v0_faultAt, v0_at, v0_newEquations, v0_newClauses, v0_newSet, v0_newRight, v0_newYes, v0_newNo, v0_lineYes, v0_lineNo, v0_rowCount, v0_rSet, v0_rRight, v0_isImpossible, v0_sumSet, v0_sumOf, v0_sumRight, v0_empty, v0_empties, v0_taken, v0_ones, v0_waitTaken, v0_waitOnes, v0_nodeCount, v0_lastModel, v0_modelCount, v0_modelIs, v0_gSet, v0_gateCount]))]) tU sz) 0 0 (va_A [(q0, .inr (8, [.int f0_thrown, v0_n, v0_equations, v0_eSet, v0_eRight, v0_clauses, v0_cYes, v0_cNo, v0_levels, v0_levelEquations, v0_levelClauses, v0_tape, v0_tapeSize, v0_faultIs, v0_faultAt, v0_at, v0_newEquations, v0_newClauses, v0_newSet, v0_newRight, v0_newYes, v0_newNo, v0_lineYes, v0_lineNo, v0_rowCount, v0_rSet, v0_rRight, v0_isImpossible, v0_sumSet, v0_sumOf, v0_sumRight, v0_empty, v0_empties, v0_taken, v0_ones, v0_waitTaken, v0_waitOnes, v0_nodeCount, v0_lastModel, v0_modelCount, v0_modelIs, v0_gSet, v0_gateCount]))] sz) := by
  refine Met.ofW (cc := cX8_thrown) (maxL := 1) (ret := (some .int)) (by decide) rfl ?_
  intro p e s m args below meth c s₁ B hml hv
  obtain ⟨hargs, hsz, hP, hEV, hD0⟩ := hv
  have hx := B.exec
  have hb := B.bytes
  have hr := B.returns
  have hts := atoms_spec (ws := wsX8_thrown) B.pre
  have hown : s.vm.findClass RX8 = some m.cls := findClass_of_methodNamed B.named
  have hlocks := B.notSynchronized
  have hK := hEV.K
  have lk_0 := hts _ lk_0_X8_thrown
  subst hsz
  unfold QiW PoW
  have hD := hD0.self (sz := s.heap.size)
  generalize hAe : va_A [(q0, .inr (8, [.int f0_thrown, v0_n, v0_equations, v0_eSet, v0_eRight, v0_clauses, v0_cYes, v0_cNo, v0_levels, v0_levelEquations, v0_levelClauses, v0_tape, v0_tapeSize, v0_faultIs, v0_faultAt, v0_at, v0_newEquations, v0_newClauses, v0_newSet, v0_newRight, v0_newYes, v0_newNo, v0_lineYes, v0_lineNo, v0_rowCount, v0_rSet, v0_rRight, v0_isImpossible, v0_sumSet, v0_sumOf, v0_sumRight, v0_empty, v0_empties, v0_taken, v0_ones, v0_waitTaken, v0_waitOnes, v0_nodeCount, v0_lastModel, v0_modelCount, v0_modelIs, v0_gSet, v0_gateCount]))] s.heap.size = A at hD ⊢
  have hA : ∀ q : Nat, s.heap.size ≤ q → A q := fun q h => by rw [← hAe]; exact Or.inr h
  have hent : entryFrame m args 1 = entryFrame m ([.ref q0] : List Value).toArray 1 := by rw [hargs]
  rw [hent]
  refine kx_Q (fun Q hQ => ?_)
  refine kx_H (fun H hH => ?_)
  have hP : va_P D vwCl [(q0, .inr (8, [.int f0_thrown, v0_n, v0_equations, v0_eSet, v0_eRight, v0_clauses, v0_cYes, v0_cNo, v0_levels, v0_levelEquations, v0_levelClauses, v0_tape, v0_tapeSize, v0_faultIs, v0_faultAt, v0_at, v0_newEquations, v0_newClauses, v0_newSet, v0_newRight, v0_newYes, v0_newNo, v0_lineYes, v0_lineNo, v0_rowCount, v0_rSet, v0_rRight, v0_isImpossible, v0_sumSet, v0_sumOf, v0_sumRight, v0_empty, v0_empties, v0_taken, v0_ones, v0_waitTaken, v0_waitOnes, v0_nodeCount, v0_lastModel, v0_modelCount, v0_modelIs, v0_gSet, v0_gateCount]))] H := by rw [hH]; exact hP
  have hS : va_S A s.heap H [] := by rw [hH]; exact va_S.rf
  have hl := lv_entry ([.ref q0]) (n := 1) (Nat.le_of_ble_eq_true rfl)
  rw [lg_entry_eq]
  generalize (lg_sl ([.ref q0]) ++ List.replicate (1 - (lg_sl ([.ref q0])).length) Slot.unset).toArray = ls at hl ⊢
  have hl : lv_has ls 1 [(0, .ref q0)] := hl
  have h := hr0
  unfold D_X8_thrown at h
  refine lv_aload_n hx hb dX8_thrown_0 rfl (lv_at hl 0 rfl) ?_
  refine va_get (D := D) (ci := 8) (v := .int f0_thrown) (C := RX8) (T := TX8) (N := 43) hx hb hts in_X8_thrown_X8 hown hK hP 0 rfl rfl 0 (by decide) lk_0 (fun _ h9 => h9) rfl dX8_thrown_1 ?_
  have h := Option.some.inj h
  subst h
  subst hQ
  exact W.iret (v := f0_thrown) hx hb hr (fun t ht hW => ⟨⟨f0_thrown, (), rfl, ⟨rfl, trivial⟩, by rw [ht]; exact hP, hD⟩, hS.F ht⟩) hS.2.2 dX8_thrown_4
abbrev rm_X8_isIn : Room := { frames := 0, cells := 0, slots := 0, locals := 0 }
set_option maxHeartbeats 4000000 in
set_option maxRecDepth 100000 in
theorem cm_X8_isIn (l : Launch) (D : va_G) (cI cL : ClassId) (x0 : Int64) (x2 : Int64) (x4 : Int64) (r0 : Bool) (hr0 : D_X8_isIn x0 x2 x4 = some r0) (sz : Nat) : Met l yX8_isIn wsX8_isIn rm_X8_isIn (PcW D cI cL [.long x0, .long x2, .long x4] [] sz) (QiW D [] (bI r0) (fun _ : Unit => []) tU sz) 0 0 (va_A [] sz) := by
  refine Met.ofW (cc := cX8_isIn) (maxL := 6) (ret := (some .boolean)) (by decide) rfl ?_
  intro p e s m args below meth c s₁ B hml hv
  obtain ⟨hargs, hsz, hP, hEV, hD0⟩ := hv
  have hx := B.exec
  have hb := B.bytes
  have hr := B.returns
  have hts := atoms_spec (ws := wsX8_isIn) B.pre
  have hown : s.vm.findClass RX8 = some m.cls := findClass_of_methodNamed B.named
  have hlocks := B.notSynchronized
  have hK := hEV.K
  subst hsz
  unfold QiW PoW
  have hD := hD0.self (sz := s.heap.size)
  generalize hAe : va_A [] s.heap.size = A at hD ⊢
  have hA : ∀ q : Nat, s.heap.size ≤ q → A q := fun q h => by rw [← hAe]; exact Or.inr h
  have hent : entryFrame m args 6 = entryFrame m ([.long x0, .long x2, .long x4] : List Value).toArray 6 := by rw [hargs]
  rw [hent]
  refine kx_Q (fun Q hQ => ?_)
  refine kx_H (fun H hH => ?_)
  have hP : va_P D vwCl [] H := by rw [hH]; exact hP
  have hS : va_S A s.heap H [] := by rw [hH]; exact va_S.rf
  have hl := lv_entry ([.long x0, .long x2, .long x4]) (n := 6) (Nat.le_of_ble_eq_true rfl)
  rw [lg_entry_eq]
  generalize (lg_sl ([.long x0, .long x2, .long x4]) ++ List.replicate (6 - (lg_sl ([.long x0, .long x2, .long x4])).length) Slot.unset).toArray = ls at hl ⊢
  have hl : lv_has ls 6 [(0, .long x0), (2, .long x2), (4, .long x4)] := hl
  have h := hr0
  unfold D_X8_isIn at h
  refine lv_lload_n hx hb dX8_isIn_0 rfl (lv_at hl 0 rfl) ?_
  refine lv_lload_n hx hb dX8_isIn_1 rfl (lv_at hl 1 rfl) ?_
  refine W.lcmp hx hb dX8_isIn_2 ?_
  refine lv_if_lt (tgt := 17) hx hb dX8_isIn_3 (by decide) (fun c_1 => ?_) (fun c_1 => ?_)
  · have k_2 : x0 < x2 := ((lg_cmp_lt _ _).mp c_1)
    have h := co_t k_2 h
    refine lv_iconst (v := (0 : Int32)) hx hb dX8_isIn_17 (by decide) ?_
    have h := Option.some.inj h
    subst h
    subst hQ
    exact W.zret (v := bI false) hx hb hr (bI_n false) (fun t ht hW => ⟨⟨bI false, (), rfl, ⟨rfl, trivial⟩, by rw [ht]; exact hP, hD⟩, hS.F ht⟩) hS.2.2 dX8_isIn_18
  · have k_2 : ¬ (x0 < x2) := (fun z9 => c_1 ((lg_cmp_lt _ _).mpr z9))
    have h := co_f k_2 h
    refine lv_lload_n hx hb dX8_isIn_6 rfl (lv_at hl 0 rfl) ?_
    refine lv_lload hx hb dX8_isIn_7 (lv_at hl 2 rfl) ?_
    refine W.lcmp hx hb dX8_isIn_9 ?_
    refine lv_if_gt (tgt := 17) hx hb dX8_isIn_10 (by decide) (fun c_3 => ?_) (fun c_3 => ?_)
    · have k_4 : x4 < x0 := ((lg_cmp_gt _ _).mp c_3)
      have h := co_t k_4 h
      refine lv_iconst (v := (0 : Int32)) hx hb dX8_isIn_17 (by decide) ?_
      have h := Option.some.inj h
      subst h
      subst hQ
      exact W.zret (v := bI false) hx hb hr (bI_n false) (fun t ht hW => ⟨⟨bI false, (), rfl, ⟨rfl, trivial⟩, by rw [ht]; exact hP, hD⟩, hS.F ht⟩) hS.2.2 dX8_isIn_18
    · have k_4 : ¬ (x4 < x0) := (fun z9 => c_3 ((lg_cmp_gt _ _).mpr z9))
      have h := co_f k_4 h
      refine lv_iconst (v := (1 : Int32)) hx hb dX8_isIn_13 (by decide) ?_
      refine lv_goto (tgt := 18) hx hb dX8_isIn_14 (by decide) ?_
      have h := Option.some.inj h
      subst h
      subst hQ
      exact W.zret (v := bI true) hx hb hr (bI_n true) (fun t ht hW => ⟨⟨bI true, (), rfl, ⟨rfl, trivial⟩, by rw [ht]; exact hP, hD⟩, hS.F ht⟩) hS.2.2 dX8_isIn_18
theorem in_X8_may_X8 : ∀ w ∈ wsX80, w ∈ wsX8_may := by decide +kernel
theorem lk_0_X8_may : Cond.fieldLink RX8 81 "ParityClausesModel" "thrown" "I" ∈ wsX8_may := by decide +kernel
abbrev rm_X8_may : Room := { frames := 0, cells := 0, slots := 0, locals := 0 }
set_option maxHeartbeats 4000000 in
set_option maxRecDepth 100000 in
theorem cm_X8_may (l : Launch) (D : va_G) (cI cL : ClassId) (q0 : Nat) (f0_thrown : Int32) (v0_n v0_equations v0_eSet v0_eRight v0_clauses v0_cYes v0_cNo v0_levels v0_levelEquations v0_levelClauses v0_tape v0_tapeSize v0_faultIs v0_faultAt v0_at v0_newEquations v0_newClauses v0_newSet v0_newRight v0_newYes v0_newNo v0_lineYes v0_lineNo v0_rowCount v0_rSet v0_rRight v0_isImpossible v0_sumSet v0_sumOf v0_sumRight v0_empty v0_empties v0_taken v0_ones v0_waitTaken v0_waitOnes v0_nodeCount v0_lastModel v0_modelCount v0_modelIs v0_gSet v0_gateCount : Value) (x1 : Bool) (x2 : Bool) (r0 : Bool × Int32) (hr0 : D_X8_may f0_thrown x1 x2 = some r0) (sz : Nat) : Met l yX8_may wsX8_may rm_X8_may (PcW D cI cL [.ref q0, .int (bI x1), .int (bI x2)] [(q0, .inr (8, [.int f0_thrown, v0_n, v0_equations, v0_eSet, v0_eRight, v0_clauses, v0_cYes, v0_cNo, v0_levels, v0_levelEquations, v0_levelClauses, v0_tape, v0_tapeSize, v0_faultIs, v0_faultAt, v0_at, v0_newEquations, v0_newClauses, v0_newSet, v0_newRight, v0_newYes, v0_newNo, v0_lineYes, v0_lineNo, v0_rowCount, v0_rSet, v0_rRight, v0_isImpossible, v0_sumSet, v0_sumOf, v0_sumRight, v0_empty, v0_empties, v0_taken, v0_ones, v0_waitTaken, v0_waitOnes, v0_nodeCount, v0_lastModel, v0_modelCount, v0_modelIs, v0_gSet, v0_gateCount]))] sz) (QiW D [(q0, .inr (8, [.int f0_thrown, v0_n, v0_equations, v0_eSet, v0_eRight, v0_clauses, v0_cYes, v0_cNo, v0_levels, v0_levelEquations, v0_levelClauses, v0_tape, v0_tapeSize, v0_faultIs, v0_faultAt, v0_at, v0_newEquations, v0_newClauses, v0_newSet, v0_newRight, v0_newYes, v0_newNo, v0_lineYes, v0_lineNo, v0_rowCount, v0_rSet, v0_rRight, v0_isImpossible, v0_sumSet, v0_sumOf, v0_sumRight, v0_empty, v0_empties, v0_taken, v0_ones, v0_waitTaken, v0_waitOnes, v0_nodeCount, v0_lastModel, v0_modelCount, v0_modelIs, v0_gSet, v0_gateCount]))] (bI r0.1) (fun _ : Unit => [(q0, .inr (8, [.int r0.2, v0_n, v0_equations, v0_eSet, v0_eRight, v0_clauses, v0_cYes, v0_cNo, v0_levels, v0_levelEquations, v0_levelClauses, v0_tape, v0_tapeSize, v0_faultIs, v0_faultAt, v0_at, v0_newEquations, v0_newClauses, v0_newSet, v0_newRight, v0_newYes, v0_newNo, v0_lineYes, v0_lineNo, v0_rowCount, v0_rSet, v0_rRight, v0_isImpossible, v0_sumSet, v0_sumOf, v0_sumRight, v0_empty, v0_empties, v0_taken, v0_ones, v0_waitTaken, v0_waitOnes, v0_nodeCount, v0_lastModel, v0_modelCount, v0_modelIs, v0_gSet, v0_gateCount]))]) tU sz) 0 0 (va_A [(q0, .inr (8, [.int f0_thrown, v0_n, v0_equations, v0_eSet, v0_eRight, v0_clauses, v0_cYes, v0_cNo, v0_levels, v0_levelEquations, v0_levelClauses, v0_tape, v0_tapeSize, v0_faultIs, v0_faultAt, v0_at, v0_newEquations, v0_newClauses, v0_newSet, v0_newRight, v0_newYes, v0_newNo, v0_lineYes, v0_lineNo, v0_rowCount, v0_rSet, v0_rRight, v0_isImpossible, v0_sumSet, v0_sumOf, v0_sumRight, v0_empty, v0_empties, v0_taken, v0_ones, v0_waitTaken, v0_waitOnes, v0_nodeCount, v0_lastModel, v0_modelCount, v0_modelIs, v0_gSet, v0_gateCount]))] sz) := by
  refine Met.ofW (cc := cX8_may) (maxL := 3) (ret := (some .boolean)) (by decide) rfl ?_
  intro p e s m args below meth c s₁ B hml hv
  obtain ⟨hargs, hsz, hP, hEV, hD0⟩ := hv
  have hx := B.exec
  have hb := B.bytes
  have hr := B.returns
  have hts := atoms_spec (ws := wsX8_may) B.pre
  have hown : s.vm.findClass RX8 = some m.cls := findClass_of_methodNamed B.named
  have hlocks := B.notSynchronized
  have hK := hEV.K
  have lk_0 := hts _ lk_0_X8_may
  subst hsz
  unfold QiW PoW
  have hD := hD0.self (sz := s.heap.size)
  generalize hAe : va_A [(q0, .inr (8, [.int f0_thrown, v0_n, v0_equations, v0_eSet, v0_eRight, v0_clauses, v0_cYes, v0_cNo, v0_levels, v0_levelEquations, v0_levelClauses, v0_tape, v0_tapeSize, v0_faultIs, v0_faultAt, v0_at, v0_newEquations, v0_newClauses, v0_newSet, v0_newRight, v0_newYes, v0_newNo, v0_lineYes, v0_lineNo, v0_rowCount, v0_rSet, v0_rRight, v0_isImpossible, v0_sumSet, v0_sumOf, v0_sumRight, v0_empty, v0_empties, v0_taken, v0_ones, v0_waitTaken, v0_waitOnes, v0_nodeCount, v0_lastModel, v0_modelCount, v0_modelIs, v0_gSet, v0_gateCount]))] s.heap.size = A at hD ⊢
  have hA : ∀ q : Nat, s.heap.size ≤ q → A q := fun q h => by rw [← hAe]; exact Or.inr h
  have hent : entryFrame m args 3 = entryFrame m ([.ref q0, .int (bI x1), .int (bI x2)] : List Value).toArray 3 := by rw [hargs]
  rw [hent]
  refine kx_Q (fun Q hQ => ?_)
  refine kx_H (fun H hH => ?_)
  have hP : va_P D vwCl [(q0, .inr (8, [.int f0_thrown, v0_n, v0_equations, v0_eSet, v0_eRight, v0_clauses, v0_cYes, v0_cNo, v0_levels, v0_levelEquations, v0_levelClauses, v0_tape, v0_tapeSize, v0_faultIs, v0_faultAt, v0_at, v0_newEquations, v0_newClauses, v0_newSet, v0_newRight, v0_newYes, v0_newNo, v0_lineYes, v0_lineNo, v0_rowCount, v0_rSet, v0_rRight, v0_isImpossible, v0_sumSet, v0_sumOf, v0_sumRight, v0_empty, v0_empties, v0_taken, v0_ones, v0_waitTaken, v0_waitOnes, v0_nodeCount, v0_lastModel, v0_modelCount, v0_modelIs, v0_gSet, v0_gateCount]))] H := by rw [hH]; exact hP
  have hS : va_S A s.heap H [] := by rw [hH]; exact va_S.rf
  have hl := lv_entry ([.ref q0, .int (bI x1), .int (bI x2)]) (n := 3) (Nat.le_of_ble_eq_true rfl)
  rw [lg_entry_eq]
  generalize (lg_sl ([.ref q0, .int (bI x1), .int (bI x2)]) ++ List.replicate (3 - (lg_sl ([.ref q0, .int (bI x1), .int (bI x2)])).length) Slot.unset).toArray = ls at hl ⊢
  have hl : lv_has ls 3 [(0, .ref q0), (1, .int (bI x1)), (2, .int (bI x2))] := hl
  have h := hr0
  unfold D_X8_may at h
  refine lv_aload_n hx hb dX8_may_0 rfl (lv_at hl 0 rfl) ?_
  refine lv_iload_n hx hb dX8_may_1 rfl (lv_at hl 1 rfl) ?_
  refine lv_if_ne (tgt := 9) hx hb dX8_may_2 (by decide) (fun c_1 => ?_) (fun c_1 => ?_)
  · have k_2 : x1 = true := (kx_nz c_1)
    have h := co_t k_2 h
    refine lv_iload_n hx hb dX8_may_9 rfl (lv_at hl 2 rfl) ?_
    refine lv_if_ne (tgt := 17) hx hb dX8_may_10 (by decide) (fun c_3 => ?_) (fun c_3 => ?_)
    · have k_4 : x2 = true := (kx_nz c_3)
      have h := co_t k_4 h
      refine lv_iconst (v := (0 : Int32)) hx hb dX8_may_17 (by decide) ?_
      refine va_put (D := D) (ci := 8) (v := .int (0 : Int32)) (ty := .int) (C := RX8) (T := TX8) (N := 43) hx hb hts in_X8_may_X8 tyX8 tyX8_ok nmX8 hown hK hP hD hS 0 rfl rfl 0 (by decide) lk_0 (fun _ h9 => h9) rfl (by decide +kernel) rfl rfl (Nat.le_of_ble_eq_true rfl) dX8_may_18 (fun H locs hP hD hS => ?_)
      have hP : va_P D vwCl [(q0, .inr (8, [.int (0 : Int32), v0_n, v0_equations, v0_eSet, v0_eRight, v0_clauses, v0_cYes, v0_cNo, v0_levels, v0_levelEquations, v0_levelClauses, v0_tape, v0_tapeSize, v0_faultIs, v0_faultAt, v0_at, v0_newEquations, v0_newClauses, v0_newSet, v0_newRight, v0_newYes, v0_newNo, v0_lineYes, v0_lineNo, v0_rowCount, v0_rSet, v0_rRight, v0_isImpossible, v0_sumSet, v0_sumOf, v0_sumRight, v0_empty, v0_empties, v0_taken, v0_ones, v0_waitTaken, v0_waitOnes, v0_nodeCount, v0_lastModel, v0_modelCount, v0_modelIs, v0_gSet, v0_gateCount]))] H := hP
      have hD : va_D A [(q0, .inr (8, [.int (0 : Int32), v0_n, v0_equations, v0_eSet, v0_eRight, v0_clauses, v0_cYes, v0_cNo, v0_levels, v0_levelEquations, v0_levelClauses, v0_tape, v0_tapeSize, v0_faultIs, v0_faultAt, v0_at, v0_newEquations, v0_newClauses, v0_newSet, v0_newRight, v0_newYes, v0_newNo, v0_lineYes, v0_lineNo, v0_rowCount, v0_rSet, v0_rRight, v0_isImpossible, v0_sumSet, v0_sumOf, v0_sumRight, v0_empty, v0_empties, v0_taken, v0_ones, v0_waitTaken, v0_waitOnes, v0_nodeCount, v0_lastModel, v0_modelCount, v0_modelIs, v0_gSet, v0_gateCount]))] := hD
      refine lv_aload_n hx hb dX8_may_21 rfl (lv_at hl 0 rfl) ?_
      refine va_get (D := D) (ci := 8) (v := .int (0 : Int32)) (C := RX8) (T := TX8) (N := 43) hx hb hts in_X8_may_X8 hown hK hP 0 rfl rfl 0 (by decide) lk_0 (fun _ h9 => h9) rfl dX8_may_22 ?_
      refine lv_if_ne (tgt := 32) hx hb dX8_may_25 (by decide) (fun c_5 => ?_) (fun c_5 => ?_)
      · exact absurd c_5 (by decide)
      · refine lv_iconst (v := (1 : Int32)) hx hb dX8_may_28 (by decide) ?_
        refine lv_goto (tgt := 33) hx hb dX8_may_29 (by decide) ?_
        have h := Option.some.inj h
        subst h
        subst hQ
        exact W.zret (v := bI true) hx hb hr (bI_n true) (fun t ht hW => ⟨⟨bI true, (), rfl, ⟨rfl, trivial⟩, by rw [ht]; exact hP, hD⟩, hS.F ht⟩) hS.2.2 dX8_may_33
    · have k_4 : ¬ (x2 = true) := (kx_z c_3)
      have h := co_f k_4 h
      refine lv_iconst (v := (2 : Int32)) hx hb dX8_may_13 (by decide) ?_
      refine lv_goto (tgt := 18) hx hb dX8_may_14 (by decide) ?_
      refine va_put (D := D) (ci := 8) (v := .int (2 : Int32)) (ty := .int) (C := RX8) (T := TX8) (N := 43) hx hb hts in_X8_may_X8 tyX8 tyX8_ok nmX8 hown hK hP hD hS 0 rfl rfl 0 (by decide) lk_0 (fun _ h9 => h9) rfl (by decide +kernel) rfl rfl (Nat.le_of_ble_eq_true rfl) dX8_may_18 (fun H locs hP hD hS => ?_)
      have hP : va_P D vwCl [(q0, .inr (8, [.int (2 : Int32), v0_n, v0_equations, v0_eSet, v0_eRight, v0_clauses, v0_cYes, v0_cNo, v0_levels, v0_levelEquations, v0_levelClauses, v0_tape, v0_tapeSize, v0_faultIs, v0_faultAt, v0_at, v0_newEquations, v0_newClauses, v0_newSet, v0_newRight, v0_newYes, v0_newNo, v0_lineYes, v0_lineNo, v0_rowCount, v0_rSet, v0_rRight, v0_isImpossible, v0_sumSet, v0_sumOf, v0_sumRight, v0_empty, v0_empties, v0_taken, v0_ones, v0_waitTaken, v0_waitOnes, v0_nodeCount, v0_lastModel, v0_modelCount, v0_modelIs, v0_gSet, v0_gateCount]))] H := hP
      have hD : va_D A [(q0, .inr (8, [.int (2 : Int32), v0_n, v0_equations, v0_eSet, v0_eRight, v0_clauses, v0_cYes, v0_cNo, v0_levels, v0_levelEquations, v0_levelClauses, v0_tape, v0_tapeSize, v0_faultIs, v0_faultAt, v0_at, v0_newEquations, v0_newClauses, v0_newSet, v0_newRight, v0_newYes, v0_newNo, v0_lineYes, v0_lineNo, v0_rowCount, v0_rSet, v0_rRight, v0_isImpossible, v0_sumSet, v0_sumOf, v0_sumRight, v0_empty, v0_empties, v0_taken, v0_ones, v0_waitTaken, v0_waitOnes, v0_nodeCount, v0_lastModel, v0_modelCount, v0_modelIs, v0_gSet, v0_gateCount]))] := hD
      refine lv_aload_n hx hb dX8_may_21 rfl (lv_at hl 0 rfl) ?_
      refine va_get (D := D) (ci := 8) (v := .int (2 : Int32)) (C := RX8) (T := TX8) (N := 43) hx hb hts in_X8_may_X8 hown hK hP 0 rfl rfl 0 (by decide) lk_0 (fun _ h9 => h9) rfl dX8_may_22 ?_
      refine lv_if_ne (tgt := 32) hx hb dX8_may_25 (by decide) (fun c_6 => ?_) (fun c_6 => ?_)
      · refine lv_iconst (v := (0 : Int32)) hx hb dX8_may_32 (by decide) ?_
        have h := Option.some.inj h
        subst h
        subst hQ
        exact W.zret (v := bI false) hx hb hr (bI_n false) (fun t ht hW => ⟨⟨bI false, (), rfl, ⟨rfl, trivial⟩, by rw [ht]; exact hP, hD⟩, hS.F ht⟩) hS.2.2 dX8_may_33
      · exact absurd c_6 (by decide)
  · have k_2 : ¬ (x1 = true) := (kx_z c_1)
    have h := co_f k_2 h
    refine lv_iconst (v := (1 : Int32)) hx hb dX8_may_5 (by decide) ?_
    refine lv_goto (tgt := 18) hx hb dX8_may_6 (by decide) ?_
    refine va_put (D := D) (ci := 8) (v := .int (1 : Int32)) (ty := .int) (C := RX8) (T := TX8) (N := 43) hx hb hts in_X8_may_X8 tyX8 tyX8_ok nmX8 hown hK hP hD hS 0 rfl rfl 0 (by decide) lk_0 (fun _ h9 => h9) rfl (by decide +kernel) rfl rfl (Nat.le_of_ble_eq_true rfl) dX8_may_18 (fun H locs hP hD hS => ?_)
    have hP : va_P D vwCl [(q0, .inr (8, [.int (1 : Int32), v0_n, v0_equations, v0_eSet, v0_eRight, v0_clauses, v0_cYes, v0_cNo, v0_levels, v0_levelEquations, v0_levelClauses, v0_tape, v0_tapeSize, v0_faultIs, v0_faultAt, v0_at, v0_newEquations, v0_newClauses, v0_newSet, v0_newRight, v0_newYes, v0_newNo, v0_lineYes, v0_lineNo, v0_rowCount, v0_rSet, v0_rRight, v0_isImpossible, v0_sumSet, v0_sumOf, v0_sumRight, v0_empty, v0_empties, v0_taken, v0_ones, v0_waitTaken, v0_waitOnes, v0_nodeCount, v0_lastModel, v0_modelCount, v0_modelIs, v0_gSet, v0_gateCount]))] H := hP
    have hD : va_D A [(q0, .inr (8, [.int (1 : Int32), v0_n, v0_equations, v0_eSet, v0_eRight, v0_clauses, v0_cYes, v0_cNo, v0_levels, v0_levelEquations, v0_levelClauses, v0_tape, v0_tapeSize, v0_faultIs, v0_faultAt, v0_at, v0_newEquations, v0_newClauses, v0_newSet, v0_newRight, v0_newYes, v0_newNo, v0_lineYes, v0_lineNo, v0_rowCount, v0_rSet, v0_rRight, v0_isImpossible, v0_sumSet, v0_sumOf, v0_sumRight, v0_empty, v0_empties, v0_taken, v0_ones, v0_waitTaken, v0_waitOnes, v0_nodeCount, v0_lastModel, v0_modelCount, v0_modelIs, v0_gSet, v0_gateCount]))] := hD
    refine lv_aload_n hx hb dX8_may_21 rfl (lv_at hl 0 rfl) ?_
    refine va_get (D := D) (ci := 8) (v := .int (1 : Int32)) (C := RX8) (T := TX8) (N := 43) hx hb hts in_X8_may_X8 hown hK hP 0 rfl rfl 0 (by decide) lk_0 (fun _ h9 => h9) rfl dX8_may_22 ?_
    refine lv_if_ne (tgt := 32) hx hb dX8_may_25 (by decide) (fun c_7 => ?_) (fun c_7 => ?_)
    · refine lv_iconst (v := (0 : Int32)) hx hb dX8_may_32 (by decide) ?_
      have h := Option.some.inj h
      subst h
      subst hQ
      exact W.zret (v := bI false) hx hb hr (bI_n false) (fun t ht hW => ⟨⟨bI false, (), rfl, ⟨rfl, trivial⟩, by rw [ht]; exact hP, hD⟩, hS.F ht⟩) hS.2.2 dX8_may_33
    · exact absurd c_7 (by decide)
theorem in_X8_areThere_X8 : ∀ w ∈ wsX80, w ∈ wsX8_areThere := by decide +kernel
theorem lk_0_X8_areThere : Cond.fieldLink RX8 77 "ParityClausesModel" "n" "I" ∈ wsX8_areThere := by decide +kernel
abbrev rm_X8_areThere : Room := { frames := 0, cells := 0, slots := 0, locals := 0 }
set_option maxHeartbeats 4000000 in
set_option maxRecDepth 100000 in
theorem cm_X8_areThere (l : Launch) (D : va_G) (cI cL : ClassId) (q0 : Nat) (f0_n : Int32) (v0_thrown v0_equations v0_eSet v0_eRight v0_clauses v0_cYes v0_cNo v0_levels v0_levelEquations v0_levelClauses v0_tape v0_tapeSize v0_faultIs v0_faultAt v0_at v0_newEquations v0_newClauses v0_newSet v0_newRight v0_newYes v0_newNo v0_lineYes v0_lineNo v0_rowCount v0_rSet v0_rRight v0_isImpossible v0_sumSet v0_sumOf v0_sumRight v0_empty v0_empties v0_taken v0_ones v0_waitTaken v0_waitOnes v0_nodeCount v0_lastModel v0_modelCount v0_modelIs v0_gSet v0_gateCount : Value) (x1 : Int64) (r0 : Bool) (hr0 : D_X8_areThere f0_n x1 = some r0) (sz : Nat) : Met l yX8_areThere wsX8_areThere rm_X8_areThere (PcW D cI cL [.ref q0, .long x1] [(q0, .inr (8, [v0_thrown, .int f0_n, v0_equations, v0_eSet, v0_eRight, v0_clauses, v0_cYes, v0_cNo, v0_levels, v0_levelEquations, v0_levelClauses, v0_tape, v0_tapeSize, v0_faultIs, v0_faultAt, v0_at, v0_newEquations, v0_newClauses, v0_newSet, v0_newRight, v0_newYes, v0_newNo, v0_lineYes, v0_lineNo, v0_rowCount, v0_rSet, v0_rRight, v0_isImpossible, v0_sumSet, v0_sumOf, v0_sumRight, v0_empty, v0_empties, v0_taken, v0_ones, v0_waitTaken, v0_waitOnes, v0_nodeCount, v0_lastModel, v0_modelCount, v0_modelIs, v0_gSet, v0_gateCount]))] sz) (QiW D [(q0, .inr (8, [v0_thrown, .int f0_n, v0_equations, v0_eSet, v0_eRight, v0_clauses, v0_cYes, v0_cNo, v0_levels, v0_levelEquations, v0_levelClauses, v0_tape, v0_tapeSize, v0_faultIs, v0_faultAt, v0_at, v0_newEquations, v0_newClauses, v0_newSet, v0_newRight, v0_newYes, v0_newNo, v0_lineYes, v0_lineNo, v0_rowCount, v0_rSet, v0_rRight, v0_isImpossible, v0_sumSet, v0_sumOf, v0_sumRight, v0_empty, v0_empties, v0_taken, v0_ones, v0_waitTaken, v0_waitOnes, v0_nodeCount, v0_lastModel, v0_modelCount, v0_modelIs, v0_gSet, v0_gateCount]))] (bI r0) (fun _ : Unit => [(q0, .inr (8, [v0_thrown, .int f0_n, v0_equations, v0_eSet, v0_eRight, v0_clauses, v0_cYes, v0_cNo, v0_levels, v0_levelEquations, v0_levelClauses, v0_tape, v0_tapeSize, v0_faultIs, v0_faultAt, v0_at, v0_newEquations, v0_newClauses, v0_newSet, v0_newRight, v0_newYes, v0_newNo, v0_lineYes, v0_lineNo, v0_rowCount, v0_rSet, v0_rRight, v0_isImpossible, v0_sumSet, v0_sumOf, v0_sumRight, v0_empty, v0_empties, v0_taken, v0_ones, v0_waitTaken, v0_waitOnes, v0_nodeCount, v0_lastModel, v0_modelCount, v0_modelIs, v0_gSet, v0_gateCount]))]) tU sz) 0 0 (va_A [(q0, .inr (8, [v0_thrown, .int f0_n, v0_equations, v0_eSet, v0_eRight, v0_clauses, v0_cYes, v0_cNo, v0_levels, v0_levelEquations, v0_levelClauses, v0_tape, v0_tapeSize, v0_faultIs, v0_faultAt, v0_at, v0_newEquations, v0_newClauses, v0_newSet, v0_newRight, v0_newYes, v0_newNo, v0_lineYes, v0_lineNo, v0_rowCount, v0_rSet, v0_rRight, v0_isImpossible, v0_sumSet, v0_sumOf, v0_sumRight, v0_empty, v0_empties, v0_taken, v0_ones, v0_waitTaken, v0_waitOnes, v0_nodeCount, v0_lastModel, v0_modelCount, v0_modelIs, v0_gSet, v0_gateCount]))] sz) := by
  refine Met.ofW (cc := cX8_areThere) (maxL := 3) (ret := (some .boolean)) (by decide) rfl ?_
  intro p e s m args below meth c s₁ B hml hv
  obtain ⟨hargs, hsz, hP, hEV, hD0⟩ := hv
  have hx := B.exec
  have hb := B.bytes
  have hr := B.returns
  have hts := atoms_spec (ws := wsX8_areThere) B.pre
  have hown : s.vm.findClass RX8 = some m.cls := findClass_of_methodNamed B.named
  have hlocks := B.notSynchronized
  have hK := hEV.K
  have lk_0 := hts _ lk_0_X8_areThere
  subst hsz
  unfold QiW PoW
  have hD := hD0.self (sz := s.heap.size)
  generalize hAe : va_A [(q0, .inr (8, [v0_thrown, .int f0_n, v0_equations, v0_eSet, v0_eRight, v0_clauses, v0_cYes, v0_cNo, v0_levels, v0_levelEquations, v0_levelClauses, v0_tape, v0_tapeSize, v0_faultIs, v0_faultAt, v0_at, v0_newEquations, v0_newClauses, v0_newSet, v0_newRight, v0_newYes, v0_newNo, v0_lineYes, v0_lineNo, v0_rowCount, v0_rSet, v0_rRight, v0_isImpossible, v0_sumSet, v0_sumOf, v0_sumRight, v0_empty, v0_empties, v0_taken, v0_ones, v0_waitTaken, v0_waitOnes, v0_nodeCount, v0_lastModel, v0_modelCount, v0_modelIs, v0_gSet, v0_gateCount]))] s.heap.size = A at hD ⊢
  have hA : ∀ q : Nat, s.heap.size ≤ q → A q := fun q h => by rw [← hAe]; exact Or.inr h
  have hent : entryFrame m args 3 = entryFrame m ([.ref q0, .long x1] : List Value).toArray 3 := by rw [hargs]
  rw [hent]
  refine kx_Q (fun Q hQ => ?_)
  refine kx_H (fun H hH => ?_)
  have hP : va_P D vwCl [(q0, .inr (8, [v0_thrown, .int f0_n, v0_equations, v0_eSet, v0_eRight, v0_clauses, v0_cYes, v0_cNo, v0_levels, v0_levelEquations, v0_levelClauses, v0_tape, v0_tapeSize, v0_faultIs, v0_faultAt, v0_at, v0_newEquations, v0_newClauses, v0_newSet, v0_newRight, v0_newYes, v0_newNo, v0_lineYes, v0_lineNo, v0_rowCount, v0_rSet, v0_rRight, v0_isImpossible, v0_sumSet, v0_sumOf, v0_sumRight, v0_empty, v0_empties, v0_taken, v0_ones, v0_waitTaken, v0_waitOnes, v0_nodeCount, v0_lastModel, v0_modelCount, v0_modelIs, v0_gSet, v0_gateCount]))] H := by rw [hH]; exact hP
  have hS : va_S A s.heap H [] := by rw [hH]; exact va_S.rf
  have hl := lv_entry ([.ref q0, .long x1]) (n := 3) (Nat.le_of_ble_eq_true rfl)
  rw [lg_entry_eq]
  generalize (lg_sl ([.ref q0, .long x1]) ++ List.replicate (3 - (lg_sl ([.ref q0, .long x1])).length) Slot.unset).toArray = ls at hl ⊢
  have hl : lv_has ls 3 [(0, .ref q0), (1, .long x1)] := hl
  have h := hr0
  unfold D_X8_areThere at h
  refine lv_lload_n hx hb dX8_areThere_0 rfl (lv_at hl 1 rfl) ?_
  refine lv_aload_n hx hb dX8_areThere_1 rfl (lv_at hl 0 rfl) ?_
  refine va_get (D := D) (ci := 8) (v := .int f0_n) (C := RX8) (T := TX8) (N := 43) hx hb hts in_X8_areThere_X8 hown hK hP 0 rfl rfl 1 (by decide) lk_0 (fun _ h9 => h9) rfl dX8_areThere_2 ?_
  refine lv_lshr (v := jshr x1 f0_n) hx hb dX8_areThere_5 rfl ?_
  refine lv_lconst (v := (0 : Int64)) hx hb dX8_areThere_6 (by decide) ?_
  refine W.lcmp hx hb dX8_areThere_7 ?_
  refine lv_if_ne (tgt := 15) hx hb dX8_areThere_8 (by decide) (fun c_1 => ?_) (fun c_1 => ?_)
  · have k_2 : ¬ ((jshr x1 f0_n) = (0 : Int64)) := (fun z9 => c_1 ((lg_cmp_eq _ _).mpr z9))
    have h := co_f k_2 h
    refine lv_iconst (v := (0 : Int32)) hx hb dX8_areThere_15 (by decide) ?_
    have h := Option.some.inj h
    subst h
    subst hQ
    exact W.zret (v := bI false) hx hb hr (bI_n false) (fun t ht hW => ⟨⟨bI false, (), rfl, ⟨rfl, trivial⟩, by rw [ht]; exact hP, hD⟩, hS.F ht⟩) hS.2.2 dX8_areThere_16
  · have k_2 : (jshr x1 f0_n) = (0 : Int64) := ((lg_cmp_eq _ _).mp c_1)
    have h := co_t k_2 h
    refine lv_iconst (v := (1 : Int32)) hx hb dX8_areThere_11 (by decide) ?_
    refine lv_goto (tgt := 16) hx hb dX8_areThere_12 (by decide) ?_
    have h := Option.some.inj h
    subst h
    subst hQ
    exact W.zret (v := bI true) hx hb hr (bI_n true) (fun t ht hW => ⟨⟨bI true, (), rfl, ⟨rfl, trivial⟩, by rw [ht]; exact hP, hD⟩, hS.F ht⟩) hS.2.2 dX8_areThere_16
abbrev rm_X8_bits : Room := { frames := 0, cells := 0, slots := 0, locals := 0 }
set_option maxHeartbeats 4000000 in
set_option maxRecDepth 100000 in
theorem cm_X8_bits (l : Launch) (D : va_G) (cI cL : ClassId) (x0 : Int64) (r0 : Int32) (hr0 : D_X8_bits x0 = some r0) (sz : Nat) : Met l yX8_bits wsX8_bits rm_X8_bits (PcW D cI cL [.long x0] [] sz) (QiW D [] r0 (fun _ : Unit => []) tU sz) 0 0 (va_A [] sz) := by
  refine Met.ofW (cc := cX8_bits) (maxL := 4) (ret := (some .int)) (by decide) rfl ?_
  intro p e s m args below meth c s₁ B hml hv
  obtain ⟨hargs, hsz, hP, hEV, hD0⟩ := hv
  have hx := B.exec
  have hb := B.bytes
  have hr := B.returns
  have hts := atoms_spec (ws := wsX8_bits) B.pre
  have hown : s.vm.findClass RX8 = some m.cls := findClass_of_methodNamed B.named
  have hlocks := B.notSynchronized
  have hK := hEV.K
  subst hsz
  unfold QiW PoW
  have hD := hD0.self (sz := s.heap.size)
  generalize hAe : va_A [] s.heap.size = A at hD ⊢
  have hA : ∀ q : Nat, s.heap.size ≤ q → A q := fun q h => by rw [← hAe]; exact Or.inr h
  have hent : entryFrame m args 4 = entryFrame m ([.long x0] : List Value).toArray 4 := by rw [hargs]
  rw [hent]
  refine kx_Q (fun Q hQ => ?_)
  refine kx_H (fun H hH => ?_)
  have hP : va_P D vwCl [] H := by rw [hH]; exact hP
  have hS : va_S A s.heap H [] := by rw [hH]; exact va_S.rf
  have hl := lv_entry ([.long x0]) (n := 4) (Nat.le_of_ble_eq_true rfl)
  rw [lg_entry_eq]
  generalize (lg_sl ([.long x0]) ++ List.replicate (4 - (lg_sl ([.long x0])).length) Slot.unset).toArray = ls at hl ⊢
  have hl : lv_has ls 4 [(0, .long x0)] := hl
  have hloop : ∀ n9 : Nat, (∀ (x2 : Int32) (x3 : Int32), iter (st_X8_bits x0) n9 (x2, x3) = some r0 → ∀ (H : Heap) (locs : List Loc) (ls : Array Slot), va_P D vwCl [] H → va_D A [] → va_S A s.heap H locs → lv_has ls 4 [(0, .long x0), (2, .int x2), (3, .int x3)] → W p l e (headSpec wsX8_bits rm_X8_bits).room s m args below meth c H locs 0 0 Q (F0 m 4 ls [])) := by
    intro n9
    induction n9 with
    | zero => exact (fun _ _ h => nomatch h)
    | succ n9 ih =>
      intro x2 x3 h H locs ls hP hD hS hl
      have h : run1 (iter (st_X8_bits x0) n9) (b_X8_bits_4 x0 x2 x3) = some r0 := h
      unfold b_X8_bits_4 at h
      refine lv_iload_n hx hb dX8_bits_4 rfl (lv_at hl 2 rfl) ?_
      refine lv_bipush (v := (63 : Int32)) hx hb dX8_bits_5 (by decide) ?_
      refine lv_icmp_ge (tgt := 34) hx hb dX8_bits_7 (by decide) (fun c_1 => ?_) (fun c_1 => ?_)
      · have k_2 : (63 : Int32) ≤ x3 := c_1
        have h := cw_t k_2 h
        refine lv_iload_n hx hb dX8_bits_34 rfl (lv_at hl 1 rfl) ?_
        have h := Option.some.inj h
        subst h
        subst hQ
        exact W.iret (v := x2) hx hb hr (fun t ht hW => ⟨⟨x2, (), rfl, ⟨rfl, trivial⟩, by rw [ht]; exact hP, hD⟩, hS.F ht⟩) hS.2.2 dX8_bits_35
      · have k_2 : ¬ ((63 : Int32) ≤ x3) := c_1
        have h := cw_f k_2 h
        refine lv_iload_n hx hb dX8_bits_10 rfl (lv_at hl 1 rfl) ?_
        refine lv_lload_n hx hb dX8_bits_11 rfl (lv_at hl 0 rfl) ?_
        refine lv_iload_n hx hb dX8_bits_12 rfl (lv_at hl 2 rfl) ?_
        refine lv_lshr (v := jshr x0 x3) hx hb dX8_bits_13 rfl ?_
        refine lv_lconst (v := (1 : Int64)) hx hb dX8_bits_14 (by decide) ?_
        refine lv_land hx hb dX8_bits_15 ?_
        refine lv_lconst (v := (1 : Int64)) hx hb dX8_bits_16 (by decide) ?_
        refine W.lcmp hx hb dX8_bits_17 ?_
        refine lv_if_ne (tgt := 25) hx hb dX8_bits_18 (by decide) (fun c_3 => ?_) (fun c_3 => ?_)
        · have k_4 : ¬ (((jshr x0 x3) &&& (1 : Int64)) = (1 : Int64)) := (fun z9 => c_3 ((lg_cmp_eq _ _).mpr z9))
          have h := cw_f k_4 h
          refine lv_iconst (v := (0 : Int32)) hx hb dX8_bits_25 (by decide) ?_
          refine lv_iadd hx hb dX8_bits_26 ?_
          refine lv_istore_n (lv' := [(2, .int (x2 + (0 : Int32))), (0, .long x0), (3, .int x3)]) hx hb dX8_bits_27 rfl hl (by decide) rfl (fun ls hl => ?_)
          refine lv_iinc (v := x3 + (1 : Int32)) (lv' := [(3, .int (x3 + (1 : Int32))), (2, .int (x2 + (0 : Int32))), (0, .long x0)]) hx hb dX8_bits_28 hl (k := 2) rfl rfl (by decide) rfl (fun ls hl => ?_)
          refine lv_goto (tgt := 4) hx hb dX8_bits_31 (by decide) ?_
          exact ih _ _ h _ _ _ hP hD hS (lv_sub hl [2, 1, 0] rfl)
        · have k_4 : ((jshr x0 x3) &&& (1 : Int64)) = (1 : Int64) := ((lg_cmp_eq _ _).mp c_3)
          have h := cw_t k_4 h
          refine lv_iconst (v := (1 : Int32)) hx hb dX8_bits_21 (by decide) ?_
          refine lv_goto (tgt := 26) hx hb dX8_bits_22 (by decide) ?_
          refine lv_iadd hx hb dX8_bits_26 ?_
          refine lv_istore_n (lv' := [(2, .int (x2 + (1 : Int32))), (0, .long x0), (3, .int x3)]) hx hb dX8_bits_27 rfl hl (by decide) rfl (fun ls hl => ?_)
          refine lv_iinc (v := x3 + (1 : Int32)) (lv' := [(3, .int (x3 + (1 : Int32))), (2, .int (x2 + (1 : Int32))), (0, .long x0)]) hx hb dX8_bits_28 hl (k := 2) rfl rfl (by decide) rfl (fun ls hl => ?_)
          refine lv_goto (tgt := 4) hx hb dX8_bits_31 (by decide) ?_
          exact ih _ _ h _ _ _ hP hD hS (lv_sub hl [2, 1, 0] rfl)
  have h := hr0
  unfold D_X8_bits at h
  refine lv_iconst (v := (0 : Int32)) hx hb dX8_bits_0 (by decide) ?_
  refine lv_istore_n (lv' := [(2, .int (0 : Int32)), (0, .long x0)]) hx hb dX8_bits_1 rfl hl (by decide) rfl (fun ls hl => ?_)
  refine lv_iconst (v := (0 : Int32)) hx hb dX8_bits_2 (by decide) ?_
  refine lv_istore_n (lv' := [(3, .int (0 : Int32)), (2, .int (0 : Int32)), (0, .long x0)]) hx hb dX8_bits_3 rfl hl (by decide) rfl (fun ls hl => ?_)
  obtain ⟨n9, hn9⟩ := runw_some h
  exact (hloop n9) _ _ hn9 _ _ _ hP hD hS (lv_sub hl [2, 1, 0] rfl)
abbrev rm_X8_parity : Room := { frames := 1, cells := 0, slots := 0, locals := 23 }
set_option maxHeartbeats 4000000 in
set_option maxRecDepth 100000 in
theorem cm_X8_parity (l : Launch) (D : va_G) (cI cL : ClassId) (x0 : Int64) (r0 : Int32) (hr0 : D_X8_parity x0 = some r0) (sz : Nat) : Met l yX8_parity wsX8_parity rm_X8_parity (PcW D cI cL [.long x0] [] sz) (QiW D [] r0 (fun _ : Unit => []) tU sz) 0 0 (va_A [] sz) := by
  refine Met.ofW (cc := cX8_parity) (maxL := 2) (ret := (some .int)) (by decide) rfl ?_
  intro p e s m args below meth c s₁ B hml hv
  obtain ⟨hargs, hsz, hP, hEV, hD0⟩ := hv
  have hx := B.exec
  have hb := B.bytes
  have hr := B.returns
  have hts := atoms_spec (ws := wsX8_parity) B.pre
  have hown : s.vm.findClass RX8 = some m.cls := findClass_of_methodNamed B.named
  have hlocks := B.notSynchronized
  have hK := hEV.K
  subst hsz
  unfold QiW PoW
  have hD := hD0.self (sz := s.heap.size)
  generalize hAe : va_A [] s.heap.size = A at hD ⊢
  have hA : ∀ q : Nat, s.heap.size ≤ q → A q := fun q h => by rw [← hAe]; exact Or.inr h
  have hent : entryFrame m args 2 = entryFrame m ([.long x0] : List Value).toArray 2 := by rw [hargs]
  rw [hent]
  refine kx_Q (fun Q hQ => ?_)
  refine kx_H (fun H hH => ?_)
  have hP : va_P D vwCl [] H := by rw [hH]; exact hP
  have hS : va_S A s.heap H [] := by rw [hH]; exact va_S.rf
  have hl := lv_entry ([.long x0]) (n := 2) (Nat.le_of_ble_eq_true rfl)
  rw [lg_entry_eq]
  generalize (lg_sl ([.long x0]) ++ List.replicate (2 - (lg_sl ([.long x0])).length) Slot.unset).toArray = ls at hl ⊢
  have hl : lv_has ls 2 [(0, .long x0)] := hl
  have h := hr0
  unfold D_X8_parity at h
  refine lv_lload_n hx hb dX8_parity_0 rfl (lv_at hl 0 rfl) ?_
  obtain ⟨u_1, hu_2, h⟩ := co_b h
  refine kx_i (ws' := fun _ => []) hP hD hS hA [] [] [] rfl rfl (by decide) (by decide) (fun _ => rfl) (by decide) (va_runS (As := [.long x0]) (rest := []) ⟨hx, hb, hml, hown, hts⟩ (cm_X8_bits l D cI cL (x0 := x0) (r0 := u_1) (hr0 := hu_2) (sz := H.size)) (va_cwS 1 hts gX8_parity_X8_bits rfl rfl rfl (by decide +kernel) ⟨Nat.le_of_ble_eq_true rfl, Nat.le_of_ble_eq_true rfl⟩) (kx_preS hEV hP hD [] rfl (by decide)) rfl rfl hl.1 rfl (lv_room (Nat.le_of_ble_eq_true rfl)) dX8_parity_1 ⟨Nat.le_of_ble_eq_true rfl, Nat.le_of_ble_eq_true rfl⟩) (fun _ H locs _ hP hD hS => ?_)
  refine lv_iconst (v := (1 : Int32)) hx hb dX8_parity_4 (by decide) ?_
  refine lv_iand hx hb dX8_parity_5 ?_
  have h := Option.some.inj h
  subst h
  subst hQ
  exact W.iret (v := u_1 &&& (1 : Int32)) hx hb hr (fun t ht hW => ⟨⟨u_1 &&& (1 : Int32), (), rfl, ⟨rfl, trivial⟩, by rw [ht]; exact hP, hD⟩, hS.F ht⟩) hS.2.2 dX8_parity_6
abbrev rm_X8_lowest : Room := { frames := 0, cells := 0, slots := 0, locals := 0 }
set_option maxHeartbeats 4000000 in
set_option maxRecDepth 100000 in
theorem cm_X8_lowest (l : Launch) (D : va_G) (cI cL : ClassId) (x0 : Int64) (r0 : Int64) (hr0 : D_X8_lowest x0 = some r0) (sz : Nat) : Met l yX8_lowest wsX8_lowest rm_X8_lowest (PcW D cI cL [.long x0] [] sz) (QlW D [] r0 (fun _ : Unit => []) tU sz) 0 0 (va_A [] sz) := by
  refine Met.ofW (cc := cX8_lowest) (maxL := 2) (ret := (some .long)) (by decide) rfl ?_
  intro p e s m args below meth c s₁ B hml hv
  obtain ⟨hargs, hsz, hP, hEV, hD0⟩ := hv
  have hx := B.exec
  have hb := B.bytes
  have hr := B.returns
  have hts := atoms_spec (ws := wsX8_lowest) B.pre
  have hown : s.vm.findClass RX8 = some m.cls := findClass_of_methodNamed B.named
  have hlocks := B.notSynchronized
  have hK := hEV.K
  subst hsz
  unfold QlW PoW
  have hD := hD0.self (sz := s.heap.size)
  generalize hAe : va_A [] s.heap.size = A at hD ⊢
  have hA : ∀ q : Nat, s.heap.size ≤ q → A q := fun q h => by rw [← hAe]; exact Or.inr h
  have hent : entryFrame m args 2 = entryFrame m ([.long x0] : List Value).toArray 2 := by rw [hargs]
  rw [hent]
  refine kx_Q (fun Q hQ => ?_)
  refine kx_H (fun H hH => ?_)
  have hP : va_P D vwCl [] H := by rw [hH]; exact hP
  have hS : va_S A s.heap H [] := by rw [hH]; exact va_S.rf
  have hl := lv_entry ([.long x0]) (n := 2) (Nat.le_of_ble_eq_true rfl)
  rw [lg_entry_eq]
  generalize (lg_sl ([.long x0]) ++ List.replicate (2 - (lg_sl ([.long x0])).length) Slot.unset).toArray = ls at hl ⊢
  have hl : lv_has ls 2 [(0, .long x0)] := hl
  have h := hr0
  unfold D_X8_lowest at h
  refine lv_lload_n hx hb dX8_lowest_0 rfl (lv_at hl 0 rfl) ?_
  refine lv_lload_n hx hb dX8_lowest_1 rfl (lv_at hl 0 rfl) ?_
  refine lv_lneg hx hb dX8_lowest_2 ?_
  refine lv_land hx hb dX8_lowest_3 ?_
  have h := Option.some.inj h
  subst h
  subst hQ
  exact W.lret (v := x0 &&& (-x0)) hx hb hr (fun t ht hW => ⟨⟨x0 &&& (-x0), (), rfl, ⟨rfl, trivial⟩, by rw [ht]; exact hP, hD⟩, hS.F ht⟩) hS.2.2 dX8_lowest_4
theorem lk_0_X8_highest : Cond.constantLong RX8 88 (4611686018427387904) ∈ wsX8_highest := by decide +kernel
abbrev rm_X8_highest : Room := { frames := 0, cells := 0, slots := 0, locals := 0 }
set_option maxHeartbeats 4000000 in
set_option maxRecDepth 100000 in
theorem cm_X8_highest (l : Launch) (D : va_G) (cI cL : ClassId) (x0 : Int64) (r0 : Int64) (hr0 : D_X8_highest x0 = some r0) (sz : Nat) : Met l yX8_highest wsX8_highest rm_X8_highest (PcW D cI cL [.long x0] [] sz) (QlW D [] r0 (fun _ : Unit => []) tU sz) 0 0 (va_A [] sz) := by
  refine Met.ofW (cc := cX8_highest) (maxL := 4) (ret := (some .long)) (by decide) rfl ?_
  intro p e s m args below meth c s₁ B hml hv
  obtain ⟨hargs, hsz, hP, hEV, hD0⟩ := hv
  have hx := B.exec
  have hb := B.bytes
  have hr := B.returns
  have hts := atoms_spec (ws := wsX8_highest) B.pre
  have hown : s.vm.findClass RX8 = some m.cls := findClass_of_methodNamed B.named
  have hlocks := B.notSynchronized
  have hK := hEV.K
  have lk_0 := hts _ lk_0_X8_highest
  subst hsz
  unfold QlW PoW
  have hD := hD0.self (sz := s.heap.size)
  generalize hAe : va_A [] s.heap.size = A at hD ⊢
  have hA : ∀ q : Nat, s.heap.size ≤ q → A q := fun q h => by rw [← hAe]; exact Or.inr h
  have hent : entryFrame m args 4 = entryFrame m ([.long x0] : List Value).toArray 4 := by rw [hargs]
  rw [hent]
  refine kx_Q (fun Q hQ => ?_)
  refine kx_H (fun H hH => ?_)
  have hP : va_P D vwCl [] H := by rw [hH]; exact hP
  have hS : va_S A s.heap H [] := by rw [hH]; exact va_S.rf
  have hl := lv_entry ([.long x0]) (n := 4) (Nat.le_of_ble_eq_true rfl)
  rw [lg_entry_eq]
  generalize (lg_sl ([.long x0]) ++ List.replicate (4 - (lg_sl ([.long x0])).length) Slot.unset).toArray = ls at hl ⊢
  have hl : lv_has ls 4 [(0, .long x0)] := hl
  have hloop : ∀ n9 : Nat, (∀ (x2 : Int64), iter (st_X8_highest x0) n9 x2 = some r0 → ∀ (H : Heap) (locs : List Loc) (ls : Array Slot), va_P D vwCl [] H → va_D A [] → va_S A s.heap H locs → lv_has ls 4 [(0, .long x0), (2, .long x2)] → W p l e (headSpec wsX8_highest rm_X8_highest).room s m args below meth c H locs 0 0 Q (F0 m 4 ls [])) := by
    intro n9
    induction n9 with
    | zero => exact (fun _ h => nomatch h)
    | succ n9 ih =>
      intro x2 h H locs ls hP hD hS hl
      have h : run1 (iter (st_X8_highest x0) n9) (b_X8_highest_4 x0 x2) = some r0 := h
      unfold b_X8_highest_4 at h
      refine lv_lload_n hx hb dX8_highest_4 rfl (lv_at hl 0 rfl) ?_
      refine lv_lload_n hx hb dX8_highest_5 rfl (lv_at hl 1 rfl) ?_
      refine lv_land hx hb dX8_highest_6 ?_
      refine lv_lconst (v := (0 : Int64)) hx hb dX8_highest_7 (by decide) ?_
      refine W.lcmp hx hb dX8_highest_8 ?_
      refine lv_if_ne (tgt := 19) hx hb dX8_highest_9 (by decide) (fun c_1 => ?_) (fun c_1 => ?_)
      · have k_2 : ¬ ((x0 &&& x2) = (0 : Int64)) := (fun z9 => c_1 ((lg_cmp_eq _ _).mpr z9))
        have h := cw_f k_2 h
        refine lv_lload_n hx hb dX8_highest_19 rfl (lv_at hl 1 rfl) ?_
        have h := Option.some.inj h
        subst h
        subst hQ
        exact W.lret (v := x2) hx hb hr (fun t ht hW => ⟨⟨x2, (), rfl, ⟨rfl, trivial⟩, by rw [ht]; exact hP, hD⟩, hS.F ht⟩) hS.2.2 dX8_highest_20
      · have k_2 : (x0 &&& x2) = (0 : Int64) := ((lg_cmp_eq _ _).mp c_1)
        have h := cw_t k_2 h
        refine lv_lload_n hx hb dX8_highest_12 rfl (lv_at hl 1 rfl) ?_
        refine lv_iconst (v := (1 : Int32)) hx hb dX8_highest_13 (by decide) ?_
        refine lv_lshr (v := jshr x2 (1 : Int32)) hx hb dX8_highest_14 rfl ?_
        refine lv_lstore_n (lv' := [(2, .long (jshr x2 (1 : Int32))), (0, .long x0)]) hx hb dX8_highest_15 rfl hl (by decide) rfl (fun ls hl => ?_)
        refine lv_goto (tgt := 4) hx hb dX8_highest_16 (by decide) ?_
        exact ih _ h _ _ _ hP hD hS (lv_sub hl [1, 0] rfl)
  have h := hr0
  unfold D_X8_highest at h
  refine lv_ldc2 hx hb hown lk_0 dX8_highest_0 ?_
  refine lv_lstore_n (lv' := [(2, .long (4611686018427387904 : Int64)), (0, .long x0)]) hx hb dX8_highest_3 rfl hl (by decide) rfl (fun ls hl => ?_)
  obtain ⟨n9, hn9⟩ := runw_some h
  exact (hloop n9) _ hn9 _ _ _ hP hD hS (lv_sub hl [1, 0] rfl)
theorem in_X8_equation_X8 : ∀ w ∈ wsX80, w ∈ wsX8_equation := by decide +kernel
theorem lk_0_X8_equation : Cond.fieldLink RX8 98 "ParityClausesModel" "equations" "I" ∈ wsX8_equation := by decide +kernel
theorem lk_1_X8_equation : Cond.fieldLink RX8 7 "ParityClausesModel" "eSet" "[J" ∈ wsX8_equation := by decide +kernel
theorem lk_2_X8_equation : Cond.fieldLink RX8 13 "ParityClausesModel" "eRight" "[I" ∈ wsX8_equation := by decide +kernel
abbrev rm_X8_equation : Room := { frames := 1, cells := 0, slots := 0, locals := 25 }
set_option maxHeartbeats 4000000 in
set_option maxRecDepth 100000 in
theorem cm_X8_equation (l : Launch) (D : va_G) (cI cL : ClassId) (q0 q0_eSet q0_eRight : Nat) (n0_eSet n0_eRight : Nat) (f0_thrown : Int32) (f0_n : Int32) (f0_equations : Int32) (h0_eSet : Nat → Int64) (h0_eRight : Nat → Int32) (v0_clauses v0_cYes v0_cNo v0_levels v0_levelEquations v0_levelClauses v0_tape v0_tapeSize v0_faultIs v0_faultAt v0_at v0_newEquations v0_newClauses v0_newSet v0_newRight v0_newYes v0_newNo v0_lineYes v0_lineNo v0_rowCount v0_rSet v0_rRight v0_isImpossible v0_sumSet v0_sumOf v0_sumRight v0_empty v0_empties v0_taken v0_ones v0_waitTaken v0_waitOnes v0_nodeCount v0_lastModel v0_modelCount v0_modelIs v0_gSet v0_gateCount : Value) (x1 : Int64) (x3 : Int32) (r0 : Int32 × Int32 × Int32 × (Nat → Int64) × (Nat → Int32)) (hr0 : D_X8_equation f0_thrown f0_n f0_equations n0_eSet h0_eSet n0_eRight h0_eRight x1 x3 = some r0) (sz : Nat) : Met l yX8_equation wsX8_equation rm_X8_equation (PcW D cI cL [.ref q0, .long x1, .int x3] [(q0, .inr (8, [.int f0_thrown, .int f0_n, .int f0_equations, .ref q0_eSet, .ref q0_eRight, v0_clauses, v0_cYes, v0_cNo, v0_levels, v0_levelEquations, v0_levelClauses, v0_tape, v0_tapeSize, v0_faultIs, v0_faultAt, v0_at, v0_newEquations, v0_newClauses, v0_newSet, v0_newRight, v0_newYes, v0_newNo, v0_lineYes, v0_lineNo, v0_rowCount, v0_rSet, v0_rRight, v0_isImpossible, v0_sumSet, v0_sumOf, v0_sumRight, v0_empty, v0_empties, v0_taken, v0_ones, v0_waitTaken, v0_waitOnes, v0_nodeCount, v0_lastModel, v0_modelCount, v0_modelIs, v0_gSet, v0_gateCount])), (q0_eSet, .inl (cL, n0_eSet, .inr (.inl h0_eSet))), (q0_eRight, .inl (cI, n0_eRight, .inl h0_eRight))] sz) (QiW D [(q0, .inr (8, [.int f0_thrown, .int f0_n, .int f0_equations, .ref q0_eSet, .ref q0_eRight, v0_clauses, v0_cYes, v0_cNo, v0_levels, v0_levelEquations, v0_levelClauses, v0_tape, v0_tapeSize, v0_faultIs, v0_faultAt, v0_at, v0_newEquations, v0_newClauses, v0_newSet, v0_newRight, v0_newYes, v0_newNo, v0_lineYes, v0_lineNo, v0_rowCount, v0_rSet, v0_rRight, v0_isImpossible, v0_sumSet, v0_sumOf, v0_sumRight, v0_empty, v0_empties, v0_taken, v0_ones, v0_waitTaken, v0_waitOnes, v0_nodeCount, v0_lastModel, v0_modelCount, v0_modelIs, v0_gSet, v0_gateCount])), (q0_eSet, .inl (cL, n0_eSet, .inr (.inl h0_eSet))), (q0_eRight, .inl (cI, n0_eRight, .inl h0_eRight))] r0.1 (fun _ : Unit => [(q0, .inr (8, [.int r0.2.1, .int f0_n, .int r0.2.2.1, .ref q0_eSet, .ref q0_eRight, v0_clauses, v0_cYes, v0_cNo, v0_levels, v0_levelEquations, v0_levelClauses, v0_tape, v0_tapeSize, v0_faultIs, v0_faultAt, v0_at, v0_newEquations, v0_newClauses, v0_newSet, v0_newRight, v0_newYes, v0_newNo, v0_lineYes, v0_lineNo, v0_rowCount, v0_rSet, v0_rRight, v0_isImpossible, v0_sumSet, v0_sumOf, v0_sumRight, v0_empty, v0_empties, v0_taken, v0_ones, v0_waitTaken, v0_waitOnes, v0_nodeCount, v0_lastModel, v0_modelCount, v0_modelIs, v0_gSet, v0_gateCount])), (q0_eSet, .inl (cL, n0_eSet, .inr (.inl r0.2.2.2.1))), (q0_eRight, .inl (cI, n0_eRight, .inl r0.2.2.2.2))]) tU sz) 0 0 (va_A [(q0, .inr (8, [.int f0_thrown, .int f0_n, .int f0_equations, .ref q0_eSet, .ref q0_eRight, v0_clauses, v0_cYes, v0_cNo, v0_levels, v0_levelEquations, v0_levelClauses, v0_tape, v0_tapeSize, v0_faultIs, v0_faultAt, v0_at, v0_newEquations, v0_newClauses, v0_newSet, v0_newRight, v0_newYes, v0_newNo, v0_lineYes, v0_lineNo, v0_rowCount, v0_rSet, v0_rRight, v0_isImpossible, v0_sumSet, v0_sumOf, v0_sumRight, v0_empty, v0_empties, v0_taken, v0_ones, v0_waitTaken, v0_waitOnes, v0_nodeCount, v0_lastModel, v0_modelCount, v0_modelIs, v0_gSet, v0_gateCount])), (q0_eSet, .inl (cL, n0_eSet, .inr (.inl h0_eSet))), (q0_eRight, .inl (cI, n0_eRight, .inl h0_eRight))] sz) := by
  refine Met.ofW (cc := cX8_equation) (maxL := 4) (ret := (some .int)) (by decide) rfl ?_
  intro p e s m args below meth c s₁ B hml hv
  obtain ⟨hargs, hsz, hP, hEV, hD0⟩ := hv
  have hx := B.exec
  have hb := B.bytes
  have hr := B.returns
  have hts := atoms_spec (ws := wsX8_equation) B.pre
  have hown : s.vm.findClass RX8 = some m.cls := findClass_of_methodNamed B.named
  have hlocks := B.notSynchronized
  have hK := hEV.K
  have lk_0 := hts _ lk_0_X8_equation
  have lk_1 := hts _ lk_1_X8_equation
  have lk_2 := hts _ lk_2_X8_equation
  subst hsz
  unfold QiW PoW
  have hD := hD0.self (sz := s.heap.size)
  generalize hAe : va_A [(q0, .inr (8, [.int f0_thrown, .int f0_n, .int f0_equations, .ref q0_eSet, .ref q0_eRight, v0_clauses, v0_cYes, v0_cNo, v0_levels, v0_levelEquations, v0_levelClauses, v0_tape, v0_tapeSize, v0_faultIs, v0_faultAt, v0_at, v0_newEquations, v0_newClauses, v0_newSet, v0_newRight, v0_newYes, v0_newNo, v0_lineYes, v0_lineNo, v0_rowCount, v0_rSet, v0_rRight, v0_isImpossible, v0_sumSet, v0_sumOf, v0_sumRight, v0_empty, v0_empties, v0_taken, v0_ones, v0_waitTaken, v0_waitOnes, v0_nodeCount, v0_lastModel, v0_modelCount, v0_modelIs, v0_gSet, v0_gateCount])), (q0_eSet, .inl (cL, n0_eSet, .inr (.inl h0_eSet))), (q0_eRight, .inl (cI, n0_eRight, .inl h0_eRight))] s.heap.size = A at hD ⊢
  have hA : ∀ q : Nat, s.heap.size ≤ q → A q := fun q h => by rw [← hAe]; exact Or.inr h
  have hent : entryFrame m args 4 = entryFrame m ([.ref q0, .long x1, .int x3] : List Value).toArray 4 := by rw [hargs]
  rw [hent]
  refine kx_Q (fun Q hQ => ?_)
  refine kx_H (fun H hH => ?_)
  have hP : va_P D vwCl [(q0, .inr (8, [.int f0_thrown, .int f0_n, .int f0_equations, .ref q0_eSet, .ref q0_eRight, v0_clauses, v0_cYes, v0_cNo, v0_levels, v0_levelEquations, v0_levelClauses, v0_tape, v0_tapeSize, v0_faultIs, v0_faultAt, v0_at, v0_newEquations, v0_newClauses, v0_newSet, v0_newRight, v0_newYes, v0_newNo, v0_lineYes, v0_lineNo, v0_rowCount, v0_rSet, v0_rRight, v0_isImpossible, v0_sumSet, v0_sumOf, v0_sumRight, v0_empty, v0_empties, v0_taken, v0_ones, v0_waitTaken, v0_waitOnes, v0_nodeCount, v0_lastModel, v0_modelCount, v0_modelIs, v0_gSet, v0_gateCount])), (q0_eSet, .inl (cL, n0_eSet, .inr (.inl h0_eSet))), (q0_eRight, .inl (cI, n0_eRight, .inl h0_eRight))] H := by rw [hH]; exact hP
  have hS : va_S A s.heap H [] := by rw [hH]; exact va_S.rf
  have hl := lv_entry ([.ref q0, .long x1, .int x3]) (n := 4) (Nat.le_of_ble_eq_true rfl)
  rw [lg_entry_eq]
  generalize (lg_sl ([.ref q0, .long x1, .int x3]) ++ List.replicate (4 - (lg_sl ([.ref q0, .long x1, .int x3])).length) Slot.unset).toArray = ls at hl ⊢
  have hl : lv_has ls 4 [(0, .ref q0), (1, .long x1), (3, .int x3)] := hl
  have h := hr0
  unfold D_X8_equation at h
  refine lv_aload_n hx hb dX8_equation_0 rfl (lv_at hl 0 rfl) ?_
  refine lv_aload_n hx hb dX8_equation_1 rfl (lv_at hl 0 rfl) ?_
  refine lv_lload_n hx hb dX8_equation_2 rfl (lv_at hl 1 rfl) ?_
  obtain ⟨u_1, hu_2, h⟩ := co_b h
  refine kx_i (ws' := fun _ => [(q0, .inr (8, [.int f0_thrown, .int f0_n, .int f0_equations, .ref q0_eSet, .ref q0_eRight, v0_clauses, v0_cYes, v0_cNo, v0_levels, v0_levelEquations, v0_levelClauses, v0_tape, v0_tapeSize, v0_faultIs, v0_faultAt, v0_at, v0_newEquations, v0_newClauses, v0_newSet, v0_newRight, v0_newYes, v0_newNo, v0_lineYes, v0_lineNo, v0_rowCount, v0_rSet, v0_rRight, v0_isImpossible, v0_sumSet, v0_sumOf, v0_sumRight, v0_empty, v0_empties, v0_taken, v0_ones, v0_waitTaken, v0_waitOnes, v0_nodeCount, v0_lastModel, v0_modelCount, v0_modelIs, v0_gSet, v0_gateCount])), (q0_eSet, .inl (cL, n0_eSet, .inr (.inl h0_eSet))), (q0_eRight, .inl (cI, n0_eRight, .inl h0_eRight))]) hP hD hS hA [0] [1, 2] [2, 0, 1] rfl rfl (by decide) (by decide) (fun _ => rfl) (by decide) (va_runV (As := [.long x1]) (rest := [.ref q0]) ⟨hx, hb, hml, hown, hts⟩ (cm_X8_areThere l D cI cL (q0 := q0) (f0_n := f0_n) (v0_thrown := .int f0_thrown) (v0_equations := .int f0_equations) (v0_eSet := .ref q0_eSet) (v0_eRight := .ref q0_eRight) (v0_clauses := v0_clauses) (v0_cYes := v0_cYes) (v0_cNo := v0_cNo) (v0_levels := v0_levels) (v0_levelEquations := v0_levelEquations) (v0_levelClauses := v0_levelClauses) (v0_tape := v0_tape) (v0_tapeSize := v0_tapeSize) (v0_faultIs := v0_faultIs) (v0_faultAt := v0_faultAt) (v0_at := v0_at) (v0_newEquations := v0_newEquations) (v0_newClauses := v0_newClauses) (v0_newSet := v0_newSet) (v0_newRight := v0_newRight) (v0_newYes := v0_newYes) (v0_newNo := v0_newNo) (v0_lineYes := v0_lineYes) (v0_lineNo := v0_lineNo) (v0_rowCount := v0_rowCount) (v0_rSet := v0_rSet) (v0_rRight := v0_rRight) (v0_isImpossible := v0_isImpossible) (v0_sumSet := v0_sumSet) (v0_sumOf := v0_sumOf) (v0_sumRight := v0_sumRight) (v0_empty := v0_empty) (v0_empties := v0_empties) (v0_taken := v0_taken) (v0_ones := v0_ones) (v0_waitTaken := v0_waitTaken) (v0_waitOnes := v0_waitOnes) (v0_nodeCount := v0_nodeCount) (v0_lastModel := v0_lastModel) (v0_modelCount := v0_modelCount) (v0_modelIs := v0_modelIs) (v0_gSet := v0_gSet) (v0_gateCount := v0_gateCount) (x1 := x1) (r0 := u_1) (hr0 := hu_2) (sz := H.size)) (cwV 1 hts gX8_equation_X8_areThere rfl rfl rfl (by decide +kernel) ⟨Nat.le_of_ble_eq_true rfl, Nat.le_of_ble_eq_true rfl⟩) (kx_preV hEV hP hD [0] rfl (by decide) (k0 := 0) (ci := 8) rfl rfl rfl) rfl rfl hl.1 rfl (lv_room (Nat.le_of_ble_eq_true rfl)) dX8_equation_3 ⟨Nat.le_of_ble_eq_true rfl, Nat.le_of_ble_eq_true rfl⟩) (fun _ H locs _ hP hD hS => ?_)
  refine lv_if_eq (tgt := 23) hx hb dX8_equation_6 (by decide) (fun c_3 => ?_) (fun c_3 => ?_)
  · have k_4 : ¬ (u_1 = true) := (kx_z c_3)
    have h := co_f k_4 h
    refine lv_iconst (v := (0 : Int32)) hx hb dX8_equation_23 (by decide) ?_
    refine lv_aload_n hx hb dX8_equation_24 rfl (lv_at hl 0 rfl) ?_
    refine va_get (D := D) (ci := 8) (v := .int f0_equations) (C := RX8) (T := TX8) (N := 43) hx hb hts in_X8_equation_X8 hown hK hP 0 rfl rfl 2 (by decide) lk_0 (fun _ h9 => h9) rfl dX8_equation_25 ?_
    refine lv_bipush (v := (60 : Int32)) hx hb dX8_equation_28 (by decide) ?_
    refine lv_icmp_ge (tgt := 37) hx hb dX8_equation_30 (by decide) (fun c_5 => ?_) (fun c_5 => ?_)
    · have k_6 : (60 : Int32) ≤ f0_equations := c_5
      have h := co_t k_6 h
      refine lv_iconst (v := (0 : Int32)) hx hb dX8_equation_37 (by decide) ?_
      obtain ⟨u_7, hu_8, h⟩ := co_b h
      refine kx_i (ws' := fun _ => [(q0, .inr (8, [.int u_7.2, .int f0_n, .int f0_equations, .ref q0_eSet, .ref q0_eRight, v0_clauses, v0_cYes, v0_cNo, v0_levels, v0_levelEquations, v0_levelClauses, v0_tape, v0_tapeSize, v0_faultIs, v0_faultAt, v0_at, v0_newEquations, v0_newClauses, v0_newSet, v0_newRight, v0_newYes, v0_newNo, v0_lineYes, v0_lineNo, v0_rowCount, v0_rSet, v0_rRight, v0_isImpossible, v0_sumSet, v0_sumOf, v0_sumRight, v0_empty, v0_empties, v0_taken, v0_ones, v0_waitTaken, v0_waitOnes, v0_nodeCount, v0_lastModel, v0_modelCount, v0_modelIs, v0_gSet, v0_gateCount])), (q0_eSet, .inl (cL, n0_eSet, .inr (.inl h0_eSet))), (q0_eRight, .inl (cI, n0_eRight, .inl h0_eRight))]) hP hD hS hA [0] [1, 2] [2, 0, 1] rfl rfl (by decide) (by decide) (fun _ => rfl) (by decide) (va_runV (As := [.int (bI false), .int (bI false)]) (rest := []) ⟨hx, hb, hml, hown, hts⟩ (cm_X8_may l D cI cL (q0 := q0) (f0_thrown := f0_thrown) (v0_n := .int f0_n) (v0_equations := .int f0_equations) (v0_eSet := .ref q0_eSet) (v0_eRight := .ref q0_eRight) (v0_clauses := v0_clauses) (v0_cYes := v0_cYes) (v0_cNo := v0_cNo) (v0_levels := v0_levels) (v0_levelEquations := v0_levelEquations) (v0_levelClauses := v0_levelClauses) (v0_tape := v0_tape) (v0_tapeSize := v0_tapeSize) (v0_faultIs := v0_faultIs) (v0_faultAt := v0_faultAt) (v0_at := v0_at) (v0_newEquations := v0_newEquations) (v0_newClauses := v0_newClauses) (v0_newSet := v0_newSet) (v0_newRight := v0_newRight) (v0_newYes := v0_newYes) (v0_newNo := v0_newNo) (v0_lineYes := v0_lineYes) (v0_lineNo := v0_lineNo) (v0_rowCount := v0_rowCount) (v0_rSet := v0_rSet) (v0_rRight := v0_rRight) (v0_isImpossible := v0_isImpossible) (v0_sumSet := v0_sumSet) (v0_sumOf := v0_sumOf) (v0_sumRight := v0_sumRight) (v0_empty := v0_empty) (v0_empties := v0_empties) (v0_taken := v0_taken) (v0_ones := v0_ones) (v0_waitTaken := v0_waitTaken) (v0_waitOnes := v0_waitOnes) (v0_nodeCount := v0_nodeCount) (v0_lastModel := v0_lastModel) (v0_modelCount := v0_modelCount) (v0_modelIs := v0_modelIs) (v0_gSet := v0_gSet) (v0_gateCount := v0_gateCount) (x1 := false) (x2 := false) (r0 := u_7) (hr0 := hu_8) (sz := H.size)) (cwV 2 hts gX8_equation_X8_may rfl rfl rfl (by decide +kernel) ⟨Nat.le_of_ble_eq_true rfl, Nat.le_of_ble_eq_true rfl⟩) (kx_preV hEV hP hD [0] rfl (by decide) (k0 := 0) (ci := 8) rfl rfl rfl) rfl rfl hl.1 rfl (lv_room (Nat.le_of_ble_eq_true rfl)) dX8_equation_38 ⟨Nat.le_of_ble_eq_true rfl, Nat.le_of_ble_eq_true rfl⟩) (fun _ H locs _ hP hD hS => ?_)
      refine lv_if_ne (tgt := 46) hx hb dX8_equation_41 (by decide) (fun c_9 => ?_) (fun c_9 => ?_)
      · have k_10 : u_7.1 = true := (kx_nz c_9)
        have h := co_t k_10 h
        refine lv_aload_n hx hb dX8_equation_46 rfl (lv_at hl 0 rfl) ?_
        refine va_get (D := D) (ci := 8) (v := .ref q0_eSet) (C := RX8) (T := TX8) (N := 43) hx hb hts in_X8_equation_X8 hown hK hP 0 rfl rfl 3 (by decide) lk_1 (fun _ h9 => h9) rfl dX8_equation_47 ?_
        refine lv_aload_n hx hb dX8_equation_50 rfl (lv_at hl 0 rfl) ?_
        refine va_get (D := D) (ci := 8) (v := .int f0_equations) (C := RX8) (T := TX8) (N := 43) hx hb hts in_X8_equation_X8 hown hK hP 0 rfl rfl 2 (by decide) lk_0 (fun _ h9 => h9) rfl dX8_equation_51 ?_
        refine lv_lload_n hx hb dX8_equation_54 rfl (lv_at hl 1 rfl) ?_
        obtain ⟨b_11, h⟩ := co_i h
        refine va_last hx hb hK hP hD hS 1 1 rfl rfl b_11 dX8_equation_55 (fun H locs hP hD hS => ?_)
        have hP : va_P D vwCl [(q0, .inr (8, [.int u_7.2, .int f0_n, .int f0_equations, .ref q0_eSet, .ref q0_eRight, v0_clauses, v0_cYes, v0_cNo, v0_levels, v0_levelEquations, v0_levelClauses, v0_tape, v0_tapeSize, v0_faultIs, v0_faultAt, v0_at, v0_newEquations, v0_newClauses, v0_newSet, v0_newRight, v0_newYes, v0_newNo, v0_lineYes, v0_lineNo, v0_rowCount, v0_rSet, v0_rRight, v0_isImpossible, v0_sumSet, v0_sumOf, v0_sumRight, v0_empty, v0_empties, v0_taken, v0_ones, v0_waitTaken, v0_waitOnes, v0_nodeCount, v0_lastModel, v0_modelCount, v0_modelIs, v0_gSet, v0_gateCount])), (q0_eSet, .inl (cL, n0_eSet, .inr (.inl (vp_updL h0_eSet f0_equations.toNatClampNeg x1)))), (q0_eRight, .inl (cI, n0_eRight, .inl h0_eRight))] H := hP
        have hD : va_D A [(q0, .inr (8, [.int u_7.2, .int f0_n, .int f0_equations, .ref q0_eSet, .ref q0_eRight, v0_clauses, v0_cYes, v0_cNo, v0_levels, v0_levelEquations, v0_levelClauses, v0_tape, v0_tapeSize, v0_faultIs, v0_faultAt, v0_at, v0_newEquations, v0_newClauses, v0_newSet, v0_newRight, v0_newYes, v0_newNo, v0_lineYes, v0_lineNo, v0_rowCount, v0_rSet, v0_rRight, v0_isImpossible, v0_sumSet, v0_sumOf, v0_sumRight, v0_empty, v0_empties, v0_taken, v0_ones, v0_waitTaken, v0_waitOnes, v0_nodeCount, v0_lastModel, v0_modelCount, v0_modelIs, v0_gSet, v0_gateCount])), (q0_eSet, .inl (cL, n0_eSet, .inr (.inl (vp_updL h0_eSet f0_equations.toNatClampNeg x1)))), (q0_eRight, .inl (cI, n0_eRight, .inl h0_eRight))] := hD
        refine lv_aload_n hx hb dX8_equation_56 rfl (lv_at hl 0 rfl) ?_
        refine va_get (D := D) (ci := 8) (v := .ref q0_eRight) (C := RX8) (T := TX8) (N := 43) hx hb hts in_X8_equation_X8 hown hK hP 0 rfl rfl 4 (by decide) lk_2 (fun _ h9 => h9) rfl dX8_equation_57 ?_
        refine lv_aload_n hx hb dX8_equation_60 rfl (lv_at hl 0 rfl) ?_
        refine va_get (D := D) (ci := 8) (v := .int f0_equations) (C := RX8) (T := TX8) (N := 43) hx hb hts in_X8_equation_X8 hown hK hP 0 rfl rfl 2 (by decide) lk_0 (fun _ h9 => h9) rfl dX8_equation_61 ?_
        refine lv_iload_n hx hb dX8_equation_64 rfl (lv_at hl 2 rfl) ?_
        obtain ⟨b_12, h⟩ := co_i h
        refine va_iast hx hb hK hP hD hS 2 0 rfl rfl b_12 dX8_equation_65 (fun H locs hP hD hS => ?_)
        have hP : va_P D vwCl [(q0, .inr (8, [.int u_7.2, .int f0_n, .int f0_equations, .ref q0_eSet, .ref q0_eRight, v0_clauses, v0_cYes, v0_cNo, v0_levels, v0_levelEquations, v0_levelClauses, v0_tape, v0_tapeSize, v0_faultIs, v0_faultAt, v0_at, v0_newEquations, v0_newClauses, v0_newSet, v0_newRight, v0_newYes, v0_newNo, v0_lineYes, v0_lineNo, v0_rowCount, v0_rSet, v0_rRight, v0_isImpossible, v0_sumSet, v0_sumOf, v0_sumRight, v0_empty, v0_empties, v0_taken, v0_ones, v0_waitTaken, v0_waitOnes, v0_nodeCount, v0_lastModel, v0_modelCount, v0_modelIs, v0_gSet, v0_gateCount])), (q0_eSet, .inl (cL, n0_eSet, .inr (.inl (vp_updL h0_eSet f0_equations.toNatClampNeg x1)))), (q0_eRight, .inl (cI, n0_eRight, .inl (upd h0_eRight f0_equations.toNatClampNeg x3)))] H := hP
        have hD : va_D A [(q0, .inr (8, [.int u_7.2, .int f0_n, .int f0_equations, .ref q0_eSet, .ref q0_eRight, v0_clauses, v0_cYes, v0_cNo, v0_levels, v0_levelEquations, v0_levelClauses, v0_tape, v0_tapeSize, v0_faultIs, v0_faultAt, v0_at, v0_newEquations, v0_newClauses, v0_newSet, v0_newRight, v0_newYes, v0_newNo, v0_lineYes, v0_lineNo, v0_rowCount, v0_rSet, v0_rRight, v0_isImpossible, v0_sumSet, v0_sumOf, v0_sumRight, v0_empty, v0_empties, v0_taken, v0_ones, v0_waitTaken, v0_waitOnes, v0_nodeCount, v0_lastModel, v0_modelCount, v0_modelIs, v0_gSet, v0_gateCount])), (q0_eSet, .inl (cL, n0_eSet, .inr (.inl (vp_updL h0_eSet f0_equations.toNatClampNeg x1)))), (q0_eRight, .inl (cI, n0_eRight, .inl (upd h0_eRight f0_equations.toNatClampNeg x3)))] := hD
        refine lv_aload_n hx hb dX8_equation_66 rfl (lv_at hl 0 rfl) ?_
        refine lv_dup hx hb dX8_equation_67 rfl ?_
        refine va_get (D := D) (ci := 8) (v := .int f0_equations) (C := RX8) (T := TX8) (N := 43) hx hb hts in_X8_equation_X8 hown hK hP 0 rfl rfl 2 (by decide) lk_0 (fun _ h9 => h9) rfl dX8_equation_68 ?_
        refine lv_iconst (v := (1 : Int32)) hx hb dX8_equation_71 (by decide) ?_
        refine lv_iadd hx hb dX8_equation_72 ?_
        refine va_put (D := D) (ci := 8) (v := .int (f0_equations + (1 : Int32))) (ty := .int) (C := RX8) (T := TX8) (N := 43) hx hb hts in_X8_equation_X8 tyX8 tyX8_ok nmX8 hown hK hP hD hS 0 rfl rfl 2 (by decide) lk_0 (fun _ h9 => h9) rfl (by decide +kernel) rfl rfl (Nat.le_of_ble_eq_true rfl) dX8_equation_73 (fun H locs hP hD hS => ?_)
        have hP : va_P D vwCl [(q0, .inr (8, [.int u_7.2, .int f0_n, .int (f0_equations + (1 : Int32)), .ref q0_eSet, .ref q0_eRight, v0_clauses, v0_cYes, v0_cNo, v0_levels, v0_levelEquations, v0_levelClauses, v0_tape, v0_tapeSize, v0_faultIs, v0_faultAt, v0_at, v0_newEquations, v0_newClauses, v0_newSet, v0_newRight, v0_newYes, v0_newNo, v0_lineYes, v0_lineNo, v0_rowCount, v0_rSet, v0_rRight, v0_isImpossible, v0_sumSet, v0_sumOf, v0_sumRight, v0_empty, v0_empties, v0_taken, v0_ones, v0_waitTaken, v0_waitOnes, v0_nodeCount, v0_lastModel, v0_modelCount, v0_modelIs, v0_gSet, v0_gateCount])), (q0_eSet, .inl (cL, n0_eSet, .inr (.inl (vp_updL h0_eSet f0_equations.toNatClampNeg x1)))), (q0_eRight, .inl (cI, n0_eRight, .inl (upd h0_eRight f0_equations.toNatClampNeg x3)))] H := hP
        have hD : va_D A [(q0, .inr (8, [.int u_7.2, .int f0_n, .int (f0_equations + (1 : Int32)), .ref q0_eSet, .ref q0_eRight, v0_clauses, v0_cYes, v0_cNo, v0_levels, v0_levelEquations, v0_levelClauses, v0_tape, v0_tapeSize, v0_faultIs, v0_faultAt, v0_at, v0_newEquations, v0_newClauses, v0_newSet, v0_newRight, v0_newYes, v0_newNo, v0_lineYes, v0_lineNo, v0_rowCount, v0_rSet, v0_rRight, v0_isImpossible, v0_sumSet, v0_sumOf, v0_sumRight, v0_empty, v0_empties, v0_taken, v0_ones, v0_waitTaken, v0_waitOnes, v0_nodeCount, v0_lastModel, v0_modelCount, v0_modelIs, v0_gSet, v0_gateCount])), (q0_eSet, .inl (cL, n0_eSet, .inr (.inl (vp_updL h0_eSet f0_equations.toNatClampNeg x1)))), (q0_eRight, .inl (cI, n0_eRight, .inl (upd h0_eRight f0_equations.toNatClampNeg x3)))] := hD
        refine lv_aload_n hx hb dX8_equation_76 rfl (lv_at hl 0 rfl) ?_
        refine va_get (D := D) (ci := 8) (v := .int (f0_equations + (1 : Int32))) (C := RX8) (T := TX8) (N := 43) hx hb hts in_X8_equation_X8 hown hK hP 0 rfl rfl 2 (by decide) lk_0 (fun _ h9 => h9) rfl dX8_equation_77 ?_
        refine lv_iconst (v := (1 : Int32)) hx hb dX8_equation_80 (by decide) ?_
        refine lv_isub hx hb dX8_equation_81 ?_
        have h := Option.some.inj h
        subst h
        subst hQ
        exact W.iret (v := (f0_equations + (1 : Int32)) - (1 : Int32)) hx hb hr (fun t ht hW => ⟨⟨(f0_equations + (1 : Int32)) - (1 : Int32), (), rfl, ⟨rfl, trivial⟩, by rw [ht]; exact hP, hD⟩, hS.F ht⟩) hS.2.2 dX8_equation_82
      · have k_10 : ¬ (u_7.1 = true) := (kx_z c_9)
        have h := co_f k_10 h
        refine lv_iconst (v := (0 : Int32)) hx hb dX8_equation_44 (by decide) ?_
        have h := Option.some.inj h
        subst h
        subst hQ
        exact W.iret (v := (0 : Int32)) hx hb hr (fun t ht hW => ⟨⟨(0 : Int32), (), rfl, ⟨rfl, trivial⟩, by rw [ht]; exact hP, hD⟩, hS.F ht⟩) hS.2.2 dX8_equation_45
    · have k_6 : ¬ ((60 : Int32) ≤ f0_equations) := c_5
      have h := co_f k_6 h
      refine lv_iconst (v := (1 : Int32)) hx hb dX8_equation_33 (by decide) ?_
      refine lv_goto (tgt := 38) hx hb dX8_equation_34 (by decide) ?_
      obtain ⟨u_13, hu_14, h⟩ := co_b h
      refine kx_i (ws' := fun _ => [(q0, .inr (8, [.int u_13.2, .int f0_n, .int f0_equations, .ref q0_eSet, .ref q0_eRight, v0_clauses, v0_cYes, v0_cNo, v0_levels, v0_levelEquations, v0_levelClauses, v0_tape, v0_tapeSize, v0_faultIs, v0_faultAt, v0_at, v0_newEquations, v0_newClauses, v0_newSet, v0_newRight, v0_newYes, v0_newNo, v0_lineYes, v0_lineNo, v0_rowCount, v0_rSet, v0_rRight, v0_isImpossible, v0_sumSet, v0_sumOf, v0_sumRight, v0_empty, v0_empties, v0_taken, v0_ones, v0_waitTaken, v0_waitOnes, v0_nodeCount, v0_lastModel, v0_modelCount, v0_modelIs, v0_gSet, v0_gateCount])), (q0_eSet, .inl (cL, n0_eSet, .inr (.inl h0_eSet))), (q0_eRight, .inl (cI, n0_eRight, .inl h0_eRight))]) hP hD hS hA [0] [1, 2] [2, 0, 1] rfl rfl (by decide) (by decide) (fun _ => rfl) (by decide) (va_runV (As := [.int (bI false), .int (bI true)]) (rest := []) ⟨hx, hb, hml, hown, hts⟩ (cm_X8_may l D cI cL (q0 := q0) (f0_thrown := f0_thrown) (v0_n := .int f0_n) (v0_equations := .int f0_equations) (v0_eSet := .ref q0_eSet) (v0_eRight := .ref q0_eRight) (v0_clauses := v0_clauses) (v0_cYes := v0_cYes) (v0_cNo := v0_cNo) (v0_levels := v0_levels) (v0_levelEquations := v0_levelEquations) (v0_levelClauses := v0_levelClauses) (v0_tape := v0_tape) (v0_tapeSize := v0_tapeSize) (v0_faultIs := v0_faultIs) (v0_faultAt := v0_faultAt) (v0_at := v0_at) (v0_newEquations := v0_newEquations) (v0_newClauses := v0_newClauses) (v0_newSet := v0_newSet) (v0_newRight := v0_newRight) (v0_newYes := v0_newYes) (v0_newNo := v0_newNo) (v0_lineYes := v0_lineYes) (v0_lineNo := v0_lineNo) (v0_rowCount := v0_rowCount) (v0_rSet := v0_rSet) (v0_rRight := v0_rRight) (v0_isImpossible := v0_isImpossible) (v0_sumSet := v0_sumSet) (v0_sumOf := v0_sumOf) (v0_sumRight := v0_sumRight) (v0_empty := v0_empty) (v0_empties := v0_empties) (v0_taken := v0_taken) (v0_ones := v0_ones) (v0_waitTaken := v0_waitTaken) (v0_waitOnes := v0_waitOnes) (v0_nodeCount := v0_nodeCount) (v0_lastModel := v0_lastModel) (v0_modelCount := v0_modelCount) (v0_modelIs := v0_modelIs) (v0_gSet := v0_gSet) (v0_gateCount := v0_gateCount) (x1 := false) (x2 := true) (r0 := u_13) (hr0 := hu_14) (sz := H.size)) (cwV 2 hts gX8_equation_X8_may rfl rfl rfl (by decide +kernel) ⟨Nat.le_of_ble_eq_true rfl, Nat.le_of_ble_eq_true rfl⟩) (kx_preV hEV hP hD [0] rfl (by decide) (k0 := 0) (ci := 8) rfl rfl rfl) rfl rfl hl.1 rfl (lv_room (Nat.le_of_ble_eq_true rfl)) dX8_equation_38 ⟨Nat.le_of_ble_eq_true rfl, Nat.le_of_ble_eq_true rfl⟩) (fun _ H locs _ hP hD hS => ?_)
      refine lv_if_ne (tgt := 46) hx hb dX8_equation_41 (by decide) (fun c_15 => ?_) (fun c_15 => ?_)
      · have k_16 : u_13.1 = true := (kx_nz c_15)
        have h := co_t k_16 h
        refine lv_aload_n hx hb dX8_equation_46 rfl (lv_at hl 0 rfl) ?_
        refine va_get (D := D) (ci := 8) (v := .ref q0_eSet) (C := RX8) (T := TX8) (N := 43) hx hb hts in_X8_equation_X8 hown hK hP 0 rfl rfl 3 (by decide) lk_1 (fun _ h9 => h9) rfl dX8_equation_47 ?_
        refine lv_aload_n hx hb dX8_equation_50 rfl (lv_at hl 0 rfl) ?_
        refine va_get (D := D) (ci := 8) (v := .int f0_equations) (C := RX8) (T := TX8) (N := 43) hx hb hts in_X8_equation_X8 hown hK hP 0 rfl rfl 2 (by decide) lk_0 (fun _ h9 => h9) rfl dX8_equation_51 ?_
        refine lv_lload_n hx hb dX8_equation_54 rfl (lv_at hl 1 rfl) ?_
        obtain ⟨b_17, h⟩ := co_i h
        refine va_last hx hb hK hP hD hS 1 1 rfl rfl b_17 dX8_equation_55 (fun H locs hP hD hS => ?_)
        have hP : va_P D vwCl [(q0, .inr (8, [.int u_13.2, .int f0_n, .int f0_equations, .ref q0_eSet, .ref q0_eRight, v0_clauses, v0_cYes, v0_cNo, v0_levels, v0_levelEquations, v0_levelClauses, v0_tape, v0_tapeSize, v0_faultIs, v0_faultAt, v0_at, v0_newEquations, v0_newClauses, v0_newSet, v0_newRight, v0_newYes, v0_newNo, v0_lineYes, v0_lineNo, v0_rowCount, v0_rSet, v0_rRight, v0_isImpossible, v0_sumSet, v0_sumOf, v0_sumRight, v0_empty, v0_empties, v0_taken, v0_ones, v0_waitTaken, v0_waitOnes, v0_nodeCount, v0_lastModel, v0_modelCount, v0_modelIs, v0_gSet, v0_gateCount])), (q0_eSet, .inl (cL, n0_eSet, .inr (.inl (vp_updL h0_eSet f0_equations.toNatClampNeg x1)))), (q0_eRight, .inl (cI, n0_eRight, .inl h0_eRight))] H := hP
        have hD : va_D A [(q0, .inr (8, [.int u_13.2, .int f0_n, .int f0_equations, .ref q0_eSet, .ref q0_eRight, v0_clauses, v0_cYes, v0_cNo, v0_levels, v0_levelEquations, v0_levelClauses, v0_tape, v0_tapeSize, v0_faultIs, v0_faultAt, v0_at, v0_newEquations, v0_newClauses, v0_newSet, v0_newRight, v0_newYes, v0_newNo, v0_lineYes, v0_lineNo, v0_rowCount, v0_rSet, v0_rRight, v0_isImpossible, v0_sumSet, v0_sumOf, v0_sumRight, v0_empty, v0_empties, v0_taken, v0_ones, v0_waitTaken, v0_waitOnes, v0_nodeCount, v0_lastModel, v0_modelCount, v0_modelIs, v0_gSet, v0_gateCount])), (q0_eSet, .inl (cL, n0_eSet, .inr (.inl (vp_updL h0_eSet f0_equations.toNatClampNeg x1)))), (q0_eRight, .inl (cI, n0_eRight, .inl h0_eRight))] := hD
        refine lv_aload_n hx hb dX8_equation_56 rfl (lv_at hl 0 rfl) ?_
        refine va_get (D := D) (ci := 8) (v := .ref q0_eRight) (C := RX8) (T := TX8) (N := 43) hx hb hts in_X8_equation_X8 hown hK hP 0 rfl rfl 4 (by decide) lk_2 (fun _ h9 => h9) rfl dX8_equation_57 ?_
        refine lv_aload_n hx hb dX8_equation_60 rfl (lv_at hl 0 rfl) ?_
        refine va_get (D := D) (ci := 8) (v := .int f0_equations) (C := RX8) (T := TX8) (N := 43) hx hb hts in_X8_equation_X8 hown hK hP 0 rfl rfl 2 (by decide) lk_0 (fun _ h9 => h9) rfl dX8_equation_61 ?_
        refine lv_iload_n hx hb dX8_equation_64 rfl (lv_at hl 2 rfl) ?_
        obtain ⟨b_18, h⟩ := co_i h
        refine va_iast hx hb hK hP hD hS 2 0 rfl rfl b_18 dX8_equation_65 (fun H locs hP hD hS => ?_)
        have hP : va_P D vwCl [(q0, .inr (8, [.int u_13.2, .int f0_n, .int f0_equations, .ref q0_eSet, .ref q0_eRight, v0_clauses, v0_cYes, v0_cNo, v0_levels, v0_levelEquations, v0_levelClauses, v0_tape, v0_tapeSize, v0_faultIs, v0_faultAt, v0_at, v0_newEquations, v0_newClauses, v0_newSet, v0_newRight, v0_newYes, v0_newNo, v0_lineYes, v0_lineNo, v0_rowCount, v0_rSet, v0_rRight, v0_isImpossible, v0_sumSet, v0_sumOf, v0_sumRight, v0_empty, v0_empties, v0_taken, v0_ones, v0_waitTaken, v0_waitOnes, v0_nodeCount, v0_lastModel, v0_modelCount, v0_modelIs, v0_gSet, v0_gateCount])), (q0_eSet, .inl (cL, n0_eSet, .inr (.inl (vp_updL h0_eSet f0_equations.toNatClampNeg x1)))), (q0_eRight, .inl (cI, n0_eRight, .inl (upd h0_eRight f0_equations.toNatClampNeg x3)))] H := hP
        have hD : va_D A [(q0, .inr (8, [.int u_13.2, .int f0_n, .int f0_equations, .ref q0_eSet, .ref q0_eRight, v0_clauses, v0_cYes, v0_cNo, v0_levels, v0_levelEquations, v0_levelClauses, v0_tape, v0_tapeSize, v0_faultIs, v0_faultAt, v0_at, v0_newEquations, v0_newClauses, v0_newSet, v0_newRight, v0_newYes, v0_newNo, v0_lineYes, v0_lineNo, v0_rowCount, v0_rSet, v0_rRight, v0_isImpossible, v0_sumSet, v0_sumOf, v0_sumRight, v0_empty, v0_empties, v0_taken, v0_ones, v0_waitTaken, v0_waitOnes, v0_nodeCount, v0_lastModel, v0_modelCount, v0_modelIs, v0_gSet, v0_gateCount])), (q0_eSet, .inl (cL, n0_eSet, .inr (.inl (vp_updL h0_eSet f0_equations.toNatClampNeg x1)))), (q0_eRight, .inl (cI, n0_eRight, .inl (upd h0_eRight f0_equations.toNatClampNeg x3)))] := hD
        refine lv_aload_n hx hb dX8_equation_66 rfl (lv_at hl 0 rfl) ?_
        refine lv_dup hx hb dX8_equation_67 rfl ?_
        refine va_get (D := D) (ci := 8) (v := .int f0_equations) (C := RX8) (T := TX8) (N := 43) hx hb hts in_X8_equation_X8 hown hK hP 0 rfl rfl 2 (by decide) lk_0 (fun _ h9 => h9) rfl dX8_equation_68 ?_
        refine lv_iconst (v := (1 : Int32)) hx hb dX8_equation_71 (by decide) ?_
        refine lv_iadd hx hb dX8_equation_72 ?_
        refine va_put (D := D) (ci := 8) (v := .int (f0_equations + (1 : Int32))) (ty := .int) (C := RX8) (T := TX8) (N := 43) hx hb hts in_X8_equation_X8 tyX8 tyX8_ok nmX8 hown hK hP hD hS 0 rfl rfl 2 (by decide) lk_0 (fun _ h9 => h9) rfl (by decide +kernel) rfl rfl (Nat.le_of_ble_eq_true rfl) dX8_equation_73 (fun H locs hP hD hS => ?_)
        have hP : va_P D vwCl [(q0, .inr (8, [.int u_13.2, .int f0_n, .int (f0_equations + (1 : Int32)), .ref q0_eSet, .ref q0_eRight, v0_clauses, v0_cYes, v0_cNo, v0_levels, v0_levelEquations, v0_levelClauses, v0_tape, v0_tapeSize, v0_faultIs, v0_faultAt, v0_at, v0_newEquations, v0_newClauses, v0_newSet, v0_newRight, v0_newYes, v0_newNo, v0_lineYes, v0_lineNo, v0_rowCount, v0_rSet, v0_rRight, v0_isImpossible, v0_sumSet, v0_sumOf, v0_sumRight, v0_empty, v0_empties, v0_taken, v0_ones, v0_waitTaken, v0_waitOnes, v0_nodeCount, v0_lastModel, v0_modelCount, v0_modelIs, v0_gSet, v0_gateCount])), (q0_eSet, .inl (cL, n0_eSet, .inr (.inl (vp_updL h0_eSet f0_equations.toNatClampNeg x1)))), (q0_eRight, .inl (cI, n0_eRight, .inl (upd h0_eRight f0_equations.toNatClampNeg x3)))] H := hP
        have hD : va_D A [(q0, .inr (8, [.int u_13.2, .int f0_n, .int (f0_equations + (1 : Int32)), .ref q0_eSet, .ref q0_eRight, v0_clauses, v0_cYes, v0_cNo, v0_levels, v0_levelEquations, v0_levelClauses, v0_tape, v0_tapeSize, v0_faultIs, v0_faultAt, v0_at, v0_newEquations, v0_newClauses, v0_newSet, v0_newRight, v0_newYes, v0_newNo, v0_lineYes, v0_lineNo, v0_rowCount, v0_rSet, v0_rRight, v0_isImpossible, v0_sumSet, v0_sumOf, v0_sumRight, v0_empty, v0_empties, v0_taken, v0_ones, v0_waitTaken, v0_waitOnes, v0_nodeCount, v0_lastModel, v0_modelCount, v0_modelIs, v0_gSet, v0_gateCount])), (q0_eSet, .inl (cL, n0_eSet, .inr (.inl (vp_updL h0_eSet f0_equations.toNatClampNeg x1)))), (q0_eRight, .inl (cI, n0_eRight, .inl (upd h0_eRight f0_equations.toNatClampNeg x3)))] := hD
        refine lv_aload_n hx hb dX8_equation_76 rfl (lv_at hl 0 rfl) ?_
        refine va_get (D := D) (ci := 8) (v := .int (f0_equations + (1 : Int32))) (C := RX8) (T := TX8) (N := 43) hx hb hts in_X8_equation_X8 hown hK hP 0 rfl rfl 2 (by decide) lk_0 (fun _ h9 => h9) rfl dX8_equation_77 ?_
        refine lv_iconst (v := (1 : Int32)) hx hb dX8_equation_80 (by decide) ?_
        refine lv_isub hx hb dX8_equation_81 ?_
        have h := Option.some.inj h
        subst h
        subst hQ
        exact W.iret (v := (f0_equations + (1 : Int32)) - (1 : Int32)) hx hb hr (fun t ht hW => ⟨⟨(f0_equations + (1 : Int32)) - (1 : Int32), (), rfl, ⟨rfl, trivial⟩, by rw [ht]; exact hP, hD⟩, hS.F ht⟩) hS.2.2 dX8_equation_82
      · have k_16 : ¬ (u_13.1 = true) := (kx_z c_15)
        have h := co_f k_16 h
        refine lv_iconst (v := (0 : Int32)) hx hb dX8_equation_44 (by decide) ?_
        have h := Option.some.inj h
        subst h
        subst hQ
        exact W.iret (v := (0 : Int32)) hx hb hr (fun t ht hW => ⟨⟨(0 : Int32), (), rfl, ⟨rfl, trivial⟩, by rw [ht]; exact hP, hD⟩, hS.F ht⟩) hS.2.2 dX8_equation_45
  · have k_4 : u_1 = true := (kx_nz c_3)
    have h := co_t k_4 h
    refine lv_iload_n hx hb dX8_equation_9 rfl (lv_at hl 2 rfl) ?_
    refine lv_i2l (v := x3.toInt64) hx hb dX8_equation_10 rfl ?_
    refine lv_lconst (v := (0 : Int64)) hx hb dX8_equation_11 (by decide) ?_
    refine lv_lconst (v := (1 : Int64)) hx hb dX8_equation_12 (by decide) ?_
    obtain ⟨u_19, hu_20, h⟩ := co_b h
    refine kx_i (ws' := fun _ => [(q0, .inr (8, [.int f0_thrown, .int f0_n, .int f0_equations, .ref q0_eSet, .ref q0_eRight, v0_clauses, v0_cYes, v0_cNo, v0_levels, v0_levelEquations, v0_levelClauses, v0_tape, v0_tapeSize, v0_faultIs, v0_faultAt, v0_at, v0_newEquations, v0_newClauses, v0_newSet, v0_newRight, v0_newYes, v0_newNo, v0_lineYes, v0_lineNo, v0_rowCount, v0_rSet, v0_rRight, v0_isImpossible, v0_sumSet, v0_sumOf, v0_sumRight, v0_empty, v0_empties, v0_taken, v0_ones, v0_waitTaken, v0_waitOnes, v0_nodeCount, v0_lastModel, v0_modelCount, v0_modelIs, v0_gSet, v0_gateCount])), (q0_eSet, .inl (cL, n0_eSet, .inr (.inl h0_eSet))), (q0_eRight, .inl (cI, n0_eRight, .inl h0_eRight))]) hP hD hS hA [] [0, 1, 2] [0, 1, 2] rfl rfl (by decide) (by decide) (fun _ => rfl) (by decide) (va_runS (As := [.long x3.toInt64, .long (0 : Int64), .long (1 : Int64)]) (rest := [.ref q0]) ⟨hx, hb, hml, hown, hts⟩ (cm_X8_isIn l D cI cL (x0 := x3.toInt64) (x2 := (0 : Int64)) (x4 := (1 : Int64)) (r0 := u_19) (hr0 := hu_20) (sz := H.size)) (va_cwS 3 hts gX8_equation_X8_isIn rfl rfl rfl (by decide +kernel) ⟨Nat.le_of_ble_eq_true rfl, Nat.le_of_ble_eq_true rfl⟩) (kx_preS hEV hP hD [] rfl (by decide)) rfl rfl hl.1 rfl (lv_room (Nat.le_of_ble_eq_true rfl)) dX8_equation_13 ⟨Nat.le_of_ble_eq_true rfl, Nat.le_of_ble_eq_true rfl⟩) (fun _ H locs _ hP hD hS => ?_)
    refine lv_if_eq (tgt := 23) hx hb dX8_equation_16 (by decide) (fun c_21 => ?_) (fun c_21 => ?_)
    · have k_22 : ¬ (u_19 = true) := (kx_z c_21)
      have h := co_f k_22 h
      refine lv_iconst (v := (0 : Int32)) hx hb dX8_equation_23 (by decide) ?_
      refine lv_aload_n hx hb dX8_equation_24 rfl (lv_at hl 0 rfl) ?_
      refine va_get (D := D) (ci := 8) (v := .int f0_equations) (C := RX8) (T := TX8) (N := 43) hx hb hts in_X8_equation_X8 hown hK hP 0 rfl rfl 2 (by decide) lk_0 (fun _ h9 => h9) rfl dX8_equation_25 ?_
      refine lv_bipush (v := (60 : Int32)) hx hb dX8_equation_28 (by decide) ?_
      refine lv_icmp_ge (tgt := 37) hx hb dX8_equation_30 (by decide) (fun c_23 => ?_) (fun c_23 => ?_)
      · have k_24 : (60 : Int32) ≤ f0_equations := c_23
        have h := co_t k_24 h
        refine lv_iconst (v := (0 : Int32)) hx hb dX8_equation_37 (by decide) ?_
        obtain ⟨u_25, hu_26, h⟩ := co_b h
        refine kx_i (ws' := fun _ => [(q0, .inr (8, [.int u_25.2, .int f0_n, .int f0_equations, .ref q0_eSet, .ref q0_eRight, v0_clauses, v0_cYes, v0_cNo, v0_levels, v0_levelEquations, v0_levelClauses, v0_tape, v0_tapeSize, v0_faultIs, v0_faultAt, v0_at, v0_newEquations, v0_newClauses, v0_newSet, v0_newRight, v0_newYes, v0_newNo, v0_lineYes, v0_lineNo, v0_rowCount, v0_rSet, v0_rRight, v0_isImpossible, v0_sumSet, v0_sumOf, v0_sumRight, v0_empty, v0_empties, v0_taken, v0_ones, v0_waitTaken, v0_waitOnes, v0_nodeCount, v0_lastModel, v0_modelCount, v0_modelIs, v0_gSet, v0_gateCount])), (q0_eSet, .inl (cL, n0_eSet, .inr (.inl h0_eSet))), (q0_eRight, .inl (cI, n0_eRight, .inl h0_eRight))]) hP hD hS hA [0] [1, 2] [2, 0, 1] rfl rfl (by decide) (by decide) (fun _ => rfl) (by decide) (va_runV (As := [.int (bI false), .int (bI false)]) (rest := []) ⟨hx, hb, hml, hown, hts⟩ (cm_X8_may l D cI cL (q0 := q0) (f0_thrown := f0_thrown) (v0_n := .int f0_n) (v0_equations := .int f0_equations) (v0_eSet := .ref q0_eSet) (v0_eRight := .ref q0_eRight) (v0_clauses := v0_clauses) (v0_cYes := v0_cYes) (v0_cNo := v0_cNo) (v0_levels := v0_levels) (v0_levelEquations := v0_levelEquations) (v0_levelClauses := v0_levelClauses) (v0_tape := v0_tape) (v0_tapeSize := v0_tapeSize) (v0_faultIs := v0_faultIs) (v0_faultAt := v0_faultAt) (v0_at := v0_at) (v0_newEquations := v0_newEquations) (v0_newClauses := v0_newClauses) (v0_newSet := v0_newSet) (v0_newRight := v0_newRight) (v0_newYes := v0_newYes) (v0_newNo := v0_newNo) (v0_lineYes := v0_lineYes) (v0_lineNo := v0_lineNo) (v0_rowCount := v0_rowCount) (v0_rSet := v0_rSet) (v0_rRight := v0_rRight) (v0_isImpossible := v0_isImpossible) (v0_sumSet := v0_sumSet) (v0_sumOf := v0_sumOf) (v0_sumRight := v0_sumRight) (v0_empty := v0_empty) (v0_empties := v0_empties) (v0_taken := v0_taken) (v0_ones := v0_ones) (v0_waitTaken := v0_waitTaken) (v0_waitOnes := v0_waitOnes) (v0_nodeCount := v0_nodeCount) (v0_lastModel := v0_lastModel) (v0_modelCount := v0_modelCount) (v0_modelIs := v0_modelIs) (v0_gSet := v0_gSet) (v0_gateCount := v0_gateCount) (x1 := false) (x2 := false) (r0 := u_25) (hr0 := hu_26) (sz := H.size)) (cwV 2 hts gX8_equation_X8_may rfl rfl rfl (by decide +kernel) ⟨Nat.le_of_ble_eq_true rfl, Nat.le_of_ble_eq_true rfl⟩) (kx_preV hEV hP hD [0] rfl (by decide) (k0 := 0) (ci := 8) rfl rfl rfl) rfl rfl hl.1 rfl (lv_room (Nat.le_of_ble_eq_true rfl)) dX8_equation_38 ⟨Nat.le_of_ble_eq_true rfl, Nat.le_of_ble_eq_true rfl⟩) (fun _ H locs _ hP hD hS => ?_)
        refine lv_if_ne (tgt := 46) hx hb dX8_equation_41 (by decide) (fun c_27 => ?_) (fun c_27 => ?_)
        · have k_28 : u_25.1 = true := (kx_nz c_27)
          have h := co_t k_28 h
          refine lv_aload_n hx hb dX8_equation_46 rfl (lv_at hl 0 rfl) ?_
          refine va_get (D := D) (ci := 8) (v := .ref q0_eSet) (C := RX8) (T := TX8) (N := 43) hx hb hts in_X8_equation_X8 hown hK hP 0 rfl rfl 3 (by decide) lk_1 (fun _ h9 => h9) rfl dX8_equation_47 ?_
          refine lv_aload_n hx hb dX8_equation_50 rfl (lv_at hl 0 rfl) ?_
          refine va_get (D := D) (ci := 8) (v := .int f0_equations) (C := RX8) (T := TX8) (N := 43) hx hb hts in_X8_equation_X8 hown hK hP 0 rfl rfl 2 (by decide) lk_0 (fun _ h9 => h9) rfl dX8_equation_51 ?_
          refine lv_lload_n hx hb dX8_equation_54 rfl (lv_at hl 1 rfl) ?_
          obtain ⟨b_29, h⟩ := co_i h
          refine va_last hx hb hK hP hD hS 1 1 rfl rfl b_29 dX8_equation_55 (fun H locs hP hD hS => ?_)
          have hP : va_P D vwCl [(q0, .inr (8, [.int u_25.2, .int f0_n, .int f0_equations, .ref q0_eSet, .ref q0_eRight, v0_clauses, v0_cYes, v0_cNo, v0_levels, v0_levelEquations, v0_levelClauses, v0_tape, v0_tapeSize, v0_faultIs, v0_faultAt, v0_at, v0_newEquations, v0_newClauses, v0_newSet, v0_newRight, v0_newYes, v0_newNo, v0_lineYes, v0_lineNo, v0_rowCount, v0_rSet, v0_rRight, v0_isImpossible, v0_sumSet, v0_sumOf, v0_sumRight, v0_empty, v0_empties, v0_taken, v0_ones, v0_waitTaken, v0_waitOnes, v0_nodeCount, v0_lastModel, v0_modelCount, v0_modelIs, v0_gSet, v0_gateCount])), (q0_eSet, .inl (cL, n0_eSet, .inr (.inl (vp_updL h0_eSet f0_equations.toNatClampNeg x1)))), (q0_eRight, .inl (cI, n0_eRight, .inl h0_eRight))] H := hP
          have hD : va_D A [(q0, .inr (8, [.int u_25.2, .int f0_n, .int f0_equations, .ref q0_eSet, .ref q0_eRight, v0_clauses, v0_cYes, v0_cNo, v0_levels, v0_levelEquations, v0_levelClauses, v0_tape, v0_tapeSize, v0_faultIs, v0_faultAt, v0_at, v0_newEquations, v0_newClauses, v0_newSet, v0_newRight, v0_newYes, v0_newNo, v0_lineYes, v0_lineNo, v0_rowCount, v0_rSet, v0_rRight, v0_isImpossible, v0_sumSet, v0_sumOf, v0_sumRight, v0_empty, v0_empties, v0_taken, v0_ones, v0_waitTaken, v0_waitOnes, v0_nodeCount, v0_lastModel, v0_modelCount, v0_modelIs, v0_gSet, v0_gateCount])), (q0_eSet, .inl (cL, n0_eSet, .inr (.inl (vp_updL h0_eSet f0_equations.toNatClampNeg x1)))), (q0_eRight, .inl (cI, n0_eRight, .inl h0_eRight))] := hD
          refine lv_aload_n hx hb dX8_equation_56 rfl (lv_at hl 0 rfl) ?_
          refine va_get (D := D) (ci := 8) (v := .ref q0_eRight) (C := RX8) (T := TX8) (N := 43) hx hb hts in_X8_equation_X8 hown hK hP 0 rfl rfl 4 (by decide) lk_2 (fun _ h9 => h9) rfl dX8_equation_57 ?_
          refine lv_aload_n hx hb dX8_equation_60 rfl (lv_at hl 0 rfl) ?_
          refine va_get (D := D) (ci := 8) (v := .int f0_equations) (C := RX8) (T := TX8) (N := 43) hx hb hts in_X8_equation_X8 hown hK hP 0 rfl rfl 2 (by decide) lk_0 (fun _ h9 => h9) rfl dX8_equation_61 ?_
          refine lv_iload_n hx hb dX8_equation_64 rfl (lv_at hl 2 rfl) ?_
          obtain ⟨b_30, h⟩ := co_i h
          refine va_iast hx hb hK hP hD hS 2 0 rfl rfl b_30 dX8_equation_65 (fun H locs hP hD hS => ?_)
          have hP : va_P D vwCl [(q0, .inr (8, [.int u_25.2, .int f0_n, .int f0_equations, .ref q0_eSet, .ref q0_eRight, v0_clauses, v0_cYes, v0_cNo, v0_levels, v0_levelEquations, v0_levelClauses, v0_tape, v0_tapeSize, v0_faultIs, v0_faultAt, v0_at, v0_newEquations, v0_newClauses, v0_newSet, v0_newRight, v0_newYes, v0_newNo, v0_lineYes, v0_lineNo, v0_rowCount, v0_rSet, v0_rRight, v0_isImpossible, v0_sumSet, v0_sumOf, v0_sumRight, v0_empty, v0_empties, v0_taken, v0_ones, v0_waitTaken, v0_waitOnes, v0_nodeCount, v0_lastModel, v0_modelCount, v0_modelIs, v0_gSet, v0_gateCount])), (q0_eSet, .inl (cL, n0_eSet, .inr (.inl (vp_updL h0_eSet f0_equations.toNatClampNeg x1)))), (q0_eRight, .inl (cI, n0_eRight, .inl (upd h0_eRight f0_equations.toNatClampNeg x3)))] H := hP
          have hD : va_D A [(q0, .inr (8, [.int u_25.2, .int f0_n, .int f0_equations, .ref q0_eSet, .ref q0_eRight, v0_clauses, v0_cYes, v0_cNo, v0_levels, v0_levelEquations, v0_levelClauses, v0_tape, v0_tapeSize, v0_faultIs, v0_faultAt, v0_at, v0_newEquations, v0_newClauses, v0_newSet, v0_newRight, v0_newYes, v0_newNo, v0_lineYes, v0_lineNo, v0_rowCount, v0_rSet, v0_rRight, v0_isImpossible, v0_sumSet, v0_sumOf, v0_sumRight, v0_empty, v0_empties, v0_taken, v0_ones, v0_waitTaken, v0_waitOnes, v0_nodeCount, v0_lastModel, v0_modelCount, v0_modelIs, v0_gSet, v0_gateCount])), (q0_eSet, .inl (cL, n0_eSet, .inr (.inl (vp_updL h0_eSet f0_equations.toNatClampNeg x1)))), (q0_eRight, .inl (cI, n0_eRight, .inl (upd h0_eRight f0_equations.toNatClampNeg x3)))] := hD
          refine lv_aload_n hx hb dX8_equation_66 rfl (lv_at hl 0 rfl) ?_
          refine lv_dup hx hb dX8_equation_67 rfl ?_
          refine va_get (D := D) (ci := 8) (v := .int f0_equations) (C := RX8) (T := TX8) (N := 43) hx hb hts in_X8_equation_X8 hown hK hP 0 rfl rfl 2 (by decide) lk_0 (fun _ h9 => h9) rfl dX8_equation_68 ?_
          refine lv_iconst (v := (1 : Int32)) hx hb dX8_equation_71 (by decide) ?_
          refine lv_iadd hx hb dX8_equation_72 ?_
          refine va_put (D := D) (ci := 8) (v := .int (f0_equations + (1 : Int32))) (ty := .int) (C := RX8) (T := TX8) (N := 43) hx hb hts in_X8_equation_X8 tyX8 tyX8_ok nmX8 hown hK hP hD hS 0 rfl rfl 2 (by decide) lk_0 (fun _ h9 => h9) rfl (by decide +kernel) rfl rfl (Nat.le_of_ble_eq_true rfl) dX8_equation_73 (fun H locs hP hD hS => ?_)
          have hP : va_P D vwCl [(q0, .inr (8, [.int u_25.2, .int f0_n, .int (f0_equations + (1 : Int32)), .ref q0_eSet, .ref q0_eRight, v0_clauses, v0_cYes, v0_cNo, v0_levels, v0_levelEquations, v0_levelClauses, v0_tape, v0_tapeSize, v0_faultIs, v0_faultAt, v0_at, v0_newEquations, v0_newClauses, v0_newSet, v0_newRight, v0_newYes, v0_newNo, v0_lineYes, v0_lineNo, v0_rowCount, v0_rSet, v0_rRight, v0_isImpossible, v0_sumSet, v0_sumOf, v0_sumRight, v0_empty, v0_empties, v0_taken, v0_ones, v0_waitTaken, v0_waitOnes, v0_nodeCount, v0_lastModel, v0_modelCount, v0_modelIs, v0_gSet, v0_gateCount])), (q0_eSet, .inl (cL, n0_eSet, .inr (.inl (vp_updL h0_eSet f0_equations.toNatClampNeg x1)))), (q0_eRight, .inl (cI, n0_eRight, .inl (upd h0_eRight f0_equations.toNatClampNeg x3)))] H := hP
          have hD : va_D A [(q0, .inr (8, [.int u_25.2, .int f0_n, .int (f0_equations + (1 : Int32)), .ref q0_eSet, .ref q0_eRight, v0_clauses, v0_cYes, v0_cNo, v0_levels, v0_levelEquations, v0_levelClauses, v0_tape, v0_tapeSize, v0_faultIs, v0_faultAt, v0_at, v0_newEquations, v0_newClauses, v0_newSet, v0_newRight, v0_newYes, v0_newNo, v0_lineYes, v0_lineNo, v0_rowCount, v0_rSet, v0_rRight, v0_isImpossible, v0_sumSet, v0_sumOf, v0_sumRight, v0_empty, v0_empties, v0_taken, v0_ones, v0_waitTaken, v0_waitOnes, v0_nodeCount, v0_lastModel, v0_modelCount, v0_modelIs, v0_gSet, v0_gateCount])), (q0_eSet, .inl (cL, n0_eSet, .inr (.inl (vp_updL h0_eSet f0_equations.toNatClampNeg x1)))), (q0_eRight, .inl (cI, n0_eRight, .inl (upd h0_eRight f0_equations.toNatClampNeg x3)))] := hD
          refine lv_aload_n hx hb dX8_equation_76 rfl (lv_at hl 0 rfl) ?_
          refine va_get (D := D) (ci := 8) (v := .int (f0_equations + (1 : Int32))) (C := RX8) (T := TX8) (N := 43) hx hb hts in_X8_equation_X8 hown hK hP 0 rfl rfl 2 (by decide) lk_0 (fun _ h9 => h9) rfl dX8_equation_77 ?_
          refine lv_iconst (v := (1 : Int32)) hx hb dX8_equation_80 (by decide) ?_
          refine lv_isub hx hb dX8_equation_81 ?_
          have h := Option.some.inj h
          subst h
          subst hQ
          exact W.iret (v := (f0_equations + (1 : Int32)) - (1 : Int32)) hx hb hr (fun t ht hW => ⟨⟨(f0_equations + (1 : Int32)) - (1 : Int32), (), rfl, ⟨rfl, trivial⟩, by rw [ht]; exact hP, hD⟩, hS.F ht⟩) hS.2.2 dX8_equation_82
        · have k_28 : ¬ (u_25.1 = true) := (kx_z c_27)
          have h := co_f k_28 h
          refine lv_iconst (v := (0 : Int32)) hx hb dX8_equation_44 (by decide) ?_
          have h := Option.some.inj h
          subst h
          subst hQ
          exact W.iret (v := (0 : Int32)) hx hb hr (fun t ht hW => ⟨⟨(0 : Int32), (), rfl, ⟨rfl, trivial⟩, by rw [ht]; exact hP, hD⟩, hS.F ht⟩) hS.2.2 dX8_equation_45
      · have k_24 : ¬ ((60 : Int32) ≤ f0_equations) := c_23
        have h := co_f k_24 h
        refine lv_iconst (v := (1 : Int32)) hx hb dX8_equation_33 (by decide) ?_
        refine lv_goto (tgt := 38) hx hb dX8_equation_34 (by decide) ?_
        obtain ⟨u_31, hu_32, h⟩ := co_b h
        refine kx_i (ws' := fun _ => [(q0, .inr (8, [.int u_31.2, .int f0_n, .int f0_equations, .ref q0_eSet, .ref q0_eRight, v0_clauses, v0_cYes, v0_cNo, v0_levels, v0_levelEquations, v0_levelClauses, v0_tape, v0_tapeSize, v0_faultIs, v0_faultAt, v0_at, v0_newEquations, v0_newClauses, v0_newSet, v0_newRight, v0_newYes, v0_newNo, v0_lineYes, v0_lineNo, v0_rowCount, v0_rSet, v0_rRight, v0_isImpossible, v0_sumSet, v0_sumOf, v0_sumRight, v0_empty, v0_empties, v0_taken, v0_ones, v0_waitTaken, v0_waitOnes, v0_nodeCount, v0_lastModel, v0_modelCount, v0_modelIs, v0_gSet, v0_gateCount])), (q0_eSet, .inl (cL, n0_eSet, .inr (.inl h0_eSet))), (q0_eRight, .inl (cI, n0_eRight, .inl h0_eRight))]) hP hD hS hA [0] [1, 2] [2, 0, 1] rfl rfl (by decide) (by decide) (fun _ => rfl) (by decide) (va_runV (As := [.int (bI false), .int (bI true)]) (rest := []) ⟨hx, hb, hml, hown, hts⟩ (cm_X8_may l D cI cL (q0 := q0) (f0_thrown := f0_thrown) (v0_n := .int f0_n) (v0_equations := .int f0_equations) (v0_eSet := .ref q0_eSet) (v0_eRight := .ref q0_eRight) (v0_clauses := v0_clauses) (v0_cYes := v0_cYes) (v0_cNo := v0_cNo) (v0_levels := v0_levels) (v0_levelEquations := v0_levelEquations) (v0_levelClauses := v0_levelClauses) (v0_tape := v0_tape) (v0_tapeSize := v0_tapeSize) (v0_faultIs := v0_faultIs) (v0_faultAt := v0_faultAt) (v0_at := v0_at) (v0_newEquations := v0_newEquations) (v0_newClauses := v0_newClauses) (v0_newSet := v0_newSet) (v0_newRight := v0_newRight) (v0_newYes := v0_newYes) (v0_newNo := v0_newNo) (v0_lineYes := v0_lineYes) (v0_lineNo := v0_lineNo) (v0_rowCount := v0_rowCount) (v0_rSet := v0_rSet) (v0_rRight := v0_rRight) (v0_isImpossible := v0_isImpossible) (v0_sumSet := v0_sumSet) (v0_sumOf := v0_sumOf) (v0_sumRight := v0_sumRight) (v0_empty := v0_empty) (v0_empties := v0_empties) (v0_taken := v0_taken) (v0_ones := v0_ones) (v0_waitTaken := v0_waitTaken) (v0_waitOnes := v0_waitOnes) (v0_nodeCount := v0_nodeCount) (v0_lastModel := v0_lastModel) (v0_modelCount := v0_modelCount) (v0_modelIs := v0_modelIs) (v0_gSet := v0_gSet) (v0_gateCount := v0_gateCount) (x1 := false) (x2 := true) (r0 := u_31) (hr0 := hu_32) (sz := H.size)) (cwV 2 hts gX8_equation_X8_may rfl rfl rfl (by decide +kernel) ⟨Nat.le_of_ble_eq_true rfl, Nat.le_of_ble_eq_true rfl⟩) (kx_preV hEV hP hD [0] rfl (by decide) (k0 := 0) (ci := 8) rfl rfl rfl) rfl rfl hl.1 rfl (lv_room (Nat.le_of_ble_eq_true rfl)) dX8_equation_38 ⟨Nat.le_of_ble_eq_true rfl, Nat.le_of_ble_eq_true rfl⟩) (fun _ H locs _ hP hD hS => ?_)
        refine lv_if_ne (tgt := 46) hx hb dX8_equation_41 (by decide) (fun c_33 => ?_) (fun c_33 => ?_)
        · have k_34 : u_31.1 = true := (kx_nz c_33)
          have h := co_t k_34 h
          refine lv_aload_n hx hb dX8_equation_46 rfl (lv_at hl 0 rfl) ?_
          refine va_get (D := D) (ci := 8) (v := .ref q0_eSet) (C := RX8) (T := TX8) (N := 43) hx hb hts in_X8_equation_X8 hown hK hP 0 rfl rfl 3 (by decide) lk_1 (fun _ h9 => h9) rfl dX8_equation_47 ?_
          refine lv_aload_n hx hb dX8_equation_50 rfl (lv_at hl 0 rfl) ?_
          refine va_get (D := D) (ci := 8) (v := .int f0_equations) (C := RX8) (T := TX8) (N := 43) hx hb hts in_X8_equation_X8 hown hK hP 0 rfl rfl 2 (by decide) lk_0 (fun _ h9 => h9) rfl dX8_equation_51 ?_
          refine lv_lload_n hx hb dX8_equation_54 rfl (lv_at hl 1 rfl) ?_
          obtain ⟨b_35, h⟩ := co_i h
          refine va_last hx hb hK hP hD hS 1 1 rfl rfl b_35 dX8_equation_55 (fun H locs hP hD hS => ?_)
          have hP : va_P D vwCl [(q0, .inr (8, [.int u_31.2, .int f0_n, .int f0_equations, .ref q0_eSet, .ref q0_eRight, v0_clauses, v0_cYes, v0_cNo, v0_levels, v0_levelEquations, v0_levelClauses, v0_tape, v0_tapeSize, v0_faultIs, v0_faultAt, v0_at, v0_newEquations, v0_newClauses, v0_newSet, v0_newRight, v0_newYes, v0_newNo, v0_lineYes, v0_lineNo, v0_rowCount, v0_rSet, v0_rRight, v0_isImpossible, v0_sumSet, v0_sumOf, v0_sumRight, v0_empty, v0_empties, v0_taken, v0_ones, v0_waitTaken, v0_waitOnes, v0_nodeCount, v0_lastModel, v0_modelCount, v0_modelIs, v0_gSet, v0_gateCount])), (q0_eSet, .inl (cL, n0_eSet, .inr (.inl (vp_updL h0_eSet f0_equations.toNatClampNeg x1)))), (q0_eRight, .inl (cI, n0_eRight, .inl h0_eRight))] H := hP
          have hD : va_D A [(q0, .inr (8, [.int u_31.2, .int f0_n, .int f0_equations, .ref q0_eSet, .ref q0_eRight, v0_clauses, v0_cYes, v0_cNo, v0_levels, v0_levelEquations, v0_levelClauses, v0_tape, v0_tapeSize, v0_faultIs, v0_faultAt, v0_at, v0_newEquations, v0_newClauses, v0_newSet, v0_newRight, v0_newYes, v0_newNo, v0_lineYes, v0_lineNo, v0_rowCount, v0_rSet, v0_rRight, v0_isImpossible, v0_sumSet, v0_sumOf, v0_sumRight, v0_empty, v0_empties, v0_taken, v0_ones, v0_waitTaken, v0_waitOnes, v0_nodeCount, v0_lastModel, v0_modelCount, v0_modelIs, v0_gSet, v0_gateCount])), (q0_eSet, .inl (cL, n0_eSet, .inr (.inl (vp_updL h0_eSet f0_equations.toNatClampNeg x1)))), (q0_eRight, .inl (cI, n0_eRight, .inl h0_eRight))] := hD
          refine lv_aload_n hx hb dX8_equation_56 rfl (lv_at hl 0 rfl) ?_
          refine va_get (D := D) (ci := 8) (v := .ref q0_eRight) (C := RX8) (T := TX8) (N := 43) hx hb hts in_X8_equation_X8 hown hK hP 0 rfl rfl 4 (by decide) lk_2 (fun _ h9 => h9) rfl dX8_equation_57 ?_
          refine lv_aload_n hx hb dX8_equation_60 rfl (lv_at hl 0 rfl) ?_
          refine va_get (D := D) (ci := 8) (v := .int f0_equations) (C := RX8) (T := TX8) (N := 43) hx hb hts in_X8_equation_X8 hown hK hP 0 rfl rfl 2 (by decide) lk_0 (fun _ h9 => h9) rfl dX8_equation_61 ?_
          refine lv_iload_n hx hb dX8_equation_64 rfl (lv_at hl 2 rfl) ?_
          obtain ⟨b_36, h⟩ := co_i h
          refine va_iast hx hb hK hP hD hS 2 0 rfl rfl b_36 dX8_equation_65 (fun H locs hP hD hS => ?_)
          have hP : va_P D vwCl [(q0, .inr (8, [.int u_31.2, .int f0_n, .int f0_equations, .ref q0_eSet, .ref q0_eRight, v0_clauses, v0_cYes, v0_cNo, v0_levels, v0_levelEquations, v0_levelClauses, v0_tape, v0_tapeSize, v0_faultIs, v0_faultAt, v0_at, v0_newEquations, v0_newClauses, v0_newSet, v0_newRight, v0_newYes, v0_newNo, v0_lineYes, v0_lineNo, v0_rowCount, v0_rSet, v0_rRight, v0_isImpossible, v0_sumSet, v0_sumOf, v0_sumRight, v0_empty, v0_empties, v0_taken, v0_ones, v0_waitTaken, v0_waitOnes, v0_nodeCount, v0_lastModel, v0_modelCount, v0_modelIs, v0_gSet, v0_gateCount])), (q0_eSet, .inl (cL, n0_eSet, .inr (.inl (vp_updL h0_eSet f0_equations.toNatClampNeg x1)))), (q0_eRight, .inl (cI, n0_eRight, .inl (upd h0_eRight f0_equations.toNatClampNeg x3)))] H := hP
          have hD : va_D A [(q0, .inr (8, [.int u_31.2, .int f0_n, .int f0_equations, .ref q0_eSet, .ref q0_eRight, v0_clauses, v0_cYes, v0_cNo, v0_levels, v0_levelEquations, v0_levelClauses, v0_tape, v0_tapeSize, v0_faultIs, v0_faultAt, v0_at, v0_newEquations, v0_newClauses, v0_newSet, v0_newRight, v0_newYes, v0_newNo, v0_lineYes, v0_lineNo, v0_rowCount, v0_rSet, v0_rRight, v0_isImpossible, v0_sumSet, v0_sumOf, v0_sumRight, v0_empty, v0_empties, v0_taken, v0_ones, v0_waitTaken, v0_waitOnes, v0_nodeCount, v0_lastModel, v0_modelCount, v0_modelIs, v0_gSet, v0_gateCount])), (q0_eSet, .inl (cL, n0_eSet, .inr (.inl (vp_updL h0_eSet f0_equations.toNatClampNeg x1)))), (q0_eRight, .inl (cI, n0_eRight, .inl (upd h0_eRight f0_equations.toNatClampNeg x3)))] := hD
          refine lv_aload_n hx hb dX8_equation_66 rfl (lv_at hl 0 rfl) ?_
          refine lv_dup hx hb dX8_equation_67 rfl ?_
          refine va_get (D := D) (ci := 8) (v := .int f0_equations) (C := RX8) (T := TX8) (N := 43) hx hb hts in_X8_equation_X8 hown hK hP 0 rfl rfl 2 (by decide) lk_0 (fun _ h9 => h9) rfl dX8_equation_68 ?_
          refine lv_iconst (v := (1 : Int32)) hx hb dX8_equation_71 (by decide) ?_
          refine lv_iadd hx hb dX8_equation_72 ?_
          refine va_put (D := D) (ci := 8) (v := .int (f0_equations + (1 : Int32))) (ty := .int) (C := RX8) (T := TX8) (N := 43) hx hb hts in_X8_equation_X8 tyX8 tyX8_ok nmX8 hown hK hP hD hS 0 rfl rfl 2 (by decide) lk_0 (fun _ h9 => h9) rfl (by decide +kernel) rfl rfl (Nat.le_of_ble_eq_true rfl) dX8_equation_73 (fun H locs hP hD hS => ?_)
          have hP : va_P D vwCl [(q0, .inr (8, [.int u_31.2, .int f0_n, .int (f0_equations + (1 : Int32)), .ref q0_eSet, .ref q0_eRight, v0_clauses, v0_cYes, v0_cNo, v0_levels, v0_levelEquations, v0_levelClauses, v0_tape, v0_tapeSize, v0_faultIs, v0_faultAt, v0_at, v0_newEquations, v0_newClauses, v0_newSet, v0_newRight, v0_newYes, v0_newNo, v0_lineYes, v0_lineNo, v0_rowCount, v0_rSet, v0_rRight, v0_isImpossible, v0_sumSet, v0_sumOf, v0_sumRight, v0_empty, v0_empties, v0_taken, v0_ones, v0_waitTaken, v0_waitOnes, v0_nodeCount, v0_lastModel, v0_modelCount, v0_modelIs, v0_gSet, v0_gateCount])), (q0_eSet, .inl (cL, n0_eSet, .inr (.inl (vp_updL h0_eSet f0_equations.toNatClampNeg x1)))), (q0_eRight, .inl (cI, n0_eRight, .inl (upd h0_eRight f0_equations.toNatClampNeg x3)))] H := hP
          have hD : va_D A [(q0, .inr (8, [.int u_31.2, .int f0_n, .int (f0_equations + (1 : Int32)), .ref q0_eSet, .ref q0_eRight, v0_clauses, v0_cYes, v0_cNo, v0_levels, v0_levelEquations, v0_levelClauses, v0_tape, v0_tapeSize, v0_faultIs, v0_faultAt, v0_at, v0_newEquations, v0_newClauses, v0_newSet, v0_newRight, v0_newYes, v0_newNo, v0_lineYes, v0_lineNo, v0_rowCount, v0_rSet, v0_rRight, v0_isImpossible, v0_sumSet, v0_sumOf, v0_sumRight, v0_empty, v0_empties, v0_taken, v0_ones, v0_waitTaken, v0_waitOnes, v0_nodeCount, v0_lastModel, v0_modelCount, v0_modelIs, v0_gSet, v0_gateCount])), (q0_eSet, .inl (cL, n0_eSet, .inr (.inl (vp_updL h0_eSet f0_equations.toNatClampNeg x1)))), (q0_eRight, .inl (cI, n0_eRight, .inl (upd h0_eRight f0_equations.toNatClampNeg x3)))] := hD
          refine lv_aload_n hx hb dX8_equation_76 rfl (lv_at hl 0 rfl) ?_
          refine va_get (D := D) (ci := 8) (v := .int (f0_equations + (1 : Int32))) (C := RX8) (T := TX8) (N := 43) hx hb hts in_X8_equation_X8 hown hK hP 0 rfl rfl 2 (by decide) lk_0 (fun _ h9 => h9) rfl dX8_equation_77 ?_
          refine lv_iconst (v := (1 : Int32)) hx hb dX8_equation_80 (by decide) ?_
          refine lv_isub hx hb dX8_equation_81 ?_
          have h := Option.some.inj h
          subst h
          subst hQ
          exact W.iret (v := (f0_equations + (1 : Int32)) - (1 : Int32)) hx hb hr (fun t ht hW => ⟨⟨(f0_equations + (1 : Int32)) - (1 : Int32), (), rfl, ⟨rfl, trivial⟩, by rw [ht]; exact hP, hD⟩, hS.F ht⟩) hS.2.2 dX8_equation_82
        · have k_34 : ¬ (u_31.1 = true) := (kx_z c_33)
          have h := co_f k_34 h
          refine lv_iconst (v := (0 : Int32)) hx hb dX8_equation_44 (by decide) ?_
          have h := Option.some.inj h
          subst h
          subst hQ
          exact W.iret (v := (0 : Int32)) hx hb hr (fun t ht hW => ⟨⟨(0 : Int32), (), rfl, ⟨rfl, trivial⟩, by rw [ht]; exact hP, hD⟩, hS.F ht⟩) hS.2.2 dX8_equation_45
    · have k_22 : u_19 = true := (kx_nz c_21)
      have h := co_t k_22 h
      refine lv_iconst (v := (1 : Int32)) hx hb dX8_equation_19 (by decide) ?_
      refine lv_goto (tgt := 24) hx hb dX8_equation_20 (by decide) ?_
      refine lv_aload_n hx hb dX8_equation_24 rfl (lv_at hl 0 rfl) ?_
      refine va_get (D := D) (ci := 8) (v := .int f0_equations) (C := RX8) (T := TX8) (N := 43) hx hb hts in_X8_equation_X8 hown hK hP 0 rfl rfl 2 (by decide) lk_0 (fun _ h9 => h9) rfl dX8_equation_25 ?_
      refine lv_bipush (v := (60 : Int32)) hx hb dX8_equation_28 (by decide) ?_
      refine lv_icmp_ge (tgt := 37) hx hb dX8_equation_30 (by decide) (fun c_37 => ?_) (fun c_37 => ?_)
      · have k_38 : (60 : Int32) ≤ f0_equations := c_37
        have h := co_t k_38 h
        refine lv_iconst (v := (0 : Int32)) hx hb dX8_equation_37 (by decide) ?_
        obtain ⟨u_39, hu_40, h⟩ := co_b h
        refine kx_i (ws' := fun _ => [(q0, .inr (8, [.int u_39.2, .int f0_n, .int f0_equations, .ref q0_eSet, .ref q0_eRight, v0_clauses, v0_cYes, v0_cNo, v0_levels, v0_levelEquations, v0_levelClauses, v0_tape, v0_tapeSize, v0_faultIs, v0_faultAt, v0_at, v0_newEquations, v0_newClauses, v0_newSet, v0_newRight, v0_newYes, v0_newNo, v0_lineYes, v0_lineNo, v0_rowCount, v0_rSet, v0_rRight, v0_isImpossible, v0_sumSet, v0_sumOf, v0_sumRight, v0_empty, v0_empties, v0_taken, v0_ones, v0_waitTaken, v0_waitOnes, v0_nodeCount, v0_lastModel, v0_modelCount, v0_modelIs, v0_gSet, v0_gateCount])), (q0_eSet, .inl (cL, n0_eSet, .inr (.inl h0_eSet))), (q0_eRight, .inl (cI, n0_eRight, .inl h0_eRight))]) hP hD hS hA [0] [1, 2] [2, 0, 1] rfl rfl (by decide) (by decide) (fun _ => rfl) (by decide) (va_runV (As := [.int (bI true), .int (bI false)]) (rest := []) ⟨hx, hb, hml, hown, hts⟩ (cm_X8_may l D cI cL (q0 := q0) (f0_thrown := f0_thrown) (v0_n := .int f0_n) (v0_equations := .int f0_equations) (v0_eSet := .ref q0_eSet) (v0_eRight := .ref q0_eRight) (v0_clauses := v0_clauses) (v0_cYes := v0_cYes) (v0_cNo := v0_cNo) (v0_levels := v0_levels) (v0_levelEquations := v0_levelEquations) (v0_levelClauses := v0_levelClauses) (v0_tape := v0_tape) (v0_tapeSize := v0_tapeSize) (v0_faultIs := v0_faultIs) (v0_faultAt := v0_faultAt) (v0_at := v0_at) (v0_newEquations := v0_newEquations) (v0_newClauses := v0_newClauses) (v0_newSet := v0_newSet) (v0_newRight := v0_newRight) (v0_newYes := v0_newYes) (v0_newNo := v0_newNo) (v0_lineYes := v0_lineYes) (v0_lineNo := v0_lineNo) (v0_rowCount := v0_rowCount) (v0_rSet := v0_rSet) (v0_rRight := v0_rRight) (v0_isImpossible := v0_isImpossible) (v0_sumSet := v0_sumSet) (v0_sumOf := v0_sumOf) (v0_sumRight := v0_sumRight) (v0_empty := v0_empty) (v0_empties := v0_empties) (v0_taken := v0_taken) (v0_ones := v0_ones) (v0_waitTaken := v0_waitTaken) (v0_waitOnes := v0_waitOnes) (v0_nodeCount := v0_nodeCount) (v0_lastModel := v0_lastModel) (v0_modelCount := v0_modelCount) (v0_modelIs := v0_modelIs) (v0_gSet := v0_gSet) (v0_gateCount := v0_gateCount) (x1 := true) (x2 := false) (r0 := u_39) (hr0 := hu_40) (sz := H.size)) (cwV 2 hts gX8_equation_X8_may rfl rfl rfl (by decide +kernel) ⟨Nat.le_of_ble_eq_true rfl, Nat.le_of_ble_eq_true rfl⟩) (kx_preV hEV hP hD [0] rfl (by decide) (k0 := 0) (ci := 8) rfl rfl rfl) rfl rfl hl.1 rfl (lv_room (Nat.le_of_ble_eq_true rfl)) dX8_equation_38 ⟨Nat.le_of_ble_eq_true rfl, Nat.le_of_ble_eq_true rfl⟩) (fun _ H locs _ hP hD hS => ?_)
        refine lv_if_ne (tgt := 46) hx hb dX8_equation_41 (by decide) (fun c_41 => ?_) (fun c_41 => ?_)
        · have k_42 : u_39.1 = true := (kx_nz c_41)
          have h := co_t k_42 h
          refine lv_aload_n hx hb dX8_equation_46 rfl (lv_at hl 0 rfl) ?_
          refine va_get (D := D) (ci := 8) (v := .ref q0_eSet) (C := RX8) (T := TX8) (N := 43) hx hb hts in_X8_equation_X8 hown hK hP 0 rfl rfl 3 (by decide) lk_1 (fun _ h9 => h9) rfl dX8_equation_47 ?_
          refine lv_aload_n hx hb dX8_equation_50 rfl (lv_at hl 0 rfl) ?_
          refine va_get (D := D) (ci := 8) (v := .int f0_equations) (C := RX8) (T := TX8) (N := 43) hx hb hts in_X8_equation_X8 hown hK hP 0 rfl rfl 2 (by decide) lk_0 (fun _ h9 => h9) rfl dX8_equation_51 ?_
          refine lv_lload_n hx hb dX8_equation_54 rfl (lv_at hl 1 rfl) ?_
          obtain ⟨b_43, h⟩ := co_i h
          refine va_last hx hb hK hP hD hS 1 1 rfl rfl b_43 dX8_equation_55 (fun H locs hP hD hS => ?_)
          have hP : va_P D vwCl [(q0, .inr (8, [.int u_39.2, .int f0_n, .int f0_equations, .ref q0_eSet, .ref q0_eRight, v0_clauses, v0_cYes, v0_cNo, v0_levels, v0_levelEquations, v0_levelClauses, v0_tape, v0_tapeSize, v0_faultIs, v0_faultAt, v0_at, v0_newEquations, v0_newClauses, v0_newSet, v0_newRight, v0_newYes, v0_newNo, v0_lineYes, v0_lineNo, v0_rowCount, v0_rSet, v0_rRight, v0_isImpossible, v0_sumSet, v0_sumOf, v0_sumRight, v0_empty, v0_empties, v0_taken, v0_ones, v0_waitTaken, v0_waitOnes, v0_nodeCount, v0_lastModel, v0_modelCount, v0_modelIs, v0_gSet, v0_gateCount])), (q0_eSet, .inl (cL, n0_eSet, .inr (.inl (vp_updL h0_eSet f0_equations.toNatClampNeg x1)))), (q0_eRight, .inl (cI, n0_eRight, .inl h0_eRight))] H := hP
          have hD : va_D A [(q0, .inr (8, [.int u_39.2, .int f0_n, .int f0_equations, .ref q0_eSet, .ref q0_eRight, v0_clauses, v0_cYes, v0_cNo, v0_levels, v0_levelEquations, v0_levelClauses, v0_tape, v0_tapeSize, v0_faultIs, v0_faultAt, v0_at, v0_newEquations, v0_newClauses, v0_newSet, v0_newRight, v0_newYes, v0_newNo, v0_lineYes, v0_lineNo, v0_rowCount, v0_rSet, v0_rRight, v0_isImpossible, v0_sumSet, v0_sumOf, v0_sumRight, v0_empty, v0_empties, v0_taken, v0_ones, v0_waitTaken, v0_waitOnes, v0_nodeCount, v0_lastModel, v0_modelCount, v0_modelIs, v0_gSet, v0_gateCount])), (q0_eSet, .inl (cL, n0_eSet, .inr (.inl (vp_updL h0_eSet f0_equations.toNatClampNeg x1)))), (q0_eRight, .inl (cI, n0_eRight, .inl h0_eRight))] := hD
          refine lv_aload_n hx hb dX8_equation_56 rfl (lv_at hl 0 rfl) ?_
          refine va_get (D := D) (ci := 8) (v := .ref q0_eRight) (C := RX8) (T := TX8) (N := 43) hx hb hts in_X8_equation_X8 hown hK hP 0 rfl rfl 4 (by decide) lk_2 (fun _ h9 => h9) rfl dX8_equation_57 ?_
          refine lv_aload_n hx hb dX8_equation_60 rfl (lv_at hl 0 rfl) ?_
          refine va_get (D := D) (ci := 8) (v := .int f0_equations) (C := RX8) (T := TX8) (N := 43) hx hb hts in_X8_equation_X8 hown hK hP 0 rfl rfl 2 (by decide) lk_0 (fun _ h9 => h9) rfl dX8_equation_61 ?_
          refine lv_iload_n hx hb dX8_equation_64 rfl (lv_at hl 2 rfl) ?_
          obtain ⟨b_44, h⟩ := co_i h
          refine va_iast hx hb hK hP hD hS 2 0 rfl rfl b_44 dX8_equation_65 (fun H locs hP hD hS => ?_)
          have hP : va_P D vwCl [(q0, .inr (8, [.int u_39.2, .int f0_n, .int f0_equations, .ref q0_eSet, .ref q0_eRight, v0_clauses, v0_cYes, v0_cNo, v0_levels, v0_levelEquations, v0_levelClauses, v0_tape, v0_tapeSize, v0_faultIs, v0_faultAt, v0_at, v0_newEquations, v0_newClauses, v0_newSet, v0_newRight, v0_newYes, v0_newNo, v0_lineYes, v0_lineNo, v0_rowCount, v0_rSet, v0_rRight, v0_isImpossible, v0_sumSet, v0_sumOf, v0_sumRight, v0_empty, v0_empties, v0_taken, v0_ones, v0_waitTaken, v0_waitOnes, v0_nodeCount, v0_lastModel, v0_modelCount, v0_modelIs, v0_gSet, v0_gateCount])), (q0_eSet, .inl (cL, n0_eSet, .inr (.inl (vp_updL h0_eSet f0_equations.toNatClampNeg x1)))), (q0_eRight, .inl (cI, n0_eRight, .inl (upd h0_eRight f0_equations.toNatClampNeg x3)))] H := hP
          have hD : va_D A [(q0, .inr (8, [.int u_39.2, .int f0_n, .int f0_equations, .ref q0_eSet, .ref q0_eRight, v0_clauses, v0_cYes, v0_cNo, v0_levels, v0_levelEquations, v0_levelClauses, v0_tape, v0_tapeSize, v0_faultIs, v0_faultAt, v0_at, v0_newEquations, v0_newClauses, v0_newSet, v0_newRight, v0_newYes, v0_newNo, v0_lineYes, v0_lineNo, v0_rowCount, v0_rSet, v0_rRight, v0_isImpossible, v0_sumSet, v0_sumOf, v0_sumRight, v0_empty, v0_empties, v0_taken, v0_ones, v0_waitTaken, v0_waitOnes, v0_nodeCount, v0_lastModel, v0_modelCount, v0_modelIs, v0_gSet, v0_gateCount])), (q0_eSet, .inl (cL, n0_eSet, .inr (.inl (vp_updL h0_eSet f0_equations.toNatClampNeg x1)))), (q0_eRight, .inl (cI, n0_eRight, .inl (upd h0_eRight f0_equations.toNatClampNeg x3)))] := hD
          refine lv_aload_n hx hb dX8_equation_66 rfl (lv_at hl 0 rfl) ?_
          refine lv_dup hx hb dX8_equation_67 rfl ?_
          refine va_get (D := D) (ci := 8) (v := .int f0_equations) (C := RX8) (T := TX8) (N := 43) hx hb hts in_X8_equation_X8 hown hK hP 0 rfl rfl 2 (by decide) lk_0 (fun _ h9 => h9) rfl dX8_equation_68 ?_
          refine lv_iconst (v := (1 : Int32)) hx hb dX8_equation_71 (by decide) ?_
          refine lv_iadd hx hb dX8_equation_72 ?_
          refine va_put (D := D) (ci := 8) (v := .int (f0_equations + (1 : Int32))) (ty := .int) (C := RX8) (T := TX8) (N := 43) hx hb hts in_X8_equation_X8 tyX8 tyX8_ok nmX8 hown hK hP hD hS 0 rfl rfl 2 (by decide) lk_0 (fun _ h9 => h9) rfl (by decide +kernel) rfl rfl (Nat.le_of_ble_eq_true rfl) dX8_equation_73 (fun H locs hP hD hS => ?_)
          have hP : va_P D vwCl [(q0, .inr (8, [.int u_39.2, .int f0_n, .int (f0_equations + (1 : Int32)), .ref q0_eSet, .ref q0_eRight, v0_clauses, v0_cYes, v0_cNo, v0_levels, v0_levelEquations, v0_levelClauses, v0_tape, v0_tapeSize, v0_faultIs, v0_faultAt, v0_at, v0_newEquations, v0_newClauses, v0_newSet, v0_newRight, v0_newYes, v0_newNo, v0_lineYes, v0_lineNo, v0_rowCount, v0_rSet, v0_rRight, v0_isImpossible, v0_sumSet, v0_sumOf, v0_sumRight, v0_empty, v0_empties, v0_taken, v0_ones, v0_waitTaken, v0_waitOnes, v0_nodeCount, v0_lastModel, v0_modelCount, v0_modelIs, v0_gSet, v0_gateCount])), (q0_eSet, .inl (cL, n0_eSet, .inr (.inl (vp_updL h0_eSet f0_equations.toNatClampNeg x1)))), (q0_eRight, .inl (cI, n0_eRight, .inl (upd h0_eRight f0_equations.toNatClampNeg x3)))] H := hP
          have hD : va_D A [(q0, .inr (8, [.int u_39.2, .int f0_n, .int (f0_equations + (1 : Int32)), .ref q0_eSet, .ref q0_eRight, v0_clauses, v0_cYes, v0_cNo, v0_levels, v0_levelEquations, v0_levelClauses, v0_tape, v0_tapeSize, v0_faultIs, v0_faultAt, v0_at, v0_newEquations, v0_newClauses, v0_newSet, v0_newRight, v0_newYes, v0_newNo, v0_lineYes, v0_lineNo, v0_rowCount, v0_rSet, v0_rRight, v0_isImpossible, v0_sumSet, v0_sumOf, v0_sumRight, v0_empty, v0_empties, v0_taken, v0_ones, v0_waitTaken, v0_waitOnes, v0_nodeCount, v0_lastModel, v0_modelCount, v0_modelIs, v0_gSet, v0_gateCount])), (q0_eSet, .inl (cL, n0_eSet, .inr (.inl (vp_updL h0_eSet f0_equations.toNatClampNeg x1)))), (q0_eRight, .inl (cI, n0_eRight, .inl (upd h0_eRight f0_equations.toNatClampNeg x3)))] := hD
          refine lv_aload_n hx hb dX8_equation_76 rfl (lv_at hl 0 rfl) ?_
          refine va_get (D := D) (ci := 8) (v := .int (f0_equations + (1 : Int32))) (C := RX8) (T := TX8) (N := 43) hx hb hts in_X8_equation_X8 hown hK hP 0 rfl rfl 2 (by decide) lk_0 (fun _ h9 => h9) rfl dX8_equation_77 ?_
          refine lv_iconst (v := (1 : Int32)) hx hb dX8_equation_80 (by decide) ?_
          refine lv_isub hx hb dX8_equation_81 ?_
          have h := Option.some.inj h
          subst h
          subst hQ
          exact W.iret (v := (f0_equations + (1 : Int32)) - (1 : Int32)) hx hb hr (fun t ht hW => ⟨⟨(f0_equations + (1 : Int32)) - (1 : Int32), (), rfl, ⟨rfl, trivial⟩, by rw [ht]; exact hP, hD⟩, hS.F ht⟩) hS.2.2 dX8_equation_82
        · have k_42 : ¬ (u_39.1 = true) := (kx_z c_41)
          have h := co_f k_42 h
          refine lv_iconst (v := (0 : Int32)) hx hb dX8_equation_44 (by decide) ?_
          have h := Option.some.inj h
          subst h
          subst hQ
          exact W.iret (v := (0 : Int32)) hx hb hr (fun t ht hW => ⟨⟨(0 : Int32), (), rfl, ⟨rfl, trivial⟩, by rw [ht]; exact hP, hD⟩, hS.F ht⟩) hS.2.2 dX8_equation_45
      · have k_38 : ¬ ((60 : Int32) ≤ f0_equations) := c_37
        have h := co_f k_38 h
        refine lv_iconst (v := (1 : Int32)) hx hb dX8_equation_33 (by decide) ?_
        refine lv_goto (tgt := 38) hx hb dX8_equation_34 (by decide) ?_
        obtain ⟨u_45, hu_46, h⟩ := co_b h
        refine kx_i (ws' := fun _ => [(q0, .inr (8, [.int u_45.2, .int f0_n, .int f0_equations, .ref q0_eSet, .ref q0_eRight, v0_clauses, v0_cYes, v0_cNo, v0_levels, v0_levelEquations, v0_levelClauses, v0_tape, v0_tapeSize, v0_faultIs, v0_faultAt, v0_at, v0_newEquations, v0_newClauses, v0_newSet, v0_newRight, v0_newYes, v0_newNo, v0_lineYes, v0_lineNo, v0_rowCount, v0_rSet, v0_rRight, v0_isImpossible, v0_sumSet, v0_sumOf, v0_sumRight, v0_empty, v0_empties, v0_taken, v0_ones, v0_waitTaken, v0_waitOnes, v0_nodeCount, v0_lastModel, v0_modelCount, v0_modelIs, v0_gSet, v0_gateCount])), (q0_eSet, .inl (cL, n0_eSet, .inr (.inl h0_eSet))), (q0_eRight, .inl (cI, n0_eRight, .inl h0_eRight))]) hP hD hS hA [0] [1, 2] [2, 0, 1] rfl rfl (by decide) (by decide) (fun _ => rfl) (by decide) (va_runV (As := [.int (bI true), .int (bI true)]) (rest := []) ⟨hx, hb, hml, hown, hts⟩ (cm_X8_may l D cI cL (q0 := q0) (f0_thrown := f0_thrown) (v0_n := .int f0_n) (v0_equations := .int f0_equations) (v0_eSet := .ref q0_eSet) (v0_eRight := .ref q0_eRight) (v0_clauses := v0_clauses) (v0_cYes := v0_cYes) (v0_cNo := v0_cNo) (v0_levels := v0_levels) (v0_levelEquations := v0_levelEquations) (v0_levelClauses := v0_levelClauses) (v0_tape := v0_tape) (v0_tapeSize := v0_tapeSize) (v0_faultIs := v0_faultIs) (v0_faultAt := v0_faultAt) (v0_at := v0_at) (v0_newEquations := v0_newEquations) (v0_newClauses := v0_newClauses) (v0_newSet := v0_newSet) (v0_newRight := v0_newRight) (v0_newYes := v0_newYes) (v0_newNo := v0_newNo) (v0_lineYes := v0_lineYes) (v0_lineNo := v0_lineNo) (v0_rowCount := v0_rowCount) (v0_rSet := v0_rSet) (v0_rRight := v0_rRight) (v0_isImpossible := v0_isImpossible) (v0_sumSet := v0_sumSet) (v0_sumOf := v0_sumOf) (v0_sumRight := v0_sumRight) (v0_empty := v0_empty) (v0_empties := v0_empties) (v0_taken := v0_taken) (v0_ones := v0_ones) (v0_waitTaken := v0_waitTaken) (v0_waitOnes := v0_waitOnes) (v0_nodeCount := v0_nodeCount) (v0_lastModel := v0_lastModel) (v0_modelCount := v0_modelCount) (v0_modelIs := v0_modelIs) (v0_gSet := v0_gSet) (v0_gateCount := v0_gateCount) (x1 := true) (x2 := true) (r0 := u_45) (hr0 := hu_46) (sz := H.size)) (cwV 2 hts gX8_equation_X8_may rfl rfl rfl (by decide +kernel) ⟨Nat.le_of_ble_eq_true rfl, Nat.le_of_ble_eq_true rfl⟩) (kx_preV hEV hP hD [0] rfl (by decide) (k0 := 0) (ci := 8) rfl rfl rfl) rfl rfl hl.1 rfl (lv_room (Nat.le_of_ble_eq_true rfl)) dX8_equation_38 ⟨Nat.le_of_ble_eq_true rfl, Nat.le_of_ble_eq_true rfl⟩) (fun _ H locs _ hP hD hS => ?_)
        refine lv_if_ne (tgt := 46) hx hb dX8_equation_41 (by decide) (fun c_47 => ?_) (fun c_47 => ?_)
        · have k_48 : u_45.1 = true := (kx_nz c_47)
          have h := co_t k_48 h
          refine lv_aload_n hx hb dX8_equation_46 rfl (lv_at hl 0 rfl) ?_
          refine va_get (D := D) (ci := 8) (v := .ref q0_eSet) (C := RX8) (T := TX8) (N := 43) hx hb hts in_X8_equation_X8 hown hK hP 0 rfl rfl 3 (by decide) lk_1 (fun _ h9 => h9) rfl dX8_equation_47 ?_
          refine lv_aload_n hx hb dX8_equation_50 rfl (lv_at hl 0 rfl) ?_
          refine va_get (D := D) (ci := 8) (v := .int f0_equations) (C := RX8) (T := TX8) (N := 43) hx hb hts in_X8_equation_X8 hown hK hP 0 rfl rfl 2 (by decide) lk_0 (fun _ h9 => h9) rfl dX8_equation_51 ?_
          refine lv_lload_n hx hb dX8_equation_54 rfl (lv_at hl 1 rfl) ?_
          obtain ⟨b_49, h⟩ := co_i h
          refine va_last hx hb hK hP hD hS 1 1 rfl rfl b_49 dX8_equation_55 (fun H locs hP hD hS => ?_)
          have hP : va_P D vwCl [(q0, .inr (8, [.int u_45.2, .int f0_n, .int f0_equations, .ref q0_eSet, .ref q0_eRight, v0_clauses, v0_cYes, v0_cNo, v0_levels, v0_levelEquations, v0_levelClauses, v0_tape, v0_tapeSize, v0_faultIs, v0_faultAt, v0_at, v0_newEquations, v0_newClauses, v0_newSet, v0_newRight, v0_newYes, v0_newNo, v0_lineYes, v0_lineNo, v0_rowCount, v0_rSet, v0_rRight, v0_isImpossible, v0_sumSet, v0_sumOf, v0_sumRight, v0_empty, v0_empties, v0_taken, v0_ones, v0_waitTaken, v0_waitOnes, v0_nodeCount, v0_lastModel, v0_modelCount, v0_modelIs, v0_gSet, v0_gateCount])), (q0_eSet, .inl (cL, n0_eSet, .inr (.inl (vp_updL h0_eSet f0_equations.toNatClampNeg x1)))), (q0_eRight, .inl (cI, n0_eRight, .inl h0_eRight))] H := hP
          have hD : va_D A [(q0, .inr (8, [.int u_45.2, .int f0_n, .int f0_equations, .ref q0_eSet, .ref q0_eRight, v0_clauses, v0_cYes, v0_cNo, v0_levels, v0_levelEquations, v0_levelClauses, v0_tape, v0_tapeSize, v0_faultIs, v0_faultAt, v0_at, v0_newEquations, v0_newClauses, v0_newSet, v0_newRight, v0_newYes, v0_newNo, v0_lineYes, v0_lineNo, v0_rowCount, v0_rSet, v0_rRight, v0_isImpossible, v0_sumSet, v0_sumOf, v0_sumRight, v0_empty, v0_empties, v0_taken, v0_ones, v0_waitTaken, v0_waitOnes, v0_nodeCount, v0_lastModel, v0_modelCount, v0_modelIs, v0_gSet, v0_gateCount])), (q0_eSet, .inl (cL, n0_eSet, .inr (.inl (vp_updL h0_eSet f0_equations.toNatClampNeg x1)))), (q0_eRight, .inl (cI, n0_eRight, .inl h0_eRight))] := hD
          refine lv_aload_n hx hb dX8_equation_56 rfl (lv_at hl 0 rfl) ?_
          refine va_get (D := D) (ci := 8) (v := .ref q0_eRight) (C := RX8) (T := TX8) (N := 43) hx hb hts in_X8_equation_X8 hown hK hP 0 rfl rfl 4 (by decide) lk_2 (fun _ h9 => h9) rfl dX8_equation_57 ?_
          refine lv_aload_n hx hb dX8_equation_60 rfl (lv_at hl 0 rfl) ?_
          refine va_get (D := D) (ci := 8) (v := .int f0_equations) (C := RX8) (T := TX8) (N := 43) hx hb hts in_X8_equation_X8 hown hK hP 0 rfl rfl 2 (by decide) lk_0 (fun _ h9 => h9) rfl dX8_equation_61 ?_
          refine lv_iload_n hx hb dX8_equation_64 rfl (lv_at hl 2 rfl) ?_
          obtain ⟨b_50, h⟩ := co_i h
          refine va_iast hx hb hK hP hD hS 2 0 rfl rfl b_50 dX8_equation_65 (fun H locs hP hD hS => ?_)
          have hP : va_P D vwCl [(q0, .inr (8, [.int u_45.2, .int f0_n, .int f0_equations, .ref q0_eSet, .ref q0_eRight, v0_clauses, v0_cYes, v0_cNo, v0_levels, v0_levelEquations, v0_levelClauses, v0_tape, v0_tapeSize, v0_faultIs, v0_faultAt, v0_at, v0_newEquations, v0_newClauses, v0_newSet, v0_newRight, v0_newYes, v0_newNo, v0_lineYes, v0_lineNo, v0_rowCount, v0_rSet, v0_rRight, v0_isImpossible, v0_sumSet, v0_sumOf, v0_sumRight, v0_empty, v0_empties, v0_taken, v0_ones, v0_waitTaken, v0_waitOnes, v0_nodeCount, v0_lastModel, v0_modelCount, v0_modelIs, v0_gSet, v0_gateCount])), (q0_eSet, .inl (cL, n0_eSet, .inr (.inl (vp_updL h0_eSet f0_equations.toNatClampNeg x1)))), (q0_eRight, .inl (cI, n0_eRight, .inl (upd h0_eRight f0_equations.toNatClampNeg x3)))] H := hP
          have hD : va_D A [(q0, .inr (8, [.int u_45.2, .int f0_n, .int f0_equations, .ref q0_eSet, .ref q0_eRight, v0_clauses, v0_cYes, v0_cNo, v0_levels, v0_levelEquations, v0_levelClauses, v0_tape, v0_tapeSize, v0_faultIs, v0_faultAt, v0_at, v0_newEquations, v0_newClauses, v0_newSet, v0_newRight, v0_newYes, v0_newNo, v0_lineYes, v0_lineNo, v0_rowCount, v0_rSet, v0_rRight, v0_isImpossible, v0_sumSet, v0_sumOf, v0_sumRight, v0_empty, v0_empties, v0_taken, v0_ones, v0_waitTaken, v0_waitOnes, v0_nodeCount, v0_lastModel, v0_modelCount, v0_modelIs, v0_gSet, v0_gateCount])), (q0_eSet, .inl (cL, n0_eSet, .inr (.inl (vp_updL h0_eSet f0_equations.toNatClampNeg x1)))), (q0_eRight, .inl (cI, n0_eRight, .inl (upd h0_eRight f0_equations.toNatClampNeg x3)))] := hD
          refine lv_aload_n hx hb dX8_equation_66 rfl (lv_at hl 0 rfl) ?_
          refine lv_dup hx hb dX8_equation_67 rfl ?_
          refine va_get (D := D) (ci := 8) (v := .int f0_equations) (C := RX8) (T := TX8) (N := 43) hx hb hts in_X8_equation_X8 hown hK hP 0 rfl rfl 2 (by decide) lk_0 (fun _ h9 => h9) rfl dX8_equation_68 ?_
          refine lv_iconst (v := (1 : Int32)) hx hb dX8_equation_71 (by decide) ?_
          refine lv_iadd hx hb dX8_equation_72 ?_
          refine va_put (D := D) (ci := 8) (v := .int (f0_equations + (1 : Int32))) (ty := .int) (C := RX8) (T := TX8) (N := 43) hx hb hts in_X8_equation_X8 tyX8 tyX8_ok nmX8 hown hK hP hD hS 0 rfl rfl 2 (by decide) lk_0 (fun _ h9 => h9) rfl (by decide +kernel) rfl rfl (Nat.le_of_ble_eq_true rfl) dX8_equation_73 (fun H locs hP hD hS => ?_)
          have hP : va_P D vwCl [(q0, .inr (8, [.int u_45.2, .int f0_n, .int (f0_equations + (1 : Int32)), .ref q0_eSet, .ref q0_eRight, v0_clauses, v0_cYes, v0_cNo, v0_levels, v0_levelEquations, v0_levelClauses, v0_tape, v0_tapeSize, v0_faultIs, v0_faultAt, v0_at, v0_newEquations, v0_newClauses, v0_newSet, v0_newRight, v0_newYes, v0_newNo, v0_lineYes, v0_lineNo, v0_rowCount, v0_rSet, v0_rRight, v0_isImpossible, v0_sumSet, v0_sumOf, v0_sumRight, v0_empty, v0_empties, v0_taken, v0_ones, v0_waitTaken, v0_waitOnes, v0_nodeCount, v0_lastModel, v0_modelCount, v0_modelIs, v0_gSet, v0_gateCount])), (q0_eSet, .inl (cL, n0_eSet, .inr (.inl (vp_updL h0_eSet f0_equations.toNatClampNeg x1)))), (q0_eRight, .inl (cI, n0_eRight, .inl (upd h0_eRight f0_equations.toNatClampNeg x3)))] H := hP
          have hD : va_D A [(q0, .inr (8, [.int u_45.2, .int f0_n, .int (f0_equations + (1 : Int32)), .ref q0_eSet, .ref q0_eRight, v0_clauses, v0_cYes, v0_cNo, v0_levels, v0_levelEquations, v0_levelClauses, v0_tape, v0_tapeSize, v0_faultIs, v0_faultAt, v0_at, v0_newEquations, v0_newClauses, v0_newSet, v0_newRight, v0_newYes, v0_newNo, v0_lineYes, v0_lineNo, v0_rowCount, v0_rSet, v0_rRight, v0_isImpossible, v0_sumSet, v0_sumOf, v0_sumRight, v0_empty, v0_empties, v0_taken, v0_ones, v0_waitTaken, v0_waitOnes, v0_nodeCount, v0_lastModel, v0_modelCount, v0_modelIs, v0_gSet, v0_gateCount])), (q0_eSet, .inl (cL, n0_eSet, .inr (.inl (vp_updL h0_eSet f0_equations.toNatClampNeg x1)))), (q0_eRight, .inl (cI, n0_eRight, .inl (upd h0_eRight f0_equations.toNatClampNeg x3)))] := hD
          refine lv_aload_n hx hb dX8_equation_76 rfl (lv_at hl 0 rfl) ?_
          refine va_get (D := D) (ci := 8) (v := .int (f0_equations + (1 : Int32))) (C := RX8) (T := TX8) (N := 43) hx hb hts in_X8_equation_X8 hown hK hP 0 rfl rfl 2 (by decide) lk_0 (fun _ h9 => h9) rfl dX8_equation_77 ?_
          refine lv_iconst (v := (1 : Int32)) hx hb dX8_equation_80 (by decide) ?_
          refine lv_isub hx hb dX8_equation_81 ?_
          have h := Option.some.inj h
          subst h
          subst hQ
          exact W.iret (v := (f0_equations + (1 : Int32)) - (1 : Int32)) hx hb hr (fun t ht hW => ⟨⟨(f0_equations + (1 : Int32)) - (1 : Int32), (), rfl, ⟨rfl, trivial⟩, by rw [ht]; exact hP, hD⟩, hS.F ht⟩) hS.2.2 dX8_equation_82
        · have k_48 : ¬ (u_45.1 = true) := (kx_z c_47)
          have h := co_f k_48 h
          refine lv_iconst (v := (0 : Int32)) hx hb dX8_equation_44 (by decide) ?_
          have h := Option.some.inj h
          subst h
          subst hQ
          exact W.iret (v := (0 : Int32)) hx hb hr (fun t ht hW => ⟨⟨(0 : Int32), (), rfl, ⟨rfl, trivial⟩, by rw [ht]; exact hP, hD⟩, hS.F ht⟩) hS.2.2 dX8_equation_45
