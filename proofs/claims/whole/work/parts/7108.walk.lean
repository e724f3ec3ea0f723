theorem in_X8_take_X8 : ∀ w ∈ wsX80, w ∈ wsX8_take := by decide +kernel
theorem lk_0_X8_take : Cond.fieldLink RX8 209 "ParityClausesModel" "taken" "J" ∈ wsX8_take := by decide +kernel
theorem lk_1_X8_take : Cond.fieldLink RX8 212 "ParityClausesModel" "ones" "J" ∈ wsX8_take := by decide +kernel
abbrev rm_X8_take : Room := { frames := 0, cells := 0, slots := 0, locals := 0 }
set_option maxHeartbeats 4000000 in
set_option maxRecDepth 100000 in
theorem cm_X8_take (l : Launch) (D : va_G) (cI cL : ClassId) (q0 : Nat) (f0_taken : Int64) (f0_ones : Int64) (v0_thrown v0_n v0_equations v0_eSet v0_eRight v0_clauses v0_cYes v0_cNo v0_levels v0_levelEquations v0_levelClauses v0_tape v0_tapeSize v0_faultIs v0_faultAt v0_at v0_newEquations v0_newClauses v0_newSet v0_newRight v0_newYes v0_newNo v0_lineYes v0_lineNo v0_rowCount v0_rSet v0_rRight v0_isImpossible v0_sumSet v0_sumOf v0_sumRight v0_empty v0_empties v0_waitTaken v0_waitOnes v0_nodeCount v0_lastModel v0_modelCount v0_modelIs v0_gSet v0_gateCount : Value) (x1 : Int64) (x3 : Bool) (r0 : Bool × Int64 × Int64) (hr0 : D_X8_take f0_taken f0_ones x1 x3 = some r0) (sz : Nat) : Met l yX8_take wsX8_take rm_X8_take (PcW D cI cL [.ref q0, .long x1, .int (bI x3)] [(q0, .inr (8, [v0_thrown, v0_n, v0_equations, v0_eSet, v0_eRight, v0_clauses, v0_cYes, v0_cNo, v0_levels, v0_levelEquations, v0_levelClauses, v0_tape, v0_tapeSize, v0_faultIs, v0_faultAt, v0_at, v0_newEquations, v0_newClauses, v0_newSet, v0_newRight, v0_newYes, v0_newNo, v0_lineYes, v0_lineNo, v0_rowCount, v0_rSet, v0_rRight, v0_isImpossible, v0_sumSet, v0_sumOf, v0_sumRight, v0_empty, v0_empties, .long f0_taken, .long f0_ones, v0_waitTaken, v0_waitOnes, v0_nodeCount, v0_lastModel, v0_modelCount, v0_modelIs, v0_gSet, v0_gateCount]))] sz) (QiW D [(q0, .inr (8, [v0_thrown, v0_n, v0_equations, v0_eSet, v0_eRight, v0_clauses, v0_cYes, v0_cNo, v0_levels, v0_levelEquations, v0_levelClauses, v0_tape, v0_tapeSize, v0_faultIs, v0_faultAt, v0_at, v0_newEquations, v0_newClauses, v0_newSet, v0_newRight, v0_newYes, v0_newNo, v0_lineYes, v0_lineNo, v0_rowCount, v0_rSet, v0_rRight, v0_isImpossible, v0_sumSet, v0_sumOf, v0_sumRight, v0_empty, v0_empties, .long f0_taken, .long f0_ones, v0_waitTaken, v0_waitOnes, v0_nodeCount, v0_lastModel, v0_modelCount, v0_modelIs, v0_gSet, v0_gateCount]))] (bI r0.1) (fun _ : Unit => [(q0, .inr (8, [v0_thrown, v0_n, v0_equations, v0_eSet, v0_eRight, v0_clauses, v0_cYes, v0_cNo, v0_levels, v0_levelEquations, v0_levelClauses, v0_tape, v0_tapeSize, v0_faultIs, v0_faultAt, v0_at, v0_newEquations, v0_newClauses, v0_newSet, v0_newRight, v0_newYes, v0_newNo, v0_lineYes, v0_lineNo, v0_rowCount, v0_rSet, v0_rRight, v0_isImpossible, v0_sumSet, v0_sumOf, v0_sumRight, v0_empty, v0_empties, .long r0.2.1, .long r0.2.2, v0_waitTaken, v0_waitOnes, v0_nodeCount, v0_lastModel, v0_modelCount, v0_modelIs, v0_gSet, v0_gateCount]))]) tU sz) 0 0 (va_A [(q0, .inr (8, [v0_thrown, v0_n, v0_equations, v0_eSet, v0_eRight, v0_clauses, v0_cYes, v0_cNo, v0_levels, v0_levelEquations, v0_levelClauses, v0_tape, v0_tapeSize, v0_faultIs, v0_faultAt, v0_at, v0_newEquations, v0_newClauses, v0_newSet, v0_newRight, v0_newYes, v0_newNo, v0_lineYes, v0_lineNo, v0_rowCount, v0_rSet, v0_rRight, v0_isImpossible, v0_sumSet, v0_sumOf, v0_sumRight, v0_empty, v0_empties, .long f0_taken, .long f0_ones, v0_waitTaken, v0_waitOnes, v0_nodeCount, v0_lastModel, v0_modelCount, v0_modelIs, v0_gSet, v0_gateCount]))] sz) := by
  refine Met.ofW (cc := cX8_take) (maxL := 4) (ret := (some .boolean)) (by decide) rfl ?_
  intro p e s m args below meth c s₁ B hml hv
  obtain ⟨hargs, hsz, hP, hEV, hD0⟩ := hv
  have hx := B.exec
  have hb := B.bytes
  have hr := B.returns
  have hts := atoms_spec (ws := wsX8_take) B.pre
  have hown : s.vm.findClass RX8 = some m.cls := findClass_of_methodNamed B.named
  have hlocks := B.notSynchronized
  have hK := hEV.K
  have lk_0 := hts _ lk_0_X8_take
  have lk_1 := hts _ lk_1_X8_take
  subst hsz
  unfold QiW PoW
  have hD := hD0.self (sz := s.heap.size)
  generalize hAe : va_A [(q0, .inr (8, [v0_thrown, v0_n, v0_equations, v0_eSet, v0_eRight, v0_clauses, v0_cYes, v0_cNo, v0_levels, v0_levelEquations, v0_levelClauses, v0_tape, v0_tapeSize, v0_faultIs, v0_faultAt, v0_at, v0_newEquations, v0_newClauses, v0_newSet, v0_newRight, v0_newYes, v0_newNo, v0_lineYes, v0_lineNo, v0_rowCount, v0_rSet, v0_rRight, v0_isImpossible, v0_sumSet, v0_sumOf, v0_sumRight, v0_empty, v0_empties, .long f0_taken, .long f0_ones, v0_waitTaken, v0_waitOnes, v0_nodeCount, v0_lastModel, v0_modelCount, v0_modelIs, v0_gSet, v0_gateCount]))] s.heap.size = A at hD ⊢
  have hA : ∀ q : Nat, s.heap.size ≤ q → A q := fun q h => by rw [← hAe]; exact Or.inr h
  have hent : entryFrame m args 4 = entryFrame m ([.ref q0, .long x1, .int (bI x3)] : List Value).toArray 4 := by rw [hargs]
  rw [hent]
  refine kx_Q (fun Q hQ => ?_)
  refine kx_H (fun H hH => ?_)
  have hP : va_P D vwCl [(q0, .inr (8, [v0_thrown, v0_n, v0_equations, v0_eSet, v0_eRight, v0_clauses, v0_cYes, v0_cNo, v0_levels, v0_levelEquations, v0_levelClauses, v0_tape, v0_tapeSize, v0_faultIs, v0_faultAt, v0_at, v0_newEquations, v0_newClauses, v0_newSet, v0_newRight, v0_newYes, v0_newNo, v0_lineYes, v0_lineNo, v0_rowCount, v0_rSet, v0_rRight, v0_isImpossible, v0_sumSet, v0_sumOf, v0_sumRight, v0_empty, v0_empties, .long f0_taken, .long f0_ones, v0_waitTaken, v0_waitOnes, v0_nodeCount, v0_lastModel, v0_modelCount, v0_modelIs, v0_gSet, v0_gateCount]))] H := by rw [hH]; exact hP
  have hS : va_S A s.heap H [] := by rw [hH]; exact va_S.rf
  have hl := lv_entry ([.ref q0, .long x1, .int (bI x3)]) (n := 4) (Nat.le_of_ble_eq_true rfl)
  rw [lg_entry_eq]
  generalize (lg_sl ([.ref q0, .long x1, .int (bI x3)]) ++ List.replicate (4 - (lg_sl ([.ref q0, .long x1, .int (bI x3)])).length) Slot.unset).toArray = ls at hl ⊢
  have hl : lv_has ls 4 [(0, .ref q0), (1, .long x1), (3, .int (bI x3))] := hl
  have h := hr0
  unfold D_X8_take at h
  refine lv_aload_n hx hb dX8_take_0 rfl (lv_at hl 0 rfl) ?_
  refine lv_dup hx hb dX8_take_1 rfl ?_
  refine va_get (D := D) (ci := 8) (v := .long f0_taken) (C := RX8) (T := TX8) (N := 43) hx hb hts in_X8_take_X8 hown hK hP 0 rfl rfl 33 (by decide) lk_0 (fun _ h9 => h9) rfl dX8_take_2 ?_
  refine lv_lload_n hx hb dX8_take_5 rfl (lv_at hl 1 rfl) ?_
  refine lv_lor hx hb dX8_take_6 ?_
  refine va_put (D := D) (ci := 8) (v := .long (f0_taken ||| x1)) (ty := .long) (C := RX8) (T := TX8) (N := 43) hx hb hts in_X8_take_X8 tyX8 tyX8_ok nmX8 hown hK hP hD hS 0 rfl rfl 33 (by decide) lk_0 (fun _ h9 => h9) rfl (by decide +kernel) rfl rfl (Nat.le_of_ble_eq_true rfl) dX8_take_7 (fun H locs hP hD hS => ?_)
  have hP : va_P D vwCl [(q0, .inr (8, [v0_thrown, v0_n, v0_equations, v0_eSet, v0_eRight, v0_clauses, v0_cYes, v0_cNo, v0_levels, v0_levelEquations, v0_levelClauses, v0_tape, v0_tapeSize, v0_faultIs, v0_faultAt, v0_at, v0_newEquations, v0_newClauses, v0_newSet, v0_newRight, v0_newYes, v0_newNo, v0_lineYes, v0_lineNo, v0_rowCount, v0_rSet, v0_rRight, v0_isImpossible, v0_sumSet, v0_sumOf, v0_sumRight, v0_empty, v0_empties, .long (f0_taken ||| x1), .long f0_ones, v0_waitTaken, v0_waitOnes, v0_nodeCount, v0_lastModel, v0_modelCount, v0_modelIs, v0_gSet, v0_gateCount]))] H := hP
  have hD : va_D A [(q0, .inr (8, [v0_thrown, v0_n, v0_equations, v0_eSet, v0_eRight, v0_clauses, v0_cYes, v0_cNo, v0_levels, v0_levelEquations, v0_levelClauses, v0_tape, v0_tapeSize, v0_faultIs, v0_faultAt, v0_at, v0_newEquations, v0_newClauses, v0_newSet, v0_newRight, v0_newYes, v0_newNo, v0_lineYes, v0_lineNo, v0_rowCount, v0_rSet, v0_rRight, v0_isImpossible, v0_sumSet, v0_sumOf, v0_sumRight, v0_empty, v0_empties, .long (f0_taken ||| x1), .long f0_ones, v0_waitTaken, v0_waitOnes, v0_nodeCount, v0_lastModel, v0_modelCount, v0_modelIs, v0_gSet, v0_gateCount]))] := hD
  refine lv_aload_n hx hb dX8_take_10 rfl (lv_at hl 0 rfl) ?_
  refine lv_dup hx hb dX8_take_11 rfl ?_
  refine va_get (D := D) (ci := 8) (v := .long f0_ones) (C := RX8) (T := TX8) (N := 43) hx hb hts in_X8_take_X8 hown hK hP 0 rfl rfl 34 (by decide) lk_1 (fun _ h9 => h9) rfl dX8_take_12 ?_
  refine lv_iload_n hx hb dX8_take_15 rfl (lv_at hl 2 rfl) ?_
  refine lv_if_eq (tgt := 23) hx hb dX8_take_16 (by decide) (fun c_1 => ?_) (fun c_1 => ?_)
  · have k_2 : ¬ (x3 = true) := (kx_z c_1)
    have h := co_f k_2 h
    refine lv_lconst (v := (0 : Int64)) hx hb dX8_take_23 (by decide) ?_
    refine lv_lor hx hb dX8_take_24 ?_
    refine va_put (D := D) (ci := 8) (v := .long (f0_ones ||| (0 : Int64))) (ty := .long) (C := RX8) (T := TX8) (N := 43) hx hb hts in_X8_take_X8 tyX8 tyX8_ok nmX8 hown hK hP hD hS 0 rfl rfl 34 (by decide) lk_1 (fun _ h9 => h9) rfl (by decide +kernel) rfl rfl (Nat.le_of_ble_eq_true rfl) dX8_take_25 (fun H locs hP hD hS => ?_)
    have hP : va_P D vwCl [(q0, .inr (8, [v0_thrown, v0_n, v0_equations, v0_eSet, v0_eRight, v0_clauses, v0_cYes, v0_cNo, v0_levels, v0_levelEquations, v0_levelClauses, v0_tape, v0_tapeSize, v0_faultIs, v0_faultAt, v0_at, v0_newEquations, v0_newClauses, v0_newSet, v0_newRight, v0_newYes, v0_newNo, v0_lineYes, v0_lineNo, v0_rowCount, v0_rSet, v0_rRight, v0_isImpossible, v0_sumSet, v0_sumOf, v0_sumRight, v0_empty, v0_empties, .long (f0_taken ||| x1), .long (f0_ones ||| (0 : Int64)), v0_waitTaken, v0_waitOnes, v0_nodeCount, v0_lastModel, v0_modelCount, v0_modelIs, v0_gSet, v0_gateCount]))] H := hP
    have hD : va_D A [(q0, .inr (8, [v0_thrown, v0_n, v0_equations, v0_eSet, v0_eRight, v0_clauses, v0_cYes, v0_cNo, v0_levels, v0_levelEquations, v0_levelClauses, v0_tape, v0_tapeSize, v0_faultIs, v0_faultAt, v0_at, v0_newEquations, v0_newClauses, v0_newSet, v0_newRight, v0_newYes, v0_newNo, v0_lineYes, v0_lineNo, v0_rowCount, v0_rSet, v0_rRight, v0_isImpossible, v0_sumSet, v0_sumOf, v0_sumRight, v0_empty, v0_empties, .long (f0_taken ||| x1), .long (f0_ones ||| (0 : Int64)), v0_waitTaken, v0_waitOnes, v0_nodeCount, v0_lastModel, v0_modelCount, v0_modelIs, v0_gSet, v0_gateCount]))] := hD
    refine lv_iconst (v := (1 : Int32)) hx hb dX8_take_28 (by decide) ?_
    have h := Option.some.inj h
    subst h
    subst hQ
    exact W.zret (v := bI true) hx hb hr (bI_n true) (fun t ht hW => ⟨⟨bI true, (), rfl, ⟨rfl, trivial⟩, by rw [ht]; exact hP, hD⟩, hS.F ht⟩) hS.2.2 dX8_take_29
  · have k_2 : x3 = true := (kx_nz c_1)
    have h := co_t k_2 h
    refine lv_lload_n hx hb dX8_take_19 rfl (lv_at hl 1 rfl) ?_
    refine lv_goto (tgt := 24) hx hb dX8_take_20 (by decide) ?_
    refine lv_lor hx hb dX8_take_24 ?_
    refine va_put (D := D) (ci := 8) (v := .long (f0_ones ||| x1)) (ty := .long) (C := RX8) (T := TX8) (N := 43) hx hb hts in_X8_take_X8 tyX8 tyX8_ok nmX8 hown hK hP hD hS 0 rfl rfl 34 (by decide) lk_1 (fun _ h9 => h9) rfl (by decide +kernel) rfl rfl (Nat.le_of_ble_eq_true rfl) dX8_take_25 (fun H locs hP hD hS => ?_)
    have hP : va_P D vwCl [(q0, .inr (8, [v0_thrown, v0_n, v0_equations, v0_eSet, v0_eRight, v0_clauses, v0_cYes, v0_cNo, v0_levels, v0_levelEquations, v0_levelClauses, v0_tape, v0_tapeSize, v0_faultIs, v0_faultAt, v0_at, v0_newEquations, v0_newClauses, v0_newSet, v0_newRight, v0_newYes, v0_newNo, v0_lineYes, v0_lineNo, v0_rowCount, v0_rSet, v0_rRight, v0_isImpossible, v0_sumSet, v0_sumOf, v0_sumRight, v0_empty, v0_empties, .long (f0_taken ||| x1), .long (f0_ones ||| x1), v0_waitTaken, v0_waitOnes, v0_nodeCount, v0_lastModel, v0_modelCount, v0_modelIs, v0_gSet, v0_gateCount]))] H := hP
    have hD : va_D A [(q0, .inr (8, [v0_thrown, v0_n, v0_equations, v0_eSet, v0_eRight, v0_clauses, v0_cYes, v0_cNo, v0_levels, v0_levelEquations, v0_levelClauses, v0_tape, v0_tapeSize, v0_faultIs, v0_faultAt, v0_at, v0_newEquations, v0_newClauses, v0_newSet, v0_newRight, v0_newYes, v0_newNo, v0_lineYes, v0_lineNo, v0_rowCount, v0_rSet, v0_rRight, v0_isImpossible, v0_sumSet, v0_sumOf, v0_sumRight, v0_empty, v0_empties, .long (f0_taken ||| x1), .long (f0_ones ||| x1), v0_waitTaken, v0_waitOnes, v0_nodeCount, v0_lastModel, v0_modelCount, v0_modelIs, v0_gSet, v0_gateCount]))] := hD
    refine lv_iconst (v := (1 : Int32)) hx hb dX8_take_28 (by decide) ?_
    have h := Option.some.inj h
    subst h
    subst hQ
    exact W.zret (v := bI true) hx hb hr (bI_n true) (fun t ht hW => ⟨⟨bI true, (), rfl, ⟨rfl, trivial⟩, by rw [ht]; exact hP, hD⟩, hS.F ht⟩) hS.2.2 dX8_take_29
theorem in_X8_clausesFollow_X8 : ∀ w ∈ wsX80, w ∈ wsX8_clausesFollow := by decide +kernel
theorem lk_0_X8_clausesFollow : Cond.fieldLink RX8 105 "ParityClausesModel" "clauses" "I" ∈ wsX8_clausesFollow := by decide +kernel
theorem lk_1_X8_clausesFollow : Cond.fieldLink RX8 17 "ParityClausesModel" "cYes" "[J" ∈ wsX8_clausesFollow := by decide +kernel
theorem lk_2_X8_clausesFollow : Cond.fieldLink RX8 212 "ParityClausesModel" "ones" "J" ∈ wsX8_clausesFollow := by decide +kernel
theorem lk_3_X8_clausesFollow : Cond.fieldLink RX8 20 "ParityClausesModel" "cNo" "[J" ∈ wsX8_clausesFollow := by decide +kernel
theorem lk_4_X8_clausesFollow : Cond.fieldLink RX8 209 "ParityClausesModel" "taken" "J" ∈ wsX8_clausesFollow := by decide +kernel
theorem lk_5_X8_clausesFollow : Cond.constantLong RX8 68 (-1) ∈ wsX8_clausesFollow := by decide +kernel
abbrev rm_X8_clausesFollow : Room := { frames := 1, cells := 0, slots := 0, locals := 23 }
set_option maxHeartbeats 4000000 in
set_option maxRecDepth 100000 in
theorem cm_X8_clausesFollow (l : Launch) (D : va_G) (cI cL : ClassId) (q0 q0_cYes q0_cNo : Nat) (n0_cYes n0_cNo : Nat) (f0_clauses : Int32) (f0_taken : Int64) (f0_ones : Int64) (h0_cYes : Nat → Int64) (h0_cNo : Nat → Int64) (v0_thrown v0_n v0_equations v0_eSet v0_eRight v0_levels v0_levelEquations v0_levelClauses v0_tape v0_tapeSize v0_faultIs v0_faultAt v0_at v0_newEquations v0_newClauses v0_newSet v0_newRight v0_newYes v0_newNo v0_lineYes v0_lineNo v0_rowCount v0_rSet v0_rRight v0_isImpossible v0_sumSet v0_sumOf v0_sumRight v0_empty v0_empties v0_waitTaken v0_waitOnes v0_nodeCount v0_lastModel v0_modelCount v0_modelIs v0_gSet v0_gateCount : Value) (r0 : Bool × Int64 × Int64) (hr0 : D_X8_clausesFollow f0_clauses f0_taken f0_ones n0_cYes h0_cYes n0_cNo h0_cNo = some r0) (sz : Nat) : Met l yX8_clausesFollow wsX8_clausesFollow rm_X8_clausesFollow (PcW D cI cL [.ref q0] [(q0, .inr (8, [v0_thrown, v0_n, v0_equations, v0_eSet, v0_eRight, .int f0_clauses, .ref q0_cYes, .ref q0_cNo, v0_levels, v0_levelEquations, v0_levelClauses, v0_tape, v0_tapeSize, v0_faultIs, v0_faultAt, v0_at, v0_newEquations, v0_newClauses, v0_newSet, v0_newRight, v0_newYes, v0_newNo, v0_lineYes, v0_lineNo, v0_rowCount, v0_rSet, v0_rRight, v0_isImpossible, v0_sumSet, v0_sumOf, v0_sumRight, v0_empty, v0_empties, .long f0_taken, .long f0_ones, v0_waitTaken, v0_waitOnes, v0_nodeCount, v0_lastModel, v0_modelCount, v0_modelIs, v0_gSet, v0_gateCount])), (q0_cYes, .inl (cL, n0_cYes, .inr (.inl h0_cYes))), (q0_cNo, .inl (cL, n0_cNo, .inr (.inl h0_cNo)))] sz) (QiW D [(q0, .inr (8, [v0_thrown, v0_n, v0_equations, v0_eSet, v0_eRight, .int f0_clauses, .ref q0_cYes, .ref q0_cNo, v0_levels, v0_levelEquations, v0_levelClauses, v0_tape, v0_tapeSize, v0_faultIs, v0_faultAt, v0_at, v0_newEquations, v0_newClauses, v0_newSet, v0_newRight, v0_newYes, v0_newNo, v0_lineYes, v0_lineNo, v0_rowCount, v0_rSet, v0_rRight, v0_isImpossible, v0_sumSet, v0_sumOf, v0_sumRight, v0_empty, v0_empties, .long f0_taken, .long f0_ones, v0_waitTaken, v0_waitOnes, v0_nodeCount, v0_lastModel, v0_modelCount, v0_modelIs, v0_gSet, v0_gateCount])), (q0_cYes, .inl (cL, n0_cYes, .inr (.inl h0_cYes))), (q0_cNo, .inl (cL, n0_cNo, .inr (.inl h0_cNo)))] (bI r0.1) (fun _ : Unit => [(q0, .inr (8, [v0_thrown, v0_n, v0_equations, v0_eSet, v0_eRight, .int f0_clauses, .ref q0_cYes, .ref q0_cNo, v0_levels, v0_levelEquations, v0_levelClauses, v0_tape, v0_tapeSize, v0_faultIs, v0_faultAt, v0_at, v0_newEquations, v0_newClauses, v0_newSet, v0_newRight, v0_newYes, v0_newNo, v0_lineYes, v0_lineNo, v0_rowCount, v0_rSet, v0_rRight, v0_isImpossible, v0_sumSet, v0_sumOf, v0_sumRight, v0_empty, v0_empties, .long r0.2.1, .long r0.2.2, v0_waitTaken, v0_waitOnes, v0_nodeCount, v0_lastModel, v0_modelCount, v0_modelIs, v0_gSet, v0_gateCount])), (q0_cYes, .inl (cL, n0_cYes, .inr (.inl h0_cYes))), (q0_cNo, .inl (cL, n0_cNo, .inr (.inl h0_cNo)))]) tU sz) 0 0 (va_A [(q0, .inr (8, [v0_thrown, v0_n, v0_equations, v0_eSet, v0_eRight, .int f0_clauses, .ref q0_cYes, .ref q0_cNo, v0_levels, v0_levelEquations, v0_levelClauses, v0_tape, v0_tapeSize, v0_faultIs, v0_faultAt, v0_at, v0_newEquations, v0_newClauses, v0_newSet, v0_newRight, v0_newYes, v0_newNo, v0_lineYes, v0_lineNo, v0_rowCount, v0_rSet, v0_rRight, v0_isImpossible, v0_sumSet, v0_sumOf, v0_sumRight, v0_empty, v0_empties, .long f0_taken, .long f0_ones, v0_waitTaken, v0_waitOnes, v0_nodeCount, v0_lastModel, v0_modelCount, v0_modelIs, v0_gSet, v0_gateCount])), (q0_cYes, .inl (cL, n0_cYes, .inr (.inl h0_cYes))), (q0_cNo, .inl (cL, n0_cNo, .inr (.inl h0_cNo)))] sz) := by
  refine Met.ofW (cc := cX8_clausesFollow) (maxL := 5) (ret := (some .boolean)) (by decide) rfl ?_
  intro p e s m args below meth c s₁ B hml hv
  obtain ⟨hargs, hsz, hP, hEV, hD0⟩ := hv
  have hx := B.exec
  have hb := B.bytes
  have hr := B.returns
  have hts := atoms_spec (ws := wsX8_clausesFollow) B.pre
  have hown : s.vm.findClass RX8 = some m.cls := findClass_of_methodNamed B.named
  have hlocks := B.notSynchronized
  have hK := hEV.K
  have lk_0 := hts _ lk_0_X8_clausesFollow
  have lk_1 := hts _ lk_1_X8_clausesFollow
  have lk_2 := hts _ lk_2_X8_clausesFollow
  have lk_3 := hts _ lk_3_X8_clausesFollow
  have lk_4 := hts _ lk_4_X8_clausesFollow
  have lk_5 := hts _ lk_5_X8_clausesFollow
  subst hsz
  unfold QiW PoW
  have hD := hD0.self (sz := s.heap.size)
  generalize hAe : va_A [(q0, .inr (8, [v0_thrown, v0_n, v0_equations, v0_eSet, v0_eRight, .int f0_clauses, .ref q0_cYes, .ref q0_cNo, v0_levels, v0_levelEquations, v0_levelClauses, v0_tape, v0_tapeSize, v0_faultIs, v0_faultAt, v0_at, v0_newEquations, v0_newClauses, v0_newSet, v0_newRight, v0_newYes, v0_newNo, v0_lineYes, v0_lineNo, v0_rowCount, v0_rSet, v0_rRight, v0_isImpossible, v0_sumSet, v0_sumOf, v0_sumRight, v0_empty, v0_empties, .long f0_taken, .long f0_ones, v0_waitTaken, v0_waitOnes, v0_nodeCount, v0_lastModel, v0_modelCount, v0_modelIs, v0_gSet, v0_gateCount])), (q0_cYes, .inl (cL, n0_cYes, .inr (.inl h0_cYes))), (q0_cNo, .inl (cL, n0_cNo, .inr (.inl h0_cNo)))] s.heap.size = A at hD ⊢
  have hA : ∀ q : Nat, s.heap.size ≤ q → A q := fun q h => by rw [← hAe]; exact Or.inr h
  have hent : entryFrame m args 5 = entryFrame m ([.ref q0] : List Value).toArray 5 := by rw [hargs]
  rw [hent]
  refine kx_Q (fun Q hQ => ?_)
  refine kx_H (fun H hH => ?_)
  have hP : va_P D vwCl [(q0, .inr (8, [v0_thrown, v0_n, v0_equations, v0_eSet, v0_eRight, .int f0_clauses, .ref q0_cYes, .ref q0_cNo, v0_levels, v0_levelEquations, v0_levelClauses, v0_tape, v0_tapeSize, v0_faultIs, v0_faultAt, v0_at, v0_newEquations, v0_newClauses, v0_newSet, v0_newRight, v0_newYes, v0_newNo, v0_lineYes, v0_lineNo, v0_rowCount, v0_rSet, v0_rRight, v0_isImpossible, v0_sumSet, v0_sumOf, v0_sumRight, v0_empty, v0_empties, .long f0_taken, .long f0_ones, v0_waitTaken, v0_waitOnes, v0_nodeCount, v0_lastModel, v0_modelCount, v0_modelIs, v0_gSet, v0_gateCount])), (q0_cYes, .inl (cL, n0_cYes, .inr (.inl h0_cYes))), (q0_cNo, .inl (cL, n0_cNo, .inr (.inl h0_cNo)))] H := by rw [hH]; exact hP
  have hS : va_S A s.heap H [] := by rw [hH]; exact va_S.rf
  have hl := lv_entry ([.ref q0]) (n := 5) (Nat.le_of_ble_eq_true rfl)
  rw [lg_entry_eq]
  generalize (lg_sl ([.ref q0]) ++ List.replicate (5 - (lg_sl ([.ref q0])).length) Slot.unset).toArray = ls at hl ⊢
  have hl : lv_has ls 5 [(0, .ref q0)] := hl
  have hloop : ∀ n9 : Nat, (∀ (x1 : Int32) (f0_taken : Int64) (f0_ones : Int64), iter (st_X8_clausesFollow f0_clauses n0_cYes h0_cYes n0_cNo h0_cNo) n9 (x1, f0_taken, f0_ones) = some r0 → ∀ (H : Heap) (locs : List Loc) (ls : Array Slot), va_P D vwCl [(q0, .inr (8, [v0_thrown, v0_n, v0_equations, v0_eSet, v0_eRight, .int f0_clauses, .ref q0_cYes, .ref q0_cNo, v0_levels, v0_levelEquations, v0_levelClauses, v0_tape, v0_tapeSize, v0_faultIs, v0_faultAt, v0_at, v0_newEquations, v0_newClauses, v0_newSet, v0_newRight, v0_newYes, v0_newNo, v0_lineYes, v0_lineNo, v0_rowCount, v0_rSet, v0_rRight, v0_isImpossible, v0_sumSet, v0_sumOf, v0_sumRight, v0_empty, v0_empties, .long f0_taken, .long f0_ones, v0_waitTaken, v0_waitOnes, v0_nodeCount, v0_lastModel, v0_modelCount, v0_modelIs, v0_gSet, v0_gateCount])), (q0_cYes, .inl (cL, n0_cYes, .inr (.inl h0_cYes))), (q0_cNo, .inl (cL, n0_cNo, .inr (.inl h0_cNo)))] H → va_D A [(q0, .inr (8, [v0_thrown, v0_n, v0_equations, v0_eSet, v0_eRight, .int f0_clauses, .ref q0_cYes, .ref q0_cNo, v0_levels, v0_levelEquations, v0_levelClauses, v0_tape, v0_tapeSize, v0_faultIs, v0_faultAt, v0_at, v0_newEquations, v0_newClauses, v0_newSet, v0_newRight, v0_newYes, v0_newNo, v0_lineYes, v0_lineNo, v0_rowCount, v0_rSet, v0_rRight, v0_isImpossible, v0_sumSet, v0_sumOf, v0_sumRight, v0_empty, v0_empties, .long f0_taken, .long f0_ones, v0_waitTaken, v0_waitOnes, v0_nodeCount, v0_lastModel, v0_modelCount, v0_modelIs, v0_gSet, v0_gateCount])), (q0_cYes, .inl (cL, n0_cYes, .inr (.inl h0_cYes))), (q0_cNo, .inl (cL, n0_cNo, .inr (.inl h0_cNo)))] → va_S A s.heap H locs → lv_has ls 5 [(0, .ref q0), (1, .int x1)] → W p l e (headSpec wsX8_clausesFollow rm_X8_clausesFollow).room s m args below meth c H locs 0 0 Q (F0 m 2 ls [])) := by
    intro n9
    induction n9 with
    | zero => exact (fun _ _ _ h => nomatch h)
    | succ n9 ih =>
      intro x1 f0_taken f0_ones h H locs ls hP hD hS hl
      have h : run1 (iter (st_X8_clausesFollow f0_clauses n0_cYes h0_cYes n0_cNo h0_cNo) n9) (b_X8_clausesFollow_2 f0_clauses n0_cYes h0_cYes n0_cNo h0_cNo x1 f0_taken f0_ones) = some r0 := h
      unfold b_X8_clausesFollow_2 at h
      refine lv_iload_n hx hb dX8_clausesFollow_2 rfl (lv_at hl 1 rfl) ?_
      refine lv_aload_n hx hb dX8_clausesFollow_3 rfl (lv_at hl 0 rfl) ?_
      refine va_get (D := D) (ci := 8) (v := .int f0_clauses) (C := RX8) (T := TX8) (N := 43) hx hb hts in_X8_clausesFollow_X8 hown hK hP 0 rfl rfl 5 (by decide) lk_0 (fun _ h9 => h9) rfl dX8_clausesFollow_4 ?_
      refine lv_icmp_ge (tgt := 135) hx hb dX8_clausesFollow_7 (by decide) (fun c_1 => ?_) (fun c_1 => ?_)
      · have k_2 : f0_clauses ≤ x1 := c_1
        have h := cw_t k_2 h
        refine lv_iconst (v := (1 : Int32)) hx hb dX8_clausesFollow_135 (by decide) ?_
        have h := Option.some.inj h
        subst h
        subst hQ
        exact W.zret (v := bI true) hx hb hr (bI_n true) (fun t ht hW => ⟨⟨bI true, (), rfl, ⟨rfl, trivial⟩, by rw [ht]; exact hP, hD⟩, hS.F ht⟩) hS.2.2 dX8_clausesFollow_136
      · have k_2 : ¬ (f0_clauses ≤ x1) := c_1
        have h := cw_f k_2 h
        refine lv_aload_n hx hb dX8_clausesFollow_10 rfl (lv_at hl 0 rfl) ?_
        refine va_get (D := D) (ci := 8) (v := .ref q0_cYes) (C := RX8) (T := TX8) (N := 43) hx hb hts in_X8_clausesFollow_X8 hown hK hP 0 rfl rfl 6 (by decide) lk_1 (fun _ h9 => h9) rfl dX8_clausesFollow_11 ?_
        refine lv_iload_n hx hb dX8_clausesFollow_14 rfl (lv_at hl 1 rfl) ?_
        obtain ⟨b_3, h⟩ := cw_i h
        refine va_lald hx hb hK hP 1 1 rfl rfl b_3 dX8_clausesFollow_15 ?_
        refine lv_aload_n hx hb dX8_clausesFollow_16 rfl (lv_at hl 0 rfl) ?_
        refine va_get (D := D) (ci := 8) (v := .long f0_ones) (C := RX8) (T := TX8) (N := 43) hx hb hts in_X8_clausesFollow_X8 hown hK hP 0 rfl rfl 34 (by decide) lk_2 (fun _ h9 => h9) rfl dX8_clausesFollow_17 ?_
        refine lv_land hx hb dX8_clausesFollow_20 ?_
        refine lv_lconst (v := (0 : Int64)) hx hb dX8_clausesFollow_21 (by decide) ?_
        refine W.lcmp hx hb dX8_clausesFollow_22 ?_
        refine lv_if_ne (tgt := 51) hx hb dX8_clausesFollow_23 (by decide) (fun c_4 => ?_) (fun c_4 => ?_)
        · have k_5 : ¬ (((h0_cYes x1.toNatClampNeg) &&& f0_ones) = (0 : Int64)) := (fun z9 => c_4 ((lg_cmp_eq _ _).mpr z9))
          have h := cw_f k_5 h
          refine lv_iconst (v := (1 : Int32)) hx hb dX8_clausesFollow_51 (by decide) ?_
          refine lv_goto (tgt := 56) hx hb dX8_clausesFollow_52 (by decide) ?_
          refine lv_istore_n (lv' := [(2, .int (1 : Int32)), (0, .ref q0), (1, .int x1)]) hx hb dX8_clausesFollow_56 rfl hl (by decide) rfl (fun ls hl => ?_)
          refine lv_aload_n hx hb dX8_clausesFollow_57 rfl (lv_at hl 1 rfl) ?_
          refine va_get (D := D) (ci := 8) (v := .ref q0_cYes) (C := RX8) (T := TX8) (N := 43) hx hb hts in_X8_clausesFollow_X8 hown hK hP 0 rfl rfl 6 (by decide) lk_1 (fun _ h9 => h9) rfl dX8_clausesFollow_58 ?_
          refine lv_iload_n hx hb dX8_clausesFollow_61 rfl (lv_at hl 2 rfl) ?_
          obtain ⟨b_6, h⟩ := cw_i h
          refine va_lald hx hb hK hP 1 1 rfl rfl b_6 dX8_clausesFollow_62 ?_
          refine lv_aload_n hx hb dX8_clausesFollow_63 rfl (lv_at hl 1 rfl) ?_
          refine va_get (D := D) (ci := 8) (v := .ref q0_cNo) (C := RX8) (T := TX8) (N := 43) hx hb hts in_X8_clausesFollow_X8 hown hK hP 0 rfl rfl 7 (by decide) lk_3 (fun _ h9 => h9) rfl dX8_clausesFollow_64 ?_
          refine lv_iload_n hx hb dX8_clausesFollow_67 rfl (lv_at hl 2 rfl) ?_
          obtain ⟨b_7, h⟩ := cw_i h
          refine va_lald hx hb hK hP 2 1 rfl rfl b_7 dX8_clausesFollow_68 ?_
          refine lv_lor hx hb dX8_clausesFollow_69 ?_
          refine lv_aload_n hx hb dX8_clausesFollow_70 rfl (lv_at hl 1 rfl) ?_
          refine va_get (D := D) (ci := 8) (v := .long f0_taken) (C := RX8) (T := TX8) (N := 43) hx hb hts in_X8_clausesFollow_X8 hown hK hP 0 rfl rfl 33 (by decide) lk_4 (fun _ h9 => h9) rfl dX8_clausesFollow_71 ?_
          refine lv_ldc2 hx hb hown lk_5 dX8_clausesFollow_74 ?_
          refine lv_lxor hx hb dX8_clausesFollow_77 ?_
          refine lv_land hx hb dX8_clausesFollow_78 ?_
          refine lv_lstore_n (lv' := [(3, .long (((h0_cYes x1.toNatClampNeg) ||| (h0_cNo x1.toNatClampNeg)) &&& (f0_taken ^^^ (-1 : Int64)))), (2, .int (1 : Int32)), (0, .ref q0), (1, .int x1)]) hx hb dX8_clausesFollow_79 rfl hl (by decide) rfl (fun ls hl => ?_)
          refine lv_iload_n hx hb dX8_clausesFollow_80 rfl (lv_at hl 1 rfl) ?_
          refine lv_if_ne (tgt := 92) hx hb dX8_clausesFollow_81 (by decide) (fun c_8 => ?_) (fun c_8 => ?_)
          · refine lv_iload_n hx hb dX8_clausesFollow_92 rfl (lv_at hl 1 rfl) ?_
            refine lv_if_ne (tgt := 129) hx hb dX8_clausesFollow_93 (by decide) (fun c_9 => ?_) (fun c_9 => ?_)
            · refine lv_iinc (v := x1 + (1 : Int32)) (lv' := [(1, .int (x1 + (1 : Int32))), (3, .long (((h0_cYes x1.toNatClampNeg) ||| (h0_cNo x1.toNatClampNeg)) &&& (f0_taken ^^^ (-1 : Int64)))), (2, .int (1 : Int32)), (0, .ref q0)]) hx hb dX8_clausesFollow_129 hl (k := 3) rfl rfl (by decide) rfl (fun ls hl => ?_)
              refine lv_goto (tgt := 2) hx hb dX8_clausesFollow_132 (by decide) ?_
              exact ih _ _ _ h _ _ _ hP hD hS (lv_sub hl [3, 0] rfl)
            · exact absurd c_9 (by decide)
          · exact absurd c_8 (by decide)
        · have k_5 : ((h0_cYes x1.toNatClampNeg) &&& f0_ones) = (0 : Int64) := ((lg_cmp_eq _ _).mp c_4)
          have h := cw_t k_5 h
          refine lv_aload_n hx hb dX8_clausesFollow_26 rfl (lv_at hl 0 rfl) ?_
          refine va_get (D := D) (ci := 8) (v := .ref q0_cNo) (C := RX8) (T := TX8) (N := 43) hx hb hts in_X8_clausesFollow_X8 hown hK hP 0 rfl rfl 7 (by decide) lk_3 (fun _ h9 => h9) rfl dX8_clausesFollow_27 ?_
          refine lv_iload_n hx hb dX8_clausesFollow_30 rfl (lv_at hl 1 rfl) ?_
          obtain ⟨b_10, h⟩ := cw_i h
          refine va_lald hx hb hK hP 2 1 rfl rfl b_10 dX8_clausesFollow_31 ?_
          refine lv_aload_n hx hb dX8_clausesFollow_32 rfl (lv_at hl 0 rfl) ?_
          refine va_get (D := D) (ci := 8) (v := .long f0_taken) (C := RX8) (T := TX8) (N := 43) hx hb hts in_X8_clausesFollow_X8 hown hK hP 0 rfl rfl 33 (by decide) lk_4 (fun _ h9 => h9) rfl dX8_clausesFollow_33 ?_
          refine lv_land hx hb dX8_clausesFollow_36 ?_
          refine lv_aload_n hx hb dX8_clausesFollow_37 rfl (lv_at hl 0 rfl) ?_
          refine va_get (D := D) (ci := 8) (v := .long f0_ones) (C := RX8) (T := TX8) (N := 43) hx hb hts in_X8_clausesFollow_X8 hown hK hP 0 rfl rfl 34 (by decide) lk_2 (fun _ h9 => h9) rfl dX8_clausesFollow_38 ?_
          refine lv_ldc2 hx hb hown lk_5 dX8_clausesFollow_41 ?_
          refine lv_lxor hx hb dX8_clausesFollow_44 ?_
          refine lv_land hx hb dX8_clausesFollow_45 ?_
          refine lv_lconst (v := (0 : Int64)) hx hb dX8_clausesFollow_46 (by decide) ?_
          refine W.lcmp hx hb dX8_clausesFollow_47 ?_
          refine lv_if_eq (tgt := 55) hx hb dX8_clausesFollow_48 (by decide) (fun c_11 => ?_) (fun c_11 => ?_)
          · have k_12 : (((h0_cNo x1.toNatClampNeg) &&& f0_taken) &&& (f0_ones ^^^ (-1 : Int64))) = (0 : Int64) := ((lg_cmp_eq _ _).mp c_11)
            have h := cw_t k_12 h
            refine lv_iconst (v := (0 : Int32)) hx hb dX8_clausesFollow_55 (by decide) ?_
            refine lv_istore_n (lv' := [(2, .int (0 : Int32)), (0, .ref q0), (1, .int x1)]) hx hb dX8_clausesFollow_56 rfl hl (by decide) rfl (fun ls hl => ?_)
            refine lv_aload_n hx hb dX8_clausesFollow_57 rfl (lv_at hl 1 rfl) ?_
            refine va_get (D := D) (ci := 8) (v := .ref q0_cYes) (C := RX8) (T := TX8) (N := 43) hx hb hts in_X8_clausesFollow_X8 hown hK hP 0 rfl rfl 6 (by decide) lk_1 (fun _ h9 => h9) rfl dX8_clausesFollow_58 ?_
            refine lv_iload_n hx hb dX8_clausesFollow_61 rfl (lv_at hl 2 rfl) ?_
            obtain ⟨b_13, h⟩ := cw_i h
            refine va_lald hx hb hK hP 1 1 rfl rfl b_13 dX8_clausesFollow_62 ?_
            refine lv_aload_n hx hb dX8_clausesFollow_63 rfl (lv_at hl 1 rfl) ?_
            refine va_get (D := D) (ci := 8) (v := .ref q0_cNo) (C := RX8) (T := TX8) (N := 43) hx hb hts in_X8_clausesFollow_X8 hown hK hP 0 rfl rfl 7 (by decide) lk_3 (fun _ h9 => h9) rfl dX8_clausesFollow_64 ?_
            refine lv_iload_n hx hb dX8_clausesFollow_67 rfl (lv_at hl 2 rfl) ?_
            obtain ⟨b_14, h⟩ := cw_i h
            refine va_lald hx hb hK hP 2 1 rfl rfl b_14 dX8_clausesFollow_68 ?_
            refine lv_lor hx hb dX8_clausesFollow_69 ?_
            refine lv_aload_n hx hb dX8_clausesFollow_70 rfl (lv_at hl 1 rfl) ?_
            refine va_get (D := D) (ci := 8) (v := .long f0_taken) (C := RX8) (T := TX8) (N := 43) hx hb hts in_X8_clausesFollow_X8 hown hK hP 0 rfl rfl 33 (by decide) lk_4 (fun _ h9 => h9) rfl dX8_clausesFollow_71 ?_
            refine lv_ldc2 hx hb hown lk_5 dX8_clausesFollow_74 ?_
            refine lv_lxor hx hb dX8_clausesFollow_77 ?_
            refine lv_land hx hb dX8_clausesFollow_78 ?_
            refine lv_lstore_n (lv' := [(3, .long (((h0_cYes x1.toNatClampNeg) ||| (h0_cNo x1.toNatClampNeg)) &&& (f0_taken ^^^ (-1 : Int64)))), (2, .int (0 : Int32)), (0, .ref q0), (1, .int x1)]) hx hb dX8_clausesFollow_79 rfl hl (by decide) rfl (fun ls hl => ?_)
            refine lv_iload_n hx hb dX8_clausesFollow_80 rfl (lv_at hl 1 rfl) ?_
            refine lv_if_ne (tgt := 92) hx hb dX8_clausesFollow_81 (by decide) (fun c_15 => ?_) (fun c_15 => ?_)
            · exact absurd c_15 (by decide)
            · refine lv_lload_n hx hb dX8_clausesFollow_84 rfl (lv_at hl 0 rfl) ?_
              refine lv_lconst (v := (0 : Int64)) hx hb dX8_clausesFollow_85 (by decide) ?_
              refine W.lcmp hx hb dX8_clausesFollow_86 ?_
              refine lv_if_ne (tgt := 92) hx hb dX8_clausesFollow_87 (by decide) (fun c_16 => ?_) (fun c_16 => ?_)
              · have k_17 : ¬ ((((h0_cYes x1.toNatClampNeg) ||| (h0_cNo x1.toNatClampNeg)) &&& (f0_taken ^^^ (-1 : Int64))) = (0 : Int64)) := (fun z9 => c_16 ((lg_cmp_eq _ _).mpr z9))
                have h := cw_f k_17 h
                refine lv_iload_n hx hb dX8_clausesFollow_92 rfl (lv_at hl 1 rfl) ?_
                refine lv_if_ne (tgt := 129) hx hb dX8_clausesFollow_93 (by decide) (fun c_18 => ?_) (fun c_18 => ?_)
                · exact absurd c_18 (by decide)
                · refine lv_lload_n hx hb dX8_clausesFollow_96 rfl (lv_at hl 0 rfl) ?_
                  obtain ⟨u_19, hu_20, h⟩ := cw_b h
                  refine kx_l (ws' := fun _ => [(q0, .inr (8, [v0_thrown, v0_n, v0_equations, v0_eSet, v0_eRight, .int f0_clauses, .ref q0_cYes, .ref q0_cNo, v0_levels, v0_levelEquations, v0_levelClauses, v0_tape, v0_tapeSize, v0_faultIs, v0_faultAt, v0_at, v0_newEquations, v0_newClauses, v0_newSet, v0_newRight, v0_newYes, v0_newNo, v0_lineYes, v0_lineNo, v0_rowCount, v0_rSet, v0_rRight, v0_isImpossible, v0_sumSet, v0_sumOf, v0_sumRight, v0_empty, v0_empties, .long f0_taken, .long f0_ones, v0_waitTaken, v0_waitOnes, v0_nodeCount, v0_lastModel, v0_modelCount, v0_modelIs, v0_gSet, v0_gateCount])), (q0_cYes, .inl (cL, n0_cYes, .inr (.inl h0_cYes))), (q0_cNo, .inl (cL, n0_cNo, .inr (.inl h0_cNo)))]) hP hD hS hA [] [0, 1, 2] [0, 1, 2] rfl rfl (by decide) (by decide) (fun _ => rfl) (by decide) (va_runS (As := [.long (((h0_cYes x1.toNatClampNeg) ||| (h0_cNo x1.toNatClampNeg)) &&& (f0_taken ^^^ (-1 : Int64)))]) (rest := []) ⟨hx, hb, hml, hown, hts⟩ (cm_X8_lowest l D cI cL (x0 := ((h0_cYes x1.toNatClampNeg) ||| (h0_cNo x1.toNatClampNeg)) &&& (f0_taken ^^^ (-1 : Int64))) (r0 := u_19) (hr0 := hu_20) (sz := H.size)) (va_cwS 1 hts gX8_clausesFollow_X8_lowest rfl rfl rfl (by decide +kernel) ⟨Nat.le_of_ble_eq_true rfl, Nat.le_of_ble_eq_true rfl⟩) (kx_preS hEV hP hD [] rfl (by decide)) rfl rfl hl.1 rfl (lv_room (Nat.le_of_ble_eq_true rfl)) dX8_clausesFollow_97 ⟨Nat.le_of_ble_eq_true rfl, Nat.le_of_ble_eq_true rfl⟩) (fun _ H locs _ hP hD hS => ?_)
                  refine lv_lload_n hx hb dX8_clausesFollow_100 rfl (lv_at hl 0 rfl) ?_
                  refine W.lcmp hx hb dX8_clausesFollow_101 ?_
                  refine lv_if_ne (tgt := 129) hx hb dX8_clausesFollow_102 (by decide) (fun c_21 => ?_) (fun c_21 => ?_)
                  · have k_22 : ¬ (u_19 = (((h0_cYes x1.toNatClampNeg) ||| (h0_cNo x1.toNatClampNeg)) &&& (f0_taken ^^^ (-1 : Int64)))) := (fun z9 => c_21 ((lg_cmp_eq _ _).mpr z9))
                    have h := cw_f k_22 h
                    refine lv_iinc (v := x1 + (1 : Int32)) (lv' := [(1, .int (x1 + (1 : Int32))), (3, .long (((h0_cYes x1.toNatClampNeg) ||| (h0_cNo x1.toNatClampNeg)) &&& (f0_taken ^^^ (-1 : Int64)))), (2, .int (0 : Int32)), (0, .ref q0)]) hx hb dX8_clausesFollow_129 hl (k := 3) rfl rfl (by decide) rfl (fun ls hl => ?_)
                    refine lv_goto (tgt := 2) hx hb dX8_clausesFollow_132 (by decide) ?_
                    exact ih _ _ _ h _ _ _ hP hD hS (lv_sub hl [3, 0] rfl)
                  · have k_22 : u_19 = (((h0_cYes x1.toNatClampNeg) ||| (h0_cNo x1.toNatClampNeg)) &&& (f0_taken ^^^ (-1 : Int64))) := ((lg_cmp_eq _ _).mp c_21)
                    have h := cw_t k_22 h
                    refine lv_aload_n hx hb dX8_clausesFollow_105 rfl (lv_at hl 2 rfl) ?_
                    refine lv_lload_n hx hb dX8_clausesFollow_106 rfl (lv_at hl 0 rfl) ?_
                    refine lv_aload_n hx hb dX8_clausesFollow_107 rfl (lv_at hl 2 rfl) ?_
                    refine va_get (D := D) (ci := 8) (v := .ref q0_cYes) (C := RX8) (T := TX8) (N := 43) hx hb hts in_X8_clausesFollow_X8 hown hK hP 0 rfl rfl 6 (by decide) lk_1 (fun _ h9 => h9) rfl dX8_clausesFollow_108 ?_
                    refine lv_iload_n hx hb dX8_clausesFollow_111 rfl (lv_at hl 3 rfl) ?_
                    obtain ⟨b_23, h⟩ := cw_i h
                    refine va_lald hx hb hK hP 1 1 rfl rfl b_23 dX8_clausesFollow_112 ?_
                    refine lv_lload_n hx hb dX8_clausesFollow_113 rfl (lv_at hl 0 rfl) ?_
                    refine lv_land hx hb dX8_clausesFollow_114 ?_
                    refine lv_lconst (v := (0 : Int64)) hx hb dX8_clausesFollow_115 (by decide) ?_
                    refine W.lcmp hx hb dX8_clausesFollow_116 ?_
                    refine lv_if_eq (tgt := 124) hx hb dX8_clausesFollow_117 (by decide) (fun c_24 => ?_) (fun c_24 => ?_)
                    · have k_25 : ((h0_cYes x1.toNatClampNeg) &&& (((h0_cYes x1.toNatClampNeg) ||| (h0_cNo x1.toNatClampNeg)) &&& (f0_taken ^^^ (-1 : Int64)))) = (0 : Int64) := ((lg_cmp_eq _ _).mp c_24)
                      have h := cw_t k_25 h
                      refine lv_iconst (v := (0 : Int32)) hx hb dX8_clausesFollow_124 (by decide) ?_
                      obtain ⟨u_26, hu_27, h⟩ := cw_b h
                      refine kx_i (ws' := fun _ => [(q0, .inr (8, [v0_thrown, v0_n, v0_equations, v0_eSet, v0_eRight, .int f0_clauses, .ref q0_cYes, .ref q0_cNo, v0_levels, v0_levelEquations, v0_levelClauses, v0_tape, v0_tapeSize, v0_faultIs, v0_faultAt, v0_at, v0_newEquations, v0_newClauses, v0_newSet, v0_newRight, v0_newYes, v0_newNo, v0_lineYes, v0_lineNo, v0_rowCount, v0_rSet, v0_rRight, v0_isImpossible, v0_sumSet, v0_sumOf, v0_sumRight, v0_empty, v0_empties, .long u_26.2.1, .long u_26.2.2, v0_waitTaken, v0_waitOnes, v0_nodeCount, v0_lastModel, v0_modelCount, v0_modelIs, v0_gSet, v0_gateCount])), (q0_cYes, .inl (cL, n0_cYes, .inr (.inl h0_cYes))), (q0_cNo, .inl (cL, n0_cNo, .inr (.inl h0_cNo)))]) hP hD hS hA [0] [1, 2] [2, 0, 1] rfl rfl (by decide) (by decide) (fun _ => rfl) (by decide) (va_runV (As := [.long (((h0_cYes x1.toNatClampNeg) ||| (h0_cNo x1.toNatClampNeg)) &&& (f0_taken ^^^ (-1 : Int64))), .int (bI false)]) (rest := []) ⟨hx, hb, hml, hown, hts⟩ (cm_X8_take l D cI cL (q0 := q0) (f0_taken := f0_taken) (f0_ones := f0_ones) (v0_thrown := v0_thrown) (v0_n := v0_n) (v0_equations := v0_equations) (v0_eSet := v0_eSet) (v0_eRight := v0_eRight) (v0_clauses := .int f0_clauses) (v0_cYes := .ref q0_cYes) (v0_cNo := .ref q0_cNo) (v0_levels := v0_levels) (v0_levelEquations := v0_levelEquations) (v0_levelClauses := v0_levelClauses) (v0_tape := v0_tape) (v0_tapeSize := v0_tapeSize) (v0_faultIs := v0_faultIs) (v0_faultAt := v0_faultAt) (v0_at := v0_at) (v0_newEquations := v0_newEquations) (v0_newClauses := v0_newClauses) (v0_newSet := v0_newSet) (v0_newRight := v0_newRight) (v0_newYes := v0_newYes) (v0_newNo := v0_newNo) (v0_lineYes := v0_lineYes) (v0_lineNo := v0_lineNo) (v0_rowCount := v0_rowCount) (v0_rSet := v0_rSet) (v0_rRight := v0_rRight) (v0_isImpossible := v0_isImpossible) (v0_sumSet := v0_sumSet) (v0_sumOf := v0_sumOf) (v0_sumRight := v0_sumRight) (v0_empty := v0_empty) (v0_empties := v0_empties) (v0_waitTaken := v0_waitTaken) (v0_waitOnes := v0_waitOnes) (v0_nodeCount := v0_nodeCount) (v0_lastModel := v0_lastModel) (v0_modelCount := v0_modelCount) (v0_modelIs := v0_modelIs) (v0_gSet := v0_gSet) (v0_gateCount := v0_gateCount) (x1 := ((h0_cYes x1.toNatClampNeg) ||| (h0_cNo x1.toNatClampNeg)) &&& (f0_taken ^^^ (-1 : Int64))) (x3 := false) (r0 := u_26) (hr0 := hu_27) (sz := H.size)) (cwV 2 hts gX8_clausesFollow_X8_take rfl rfl rfl (by decide +kernel) ⟨Nat.le_of_ble_eq_true rfl, Nat.le_of_ble_eq_true rfl⟩) (kx_preV hEV hP hD [0] rfl (by decide) (k0 := 0) (ci := 8) rfl rfl rfl) rfl rfl hl.1 rfl (lv_room (Nat.le_of_ble_eq_true rfl)) dX8_clausesFollow_125 ⟨Nat.le_of_ble_eq_true rfl, Nat.le_of_ble_eq_true rfl⟩) (fun _ H locs _ hP hD hS => ?_)
                      refine lv_pop hx hb dX8_clausesFollow_128 rfl ?_
                      refine lv_iinc (v := x1 + (1 : Int32)) (lv' := [(1, .int (x1 + (1 : Int32))), (3, .long (((h0_cYes x1.toNatClampNeg) ||| (h0_cNo x1.toNatClampNeg)) &&& (f0_taken ^^^ (-1 : Int64)))), (2, .int (0 : Int32)), (0, .ref q0)]) hx hb dX8_clausesFollow_129 hl (k := 3) rfl rfl (by decide) rfl (fun ls hl => ?_)
                      refine lv_goto (tgt := 2) hx hb dX8_clausesFollow_132 (by decide) ?_
                      exact ih _ _ _ h _ _ _ hP hD hS (lv_sub hl [3, 0] rfl)
                    · have k_25 : ¬ (((h0_cYes x1.toNatClampNeg) &&& (((h0_cYes x1.toNatClampNeg) ||| (h0_cNo x1.toNatClampNeg)) &&& (f0_taken ^^^ (-1 : Int64)))) = (0 : Int64)) := (fun z9 => c_24 ((lg_cmp_eq _ _).mpr z9))
                      have h := cw_f k_25 h
                      refine lv_iconst (v := (1 : Int32)) hx hb dX8_clausesFollow_120 (by decide) ?_
                      refine lv_goto (tgt := 125) hx hb dX8_clausesFollow_121 (by decide) ?_
                      obtain ⟨u_28, hu_29, h⟩ := cw_b h
                      refine kx_i (ws' := fun _ => [(q0, .inr (8, [v0_thrown, v0_n, v0_equations, v0_eSet, v0_eRight, .int f0_clauses, .ref q0_cYes, .ref q0_cNo, v0_levels, v0_levelEquations, v0_levelClauses, v0_tape, v0_tapeSize, v0_faultIs, v0_faultAt, v0_at, v0_newEquations, v0_newClauses, v0_newSet, v0_newRight, v0_newYes, v0_newNo, v0_lineYes, v0_lineNo, v0_rowCount, v0_rSet, v0_rRight, v0_isImpossible, v0_sumSet, v0_sumOf, v0_sumRight, v0_empty, v0_empties, .long u_28.2.1, .long u_28.2.2, v0_waitTaken, v0_waitOnes, v0_nodeCount, v0_lastModel, v0_modelCount, v0_modelIs, v0_gSet, v0_gateCount])), (q0_cYes, .inl (cL, n0_cYes, .inr (.inl h0_cYes))), (q0_cNo, .inl (cL, n0_cNo, .inr (.inl h0_cNo)))]) hP hD hS hA [0] [1, 2] [2, 0, 1] rfl rfl (by decide) (by decide) (fun _ => rfl) (by decide) (va_runV (As := [.long (((h0_cYes x1.toNatClampNeg) ||| (h0_cNo x1.toNatClampNeg)) &&& (f0_taken ^^^ (-1 : Int64))), .int (bI true)]) (rest := []) ⟨hx, hb, hml, hown, hts⟩ (cm_X8_take l D cI cL (q0 := q0) (f0_taken := f0_taken) (f0_ones := f0_ones) (v0_thrown := v0_thrown) (v0_n := v0_n) (v0_equations := v0_equations) (v0_eSet := v0_eSet) (v0_eRight := v0_eRight) (v0_clauses := .int f0_clauses) (v0_cYes := .ref q0_cYes) (v0_cNo := .ref q0_cNo) (v0_levels := v0_levels) (v0_levelEquations := v0_levelEquations) (v0_levelClauses := v0_levelClauses) (v0_tape := v0_tape) (v0_tapeSize := v0_tapeSize) (v0_faultIs := v0_faultIs) (v0_faultAt := v0_faultAt) (v0_at := v0_at) (v0_newEquations := v0_newEquations) (v0_newClauses := v0_newClauses) (v0_newSet := v0_newSet) (v0_newRight := v0_newRight) (v0_newYes := v0_newYes) (v0_newNo := v0_newNo) (v0_lineYes := v0_lineYes) (v0_lineNo := v0_lineNo) (v0_rowCount := v0_rowCount) (v0_rSet := v0_rSet) (v0_rRight := v0_rRight) (v0_isImpossible := v0_isImpossible) (v0_sumSet := v0_sumSet) (v0_sumOf := v0_sumOf) (v0_sumRight := v0_sumRight) (v0_empty := v0_empty) (v0_empties := v0_empties) (v0_waitTaken := v0_waitTaken) (v0_waitOnes := v0_waitOnes) (v0_nodeCount := v0_nodeCount) (v0_lastModel := v0_lastModel) (v0_modelCount := v0_modelCount) (v0_modelIs := v0_modelIs) (v0_gSet := v0_gSet) (v0_gateCount := v0_gateCount) (x1 := ((h0_cYes x1.toNatClampNeg) ||| (h0_cNo x1.toNatClampNeg)) &&& (f0_taken ^^^ (-1 : Int64))) (x3 := true) (r0 := u_28) (hr0 := hu_29) (sz := H.size)) (cwV 2 hts gX8_clausesFollow_X8_take rfl rfl rfl (by decide +kernel) ⟨Nat.le_of_ble_eq_true rfl, Nat.le_of_ble_eq_true rfl⟩) (kx_preV hEV hP hD [0] rfl (by decide) (k0 := 0) (ci := 8) rfl rfl rfl) rfl rfl hl.1 rfl (lv_room (Nat.le_of_ble_eq_true rfl)) dX8_clausesFollow_125 ⟨Nat.le_of_ble_eq_true rfl, Nat.le_of_ble_eq_true rfl⟩) (fun _ H locs _ hP hD hS => ?_)
                      refine lv_pop hx hb dX8_clausesFollow_128 rfl ?_
                      refine lv_iinc (v := x1 + (1 : Int32)) (lv' := [(1, .int (x1 + (1 : Int32))), (3, .long (((h0_cYes x1.toNatClampNeg) ||| (h0_cNo x1.toNatClampNeg)) &&& (f0_taken ^^^ (-1 : Int64)))), (2, .int (0 : Int32)), (0, .ref q0)]) hx hb dX8_clausesFollow_129 hl (k := 3) rfl rfl (by decide) rfl (fun ls hl => ?_)
                      refine lv_goto (tgt := 2) hx hb dX8_clausesFollow_132 (by decide) ?_
                      exact ih _ _ _ h _ _ _ hP hD hS (lv_sub hl [3, 0] rfl)
              · have k_17 : (((h0_cYes x1.toNatClampNeg) ||| (h0_cNo x1.toNatClampNeg)) &&& (f0_taken ^^^ (-1 : Int64))) = (0 : Int64) := ((lg_cmp_eq _ _).mp c_16)
                have h := cw_t k_17 h
                refine lv_iconst (v := (0 : Int32)) hx hb dX8_clausesFollow_90 (by decide) ?_
                have h := Option.some.inj h
                subst h
                subst hQ
                exact W.zret (v := bI false) hx hb hr (bI_n false) (fun t ht hW => ⟨⟨bI false, (), rfl, ⟨rfl, trivial⟩, by rw [ht]; exact hP, hD⟩, hS.F ht⟩) hS.2.2 dX8_clausesFollow_91
          · have k_12 : ¬ ((((h0_cNo x1.toNatClampNeg) &&& f0_taken) &&& (f0_ones ^^^ (-1 : Int64))) = (0 : Int64)) := (fun z9 => c_11 ((lg_cmp_eq _ _).mpr z9))
            have h := cw_f k_12 h
            refine lv_iconst (v := (1 : Int32)) hx hb dX8_clausesFollow_51 (by decide) ?_
            refine lv_goto (tgt := 56) hx hb dX8_clausesFollow_52 (by decide) ?_
            refine lv_istore_n (lv' := [(2, .int (1 : Int32)), (0, .ref q0), (1, .int x1)]) hx hb dX8_clausesFollow_56 rfl hl (by decide) rfl (fun ls hl => ?_)
            refine lv_aload_n hx hb dX8_clausesFollow_57 rfl (lv_at hl 1 rfl) ?_
            refine va_get (D := D) (ci := 8) (v := .ref q0_cYes) (C := RX8) (T := TX8) (N := 43) hx hb hts in_X8_clausesFollow_X8 hown hK hP 0 rfl rfl 6 (by decide) lk_1 (fun _ h9 => h9) rfl dX8_clausesFollow_58 ?_
            refine lv_iload_n hx hb dX8_clausesFollow_61 rfl (lv_at hl 2 rfl) ?_
            obtain ⟨b_30, h⟩ := cw_i h
            refine va_lald hx hb hK hP 1 1 rfl rfl b_30 dX8_clausesFollow_62 ?_
            refine lv_aload_n hx hb dX8_clausesFollow_63 rfl (lv_at hl 1 rfl) ?_
            refine va_get (D := D) (ci := 8) (v := .ref q0_cNo) (C := RX8) (T := TX8) (N := 43) hx hb hts in_X8_clausesFollow_X8 hown hK hP 0 rfl rfl 7 (by decide) lk_3 (fun _ h9 => h9) rfl dX8_clausesFollow_64 ?_
            refine lv_iload_n hx hb dX8_clausesFollow_67 rfl (lv_at hl 2 rfl) ?_
            obtain ⟨b_31, h⟩ := cw_i h
            refine va_lald hx hb hK hP 2 1 rfl rfl b_31 dX8_clausesFollow_68 ?_
            refine lv_lor hx hb dX8_clausesFollow_69 ?_
            refine lv_aload_n hx hb dX8_clausesFollow_70 rfl (lv_at hl 1 rfl) ?_
            refine va_get (D := D) (ci := 8) (v := .long f0_taken) (C := RX8) (T := TX8) (N := 43) hx hb hts in_X8_clausesFollow_X8 hown hK hP 0 rfl rfl 33 (by decide) lk_4 (fun _ h9 => h9) rfl dX8_clausesFollow_71 ?_
            refine lv_ldc2 hx hb hown lk_5 dX8_clausesFollow_74 ?_
            refine lv_lxor hx hb dX8_clausesFollow_77 ?_
            refine lv_land hx hb dX8_clausesFollow_78 ?_
            refine lv_lstore_n (lv' := [(3, .long (((h0_cYes x1.toNatClampNeg) ||| (h0_cNo x1.toNatClampNeg)) &&& (f0_taken ^^^ (-1 : Int64)))), (2, .int (1 : Int32)), (0, .ref q0), (1, .int x1)]) hx hb dX8_clausesFollow_79 rfl hl (by decide) rfl (fun ls hl => ?_)
            refine lv_iload_n hx hb dX8_clausesFollow_80 rfl (lv_at hl 1 rfl) ?_
            refine lv_if_ne (tgt := 92) hx hb dX8_clausesFollow_81 (by decide) (fun c_32 => ?_) (fun c_32 => ?_)
            · refine lv_iload_n hx hb dX8_clausesFollow_92 rfl (lv_at hl 1 rfl) ?_
              refine lv_if_ne (tgt := 129) hx hb dX8_clausesFollow_93 (by decide) (fun c_33 => ?_) (fun c_33 => ?_)
              · refine lv_iinc (v := x1 + (1 : Int32)) (lv' := [(1, .int (x1 + (1 : Int32))), (3, .long (((h0_cYes x1.toNatClampNeg) ||| (h0_cNo x1.toNatClampNeg)) &&& (f0_taken ^^^ (-1 : Int64)))), (2, .int (1 : Int32)), (0, .ref q0)]) hx hb dX8_clausesFollow_129 hl (k := 3) rfl rfl (by decide) rfl (fun ls hl => ?_)
                refine lv_goto (tgt := 2) hx hb dX8_clausesFollow_132 (by decide) ?_
                exact ih _ _ _ h _ _ _ hP hD hS (lv_sub hl [3, 0] rfl)
              · exact absurd c_33 (by decide)
            · exact absurd c_32 (by decide)
  have h := hr0
  unfold D_X8_clausesFollow at h
  refine lv_iconst (v := (0 : Int32)) hx hb dX8_clausesFollow_0 (by decide) ?_
  refine lv_istore_n (lv' := [(1, .int (0 : Int32)), (0, .ref q0)]) hx hb dX8_clausesFollow_1 rfl hl (by decide) rfl (fun ls hl => ?_)
  obtain ⟨n9, hn9⟩ := runw_some h
  exact (hloop n9) _ _ _ hn9 _ _ _ hP hD hS (lv_sub hl [1, 0] rfl)
theorem in_X8_allFollows_X8 : ∀ w ∈ wsX80, w ∈ wsX8_allFollows := by decide +kernel
theorem lk_0_X8_allFollows : Cond.constantLong RX8 68 (-1) ∈ wsX8_allFollows := by decide +kernel
theorem lk_1_X8_allFollows : Cond.fieldLink RX8 209 "ParityClausesModel" "taken" "J" ∈ wsX8_allFollows := by decide +kernel
theorem lk_2_X8_allFollows : Cond.fieldLink RX8 212 "ParityClausesModel" "ones" "J" ∈ wsX8_allFollows := by decide +kernel
theorem lk_3_X8_allFollows : Cond.fieldLink RX8 175 "ParityClausesModel" "isImpossible" "Z" ∈ wsX8_allFollows := by decide +kernel
theorem lk_4_X8_allFollows : Cond.fieldLink RX8 172 "ParityClausesModel" "rowCount" "I" ∈ wsX8_allFollows := by decide +kernel
theorem lk_5_X8_allFollows : Cond.fieldLink RX8 44 "ParityClausesModel" "rSet" "[J" ∈ wsX8_allFollows := by decide +kernel
theorem lk_6_X8_allFollows : Cond.fieldLink RX8 47 "ParityClausesModel" "rRight" "[I" ∈ wsX8_allFollows := by decide +kernel
abbrev rm_X8_allFollows : Room := { frames := 4, cells := 0, slots := 0, locals := 103 }
set_option maxHeartbeats 4000000 in
set_option maxRecDepth 100000 in
theorem cm_X8_allFollows (l : Launch) (D : va_G) (cI cL : ClassId) (q0 q0_eSet q0_eRight q0_cYes q0_cNo q0_rSet q0_rRight : Nat) (n0_eSet n0_eRight n0_cYes n0_cNo n0_rSet n0_rRight : Nat) (f0_equations : Int32) (f0_clauses : Int32) (f0_rowCount : Int32) (f0_isImpossible : Bool) (f0_taken : Int64) (f0_ones : Int64) (h0_eSet : Nat → Int64) (h0_eRight : Nat → Int32) (h0_cYes : Nat → Int64) (h0_cNo : Nat → Int64) (h0_rSet : Nat → Int64) (h0_rRight : Nat → Int32) (v0_thrown v0_n v0_levels v0_levelEquations v0_levelClauses v0_tape v0_tapeSize v0_faultIs v0_faultAt v0_at v0_newEquations v0_newClauses v0_newSet v0_newRight v0_newYes v0_newNo v0_lineYes v0_lineNo v0_sumSet v0_sumOf v0_sumRight v0_empty v0_empties v0_waitTaken v0_waitOnes v0_nodeCount v0_lastModel v0_modelCount v0_modelIs v0_gSet v0_gateCount : Value) (r0 : Bool × Int32 × Bool × Int64 × Int64 × (Nat → Int64) × (Nat → Int32)) (hr0 : D_X8_allFollows f0_equations f0_clauses f0_rowCount f0_isImpossible f0_taken f0_ones n0_eSet h0_eSet n0_eRight h0_eRight n0_cYes h0_cYes n0_cNo h0_cNo n0_rSet h0_rSet n0_rRight h0_rRight = some r0) (sz : Nat) : Met l yX8_allFollows wsX8_allFollows rm_X8_allFollows (PcW D cI cL [.ref q0] [(q0, .inr (8, [v0_thrown, v0_n, .int f0_equations, .ref q0_eSet, .ref q0_eRight, .int f0_clauses, .ref q0_cYes, .ref q0_cNo, v0_levels, v0_levelEquations, v0_levelClauses, v0_tape, v0_tapeSize, v0_faultIs, v0_faultAt, v0_at, v0_newEquations, v0_newClauses, v0_newSet, v0_newRight, v0_newYes, v0_newNo, v0_lineYes, v0_lineNo, .int f0_rowCount, .ref q0_rSet, .ref q0_rRight, .int (bI f0_isImpossible), v0_sumSet, v0_sumOf, v0_sumRight, v0_empty, v0_empties, .long f0_taken, .long f0_ones, v0_waitTaken, v0_waitOnes, v0_nodeCount, v0_lastModel, v0_modelCount, v0_modelIs, v0_gSet, v0_gateCount])), (q0_eSet, .inl (cL, n0_eSet, .inr (.inl h0_eSet))), (q0_eRight, .inl (cI, n0_eRight, .inl h0_eRight)), (q0_cYes, .inl (cL, n0_cYes, .inr (.inl h0_cYes))), (q0_cNo, .inl (cL, n0_cNo, .inr (.inl h0_cNo))), (q0_rSet, .inl (cL, n0_rSet, .inr (.inl h0_rSet))), (q0_rRight, .inl (cI, n0_rRight, .inl h0_rRight))] sz) (QiW D [(q0, .inr (8, [v0_thrown, v0_n, .int f0_equations, .ref q0_eSet, .ref q0_eRight, .int f0_clauses, .ref q0_cYes, .ref q0_cNo, v0_levels, v0_levelEquations, v0_levelClauses, v0_tape, v0_tapeSize, v0_faultIs, v0_faultAt, v0_at, v0_newEquations, v0_newClauses, v0_newSet, v0_newRight, v0_newYes, v0_newNo, v0_lineYes, v0_lineNo, .int f0_rowCount, .ref q0_rSet, .ref q0_rRight, .int (bI f0_isImpossible), v0_sumSet, v0_sumOf, v0_sumRight, v0_empty, v0_empties, .long f0_taken, .long f0_ones, v0_waitTaken, v0_waitOnes, v0_nodeCount, v0_lastModel, v0_modelCount, v0_modelIs, v0_gSet, v0_gateCount])), (q0_eSet, .inl (cL, n0_eSet, .inr (.inl h0_eSet))), (q0_eRight, .inl (cI, n0_eRight, .inl h0_eRight)), (q0_cYes, .inl (cL, n0_cYes, .inr (.inl h0_cYes))), (q0_cNo, .inl (cL, n0_cNo, .inr (.inl h0_cNo))), (q0_rSet, .inl (cL, n0_rSet, .inr (.inl h0_rSet))), (q0_rRight, .inl (cI, n0_rRight, .inl h0_rRight))] (bI r0.1) (fun _ : Unit => [(q0, .inr (8, [v0_thrown, v0_n, .int f0_equations, .ref q0_eSet, .ref q0_eRight, .int f0_clauses, .ref q0_cYes, .ref q0_cNo, v0_levels, v0_levelEquations, v0_levelClauses, v0_tape, v0_tapeSize, v0_faultIs, v0_faultAt, v0_at, v0_newEquations, v0_newClauses, v0_newSet, v0_newRight, v0_newYes, v0_newNo, v0_lineYes, v0_lineNo, .int r0.2.1, .ref q0_rSet, .ref q0_rRight, .int (bI r0.2.2.1), v0_sumSet, v0_sumOf, v0_sumRight, v0_empty, v0_empties, .long r0.2.2.2.1, .long r0.2.2.2.2.1, v0_waitTaken, v0_waitOnes, v0_nodeCount, v0_lastModel, v0_modelCount, v0_modelIs, v0_gSet, v0_gateCount])), (q0_eSet, .inl (cL, n0_eSet, .inr (.inl h0_eSet))), (q0_eRight, .inl (cI, n0_eRight, .inl h0_eRight)), (q0_cYes, .inl (cL, n0_cYes, .inr (.inl h0_cYes))), (q0_cNo, .inl (cL, n0_cNo, .inr (.inl h0_cNo))), (q0_rSet, .inl (cL, n0_rSet, .inr (.inl r0.2.2.2.2.2.1))), (q0_rRight, .inl (cI, n0_rRight, .inl r0.2.2.2.2.2.2))]) tU sz) 0 0 (va_A [(q0, .inr (8, [v0_thrown, v0_n, .int f0_equations, .ref q0_eSet, .ref q0_eRight, .int f0_clauses, .ref q0_cYes, .ref q0_cNo, v0_levels, v0_levelEquations, v0_levelClauses, v0_tape, v0_tapeSize, v0_faultIs, v0_faultAt, v0_at, v0_newEquations, v0_newClauses, v0_newSet, v0_newRight, v0_newYes, v0_newNo, v0_lineYes, v0_lineNo, .int f0_rowCount, .ref q0_rSet, .ref q0_rRight, .int (bI f0_isImpossible), v0_sumSet, v0_sumOf, v0_sumRight, v0_empty, v0_empties, .long f0_taken, .long f0_ones, v0_waitTaken, v0_waitOnes, v0_nodeCount, v0_lastModel, v0_modelCount, v0_modelIs, v0_gSet, v0_gateCount])), (q0_eSet, .inl (cL, n0_eSet, .inr (.inl h0_eSet))), (q0_eRight, .inl (cI, n0_eRight, .inl h0_eRight)), (q0_cYes, .inl (cL, n0_cYes, .inr (.inl h0_cYes))), (q0_cNo, .inl (cL, n0_cNo, .inr (.inl h0_cNo))), (q0_rSet, .inl (cL, n0_rSet, .inr (.inl h0_rSet))), (q0_rRight, .inl (cI, n0_rRight, .inl h0_rRight))] sz) := by
  refine Met.ofW (cc := cX8_allFollows) (maxL := 4) (ret := (some .boolean)) (by decide) rfl ?_
  intro p e s m args below meth c s₁ B hml hv
  obtain ⟨hargs, hsz, hP, hEV, hD0⟩ := hv
  have hx := B.exec
  have hb := B.bytes
  have hr := B.returns
  have hts := atoms_spec (ws := wsX8_allFollows) B.pre
  have hown : s.vm.findClass RX8 = some m.cls := findClass_of_methodNamed B.named
  have hlocks := B.notSynchronized
  have hK := hEV.K
  have lk_0 := hts _ lk_0_X8_allFollows
  have lk_1 := hts _ lk_1_X8_allFollows
  have lk_2 := hts _ lk_2_X8_allFollows
  have lk_3 := hts _ lk_3_X8_allFollows
  have lk_4 := hts _ lk_4_X8_allFollows
  have lk_5 := hts _ lk_5_X8_allFollows
  have lk_6 := hts _ lk_6_X8_allFollows
  subst hsz
  unfold QiW PoW
  have hD := hD0.self (sz := s.heap.size)
  generalize hAe : va_A [(q0, .inr (8, [v0_thrown, v0_n, .int f0_equations, .ref q0_eSet, .ref q0_eRight, .int f0_clauses, .ref q0_cYes, .ref q0_cNo, v0_levels, v0_levelEquations, v0_levelClauses, v0_tape, v0_tapeSize, v0_faultIs, v0_faultAt, v0_at, v0_newEquations, v0_newClauses, v0_newSet, v0_newRight, v0_newYes, v0_newNo, v0_lineYes, v0_lineNo, .int f0_rowCount, .ref q0_rSet, .ref q0_rRight, .int (bI f0_isImpossible), v0_sumSet, v0_sumOf, v0_sumRight, v0_empty, v0_empties, .long f0_taken, .long f0_ones, v0_waitTaken, v0_waitOnes, v0_nodeCount, v0_lastModel, v0_modelCount, v0_modelIs, v0_gSet, v0_gateCount])), (q0_eSet, .inl (cL, n0_eSet, .inr (.inl h0_eSet))), (q0_eRight, .inl (cI, n0_eRight, .inl h0_eRight)), (q0_cYes, .inl (cL, n0_cYes, .inr (.inl h0_cYes))), (q0_cNo, .inl (cL, n0_cNo, .inr (.inl h0_cNo))), (q0_rSet, .inl (cL, n0_rSet, .inr (.inl h0_rSet))), (q0_rRight, .inl (cI, n0_rRight, .inl h0_rRight))] s.heap.size = A at hD ⊢
  have hA : ∀ q : Nat, s.heap.size ≤ q → A q := fun q h => by rw [← hAe]; exact Or.inr h
  have hent : entryFrame m args 4 = entryFrame m ([.ref q0] : List Value).toArray 4 := by rw [hargs]
  rw [hent]
  refine kx_Q (fun Q hQ => ?_)
  refine kx_H (fun H hH => ?_)
  have hP : va_P D vwCl [(q0, .inr (8, [v0_thrown, v0_n, .int f0_equations, .ref q0_eSet, .ref q0_eRight, .int f0_clauses, .ref q0_cYes, .ref q0_cNo, v0_levels, v0_levelEquations, v0_levelClauses, v0_tape, v0_tapeSize, v0_faultIs, v0_faultAt, v0_at, v0_newEquations, v0_newClauses, v0_newSet, v0_newRight, v0_newYes, v0_newNo, v0_lineYes, v0_lineNo, .int f0_rowCount, .ref q0_rSet, .ref q0_rRight, .int (bI f0_isImpossible), v0_sumSet, v0_sumOf, v0_sumRight, v0_empty, v0_empties, .long f0_taken, .long f0_ones, v0_waitTaken, v0_waitOnes, v0_nodeCount, v0_lastModel, v0_modelCount, v0_modelIs, v0_gSet, v0_gateCount])), (q0_eSet, .inl (cL, n0_eSet, .inr (.inl h0_eSet))), (q0_eRight, .inl (cI, n0_eRight, .inl h0_eRight)), (q0_cYes, .inl (cL, n0_cYes, .inr (.inl h0_cYes))), (q0_cNo, .inl (cL, n0_cNo, .inr (.inl h0_cNo))), (q0_rSet, .inl (cL, n0_rSet, .inr (.inl h0_rSet))), (q0_rRight, .inl (cI, n0_rRight, .inl h0_rRight))] H := by rw [hH]; exact hP
  have hS : va_S A s.heap H [] := by rw [hH]; exact va_S.rf
  have hl := lv_entry ([.ref q0]) (n := 4) (Nat.le_of_ble_eq_true rfl)
  rw [lg_entry_eq]
  generalize (lg_sl ([.ref q0]) ++ List.replicate (4 - (lg_sl ([.ref q0])).length) Slot.unset).toArray = ls at hl ⊢
  have hl : lv_has ls 4 [(0, .ref q0)] := hl
  have hloop : ∀ n9 : Nat, (∀ (x1 : Int64) (f0_rowCount : Int32) (f0_isImpossible : Bool) (f0_taken : Int64) (f0_ones : Int64) (h0_rSet : Nat → Int64) (h0_rRight : Nat → Int32), iter (st_X8_allFollows f0_equations f0_clauses n0_eSet h0_eSet n0_eRight h0_eRight n0_cYes h0_cYes n0_cNo h0_cNo n0_rSet n0_rRight) n9 (.inl (x1, f0_rowCount, f0_isImpossible, f0_taken, f0_ones, h0_rSet, h0_rRight)) = some r0 → ∀ (H : Heap) (locs : List Loc) (ls : Array Slot), va_P D vwCl [(q0, .inr (8, [v0_thrown, v0_n, .int f0_equations, .ref q0_eSet, .ref q0_eRight, .int f0_clauses, .ref q0_cYes, .ref q0_cNo, v0_levels, v0_levelEquations, v0_levelClauses, v0_tape, v0_tapeSize, v0_faultIs, v0_faultAt, v0_at, v0_newEquations, v0_newClauses, v0_newSet, v0_newRight, v0_newYes, v0_newNo, v0_lineYes, v0_lineNo, .int f0_rowCount, .ref q0_rSet, .ref q0_rRight, .int (bI f0_isImpossible), v0_sumSet, v0_sumOf, v0_sumRight, v0_empty, v0_empties, .long f0_taken, .long f0_ones, v0_waitTaken, v0_waitOnes, v0_nodeCount, v0_lastModel, v0_modelCount, v0_modelIs, v0_gSet, v0_gateCount])), (q0_eSet, .inl (cL, n0_eSet, .inr (.inl h0_eSet))), (q0_eRight, .inl (cI, n0_eRight, .inl h0_eRight)), (q0_cYes, .inl (cL, n0_cYes, .inr (.inl h0_cYes))), (q0_cNo, .inl (cL, n0_cNo, .inr (.inl h0_cNo))), (q0_rSet, .inl (cL, n0_rSet, .inr (.inl h0_rSet))), (q0_rRight, .inl (cI, n0_rRight, .inl h0_rRight))] H → va_D A [(q0, .inr (8, [v0_thrown, v0_n, .int f0_equations, .ref q0_eSet, .ref q0_eRight, .int f0_clauses, .ref q0_cYes, .ref q0_cNo, v0_levels, v0_levelEquations, v0_levelClauses, v0_tape, v0_tapeSize, v0_faultIs, v0_faultAt, v0_at, v0_newEquations, v0_newClauses, v0_newSet, v0_newRight, v0_newYes, v0_newNo, v0_lineYes, v0_lineNo, .int f0_rowCount, .ref q0_rSet, .ref q0_rRight, .int (bI f0_isImpossible), v0_sumSet, v0_sumOf, v0_sumRight, v0_empty, v0_empties, .long f0_taken, .long f0_ones, v0_waitTaken, v0_waitOnes, v0_nodeCount, v0_lastModel, v0_modelCount, v0_modelIs, v0_gSet, v0_gateCount])), (q0_eSet, .inl (cL, n0_eSet, .inr (.inl h0_eSet))), (q0_eRight, .inl (cI, n0_eRight, .inl h0_eRight)), (q0_cYes, .inl (cL, n0_cYes, .inr (.inl h0_cYes))), (q0_cNo, .inl (cL, n0_cNo, .inr (.inl h0_cNo))), (q0_rSet, .inl (cL, n0_rSet, .inr (.inl h0_rSet))), (q0_rRight, .inl (cI, n0_rRight, .inl h0_rRight))] → va_S A s.heap H locs → lv_has ls 4 [(0, .ref q0), (1, .long x1)] → W p l e (headSpec wsX8_allFollows rm_X8_allFollows).room s m args below meth c H locs 0 0 Q (F0 m 4 ls [])) ∧ (∀ (x1 : Int64) (x3 : Int32) (f0_rowCount : Int32) (f0_isImpossible : Bool) (f0_taken : Int64) (f0_ones : Int64) (h0_rSet : Nat → Int64) (h0_rRight : Nat → Int32), iter (st_X8_allFollows f0_equations f0_clauses n0_eSet h0_eSet n0_eRight h0_eRight n0_cYes h0_cYes n0_cNo h0_cNo n0_rSet n0_rRight) n9 (.inr (x1, x3, f0_rowCount, f0_isImpossible, f0_taken, f0_ones, h0_rSet, h0_rRight)) = some r0 → ∀ (H : Heap) (locs : List Loc) (ls : Array Slot), va_P D vwCl [(q0, .inr (8, [v0_thrown, v0_n, .int f0_equations, .ref q0_eSet, .ref q0_eRight, .int f0_clauses, .ref q0_cYes, .ref q0_cNo, v0_levels, v0_levelEquations, v0_levelClauses, v0_tape, v0_tapeSize, v0_faultIs, v0_faultAt, v0_at, v0_newEquations, v0_newClauses, v0_newSet, v0_newRight, v0_newYes, v0_newNo, v0_lineYes, v0_lineNo, .int f0_rowCount, .ref q0_rSet, .ref q0_rRight, .int (bI f0_isImpossible), v0_sumSet, v0_sumOf, v0_sumRight, v0_empty, v0_empties, .long f0_taken, .long f0_ones, v0_waitTaken, v0_waitOnes, v0_nodeCount, v0_lastModel, v0_modelCount, v0_modelIs, v0_gSet, v0_gateCount])), (q0_eSet, .inl (cL, n0_eSet, .inr (.inl h0_eSet))), (q0_eRight, .inl (cI, n0_eRight, .inl h0_eRight)), (q0_cYes, .inl (cL, n0_cYes, .inr (.inl h0_cYes))), (q0_cNo, .inl (cL, n0_cNo, .inr (.inl h0_cNo))), (q0_rSet, .inl (cL, n0_rSet, .inr (.inl h0_rSet))), (q0_rRight, .inl (cI, n0_rRight, .inl h0_rRight))] H → va_D A [(q0, .inr (8, [v0_thrown, v0_n, .int f0_equations, .ref q0_eSet, .ref q0_eRight, .int f0_clauses, .ref q0_cYes, .ref q0_cNo, v0_levels, v0_levelEquations, v0_levelClauses, v0_tape, v0_tapeSize, v0_faultIs, v0_faultAt, v0_at, v0_newEquations, v0_newClauses, v0_newSet, v0_newRight, v0_newYes, v0_newNo, v0_lineYes, v0_lineNo, .int f0_rowCount, .ref q0_rSet, .ref q0_rRight, .int (bI f0_isImpossible), v0_sumSet, v0_sumOf, v0_sumRight, v0_empty, v0_empties, .long f0_taken, .long f0_ones, v0_waitTaken, v0_waitOnes, v0_nodeCount, v0_lastModel, v0_modelCount, v0_modelIs, v0_gSet, v0_gateCount])), (q0_eSet, .inl (cL, n0_eSet, .inr (.inl h0_eSet))), (q0_eRight, .inl (cI, n0_eRight, .inl h0_eRight)), (q0_cYes, .inl (cL, n0_cYes, .inr (.inl h0_cYes))), (q0_cNo, .inl (cL, n0_cNo, .inr (.inl h0_cNo))), (q0_rSet, .inl (cL, n0_rSet, .inr (.inl h0_rSet))), (q0_rRight, .inl (cI, n0_rRight, .inl h0_rRight))] → va_S A s.heap H locs → lv_has ls 4 [(0, .ref q0), (1, .long x1), (3, .int x3)] → W p l e (headSpec wsX8_allFollows rm_X8_allFollows).room s m args below meth c H locs 0 0 Q (F0 m 51 ls [])) := by
    intro n9
    induction n9 with
    | zero => exact ⟨(fun _ _ _ _ _ _ _ h => nomatch h), (fun _ _ _ _ _ _ _ _ h => nomatch h)⟩
    | succ n9 ih =>
      refine ⟨?_, ?_⟩
      · intro x1 f0_rowCount f0_isImpossible f0_taken f0_ones h0_rSet h0_rRight h H locs ls hP hD hS hl
        have h : run1 (iter (st_X8_allFollows f0_equations f0_clauses n0_eSet h0_eSet n0_eRight h0_eRight n0_cYes h0_cYes n0_cNo h0_cNo n0_rSet n0_rRight) n9) (b_X8_allFollows_4 f0_equations f0_clauses n0_eSet h0_eSet n0_eRight h0_eRight n0_cYes h0_cYes n0_cNo h0_cNo n0_rSet n0_rRight x1 f0_rowCount f0_isImpossible f0_taken f0_ones h0_rSet h0_rRight) = some r0 := h
        unfold b_X8_allFollows_4 at h
        refine lv_lload_n hx hb dX8_allFollows_4 rfl (lv_at hl 1 rfl) ?_
        refine lv_aload_n hx hb dX8_allFollows_5 rfl (lv_at hl 0 rfl) ?_
        refine va_get (D := D) (ci := 8) (v := .long f0_taken) (C := RX8) (T := TX8) (N := 43) hx hb hts in_X8_allFollows_X8 hown hK hP 0 rfl rfl 33 (by decide) lk_1 (fun _ h9 => h9) rfl dX8_allFollows_6 ?_
        refine W.lcmp hx hb dX8_allFollows_9 ?_
        refine lv_if_eq (tgt := 113) hx hb dX8_allFollows_10 (by decide) (fun c_1 => ?_) (fun c_1 => ?_)
        · have k_2 : x1 = f0_taken := ((lg_cmp_eq _ _).mp c_1)
          have h := cw_t k_2 h
          refine lv_iconst (v := (1 : Int32)) hx hb dX8_allFollows_113 (by decide) ?_
          have h := Option.some.inj h
          subst h
          subst hQ
          exact W.zret (v := bI true) hx hb hr (bI_n true) (fun t ht hW => ⟨⟨bI true, (), rfl, ⟨rfl, trivial⟩, by rw [ht]; exact hP, hD⟩, hS.F ht⟩) hS.2.2 dX8_allFollows_114
        · have k_2 : ¬ (x1 = f0_taken) := (fun z9 => c_1 ((lg_cmp_eq _ _).mpr z9))
          have h := cw_f k_2 h
          refine lv_aload_n hx hb dX8_allFollows_13 rfl (lv_at hl 0 rfl) ?_
          refine va_get (D := D) (ci := 8) (v := .long f0_taken) (C := RX8) (T := TX8) (N := 43) hx hb hts in_X8_allFollows_X8 hown hK hP 0 rfl rfl 33 (by decide) lk_1 (fun _ h9 => h9) rfl dX8_allFollows_14 ?_
          refine lv_lstore_n (lv' := [(1, .long f0_taken), (0, .ref q0)]) hx hb dX8_allFollows_17 rfl hl (by decide) rfl (fun ls hl => ?_)
          refine lv_aload_n hx hb dX8_allFollows_18 rfl (lv_at hl 1 rfl) ?_
          obtain ⟨u_3, hu_4, h⟩ := cw_b h
          refine kx_i (ws' := fun _ => [(q0, .inr (8, [v0_thrown, v0_n, .int f0_equations, .ref q0_eSet, .ref q0_eRight, .int f0_clauses, .ref q0_cYes, .ref q0_cNo, v0_levels, v0_levelEquations, v0_levelClauses, v0_tape, v0_tapeSize, v0_faultIs, v0_faultAt, v0_at, v0_newEquations, v0_newClauses, v0_newSet, v0_newRight, v0_newYes, v0_newNo, v0_lineYes, v0_lineNo, .int f0_rowCount, .ref q0_rSet, .ref q0_rRight, .int (bI f0_isImpossible), v0_sumSet, v0_sumOf, v0_sumRight, v0_empty, v0_empties, .long u_3.2.1, .long u_3.2.2, v0_waitTaken, v0_waitOnes, v0_nodeCount, v0_lastModel, v0_modelCount, v0_modelIs, v0_gSet, v0_gateCount])), (q0_eSet, .inl (cL, n0_eSet, .inr (.inl h0_eSet))), (q0_eRight, .inl (cI, n0_eRight, .inl h0_eRight)), (q0_cYes, .inl (cL, n0_cYes, .inr (.inl h0_cYes))), (q0_cNo, .inl (cL, n0_cNo, .inr (.inl h0_cNo))), (q0_rSet, .inl (cL, n0_rSet, .inr (.inl h0_rSet))), (q0_rRight, .inl (cI, n0_rRight, .inl h0_rRight))]) hP hD hS hA [0, 3, 4] [1, 2, 5, 6] [4, 0, 1, 5, 6, 2, 3] rfl rfl (by decide) (by decide) (fun _ => rfl) (by decide) (va_runV (As := []) (rest := []) ⟨hx, hb, hml, hown, hts⟩ (cm_X8_clausesFollow l D cI cL (q0 := q0) (q0_cYes := q0_cYes) (q0_cNo := q0_cNo) (n0_cYes := n0_cYes) (n0_cNo := n0_cNo) (f0_clauses := f0_clauses) (f0_taken := f0_taken) (f0_ones := f0_ones) (h0_cYes := h0_cYes) (h0_cNo := h0_cNo) (v0_thrown := v0_thrown) (v0_n := v0_n) (v0_equations := .int f0_equations) (v0_eSet := .ref q0_eSet) (v0_eRight := .ref q0_eRight) (v0_levels := v0_levels) (v0_levelEquations := v0_levelEquations) (v0_levelClauses := v0_levelClauses) (v0_tape := v0_tape) (v0_tapeSize := v0_tapeSize) (v0_faultIs := v0_faultIs) (v0_faultAt := v0_faultAt) (v0_at := v0_at) (v0_newEquations := v0_newEquations) (v0_newClauses := v0_newClauses) (v0_newSet := v0_newSet) (v0_newRight := v0_newRight) (v0_newYes := v0_newYes) (v0_newNo := v0_newNo) (v0_lineYes := v0_lineYes) (v0_lineNo := v0_lineNo) (v0_rowCount := .int f0_rowCount) (v0_rSet := .ref q0_rSet) (v0_rRight := .ref q0_rRight) (v0_isImpossible := .int (bI f0_isImpossible)) (v0_sumSet := v0_sumSet) (v0_sumOf := v0_sumOf) (v0_sumRight := v0_sumRight) (v0_empty := v0_empty) (v0_empties := v0_empties) (v0_waitTaken := v0_waitTaken) (v0_waitOnes := v0_waitOnes) (v0_nodeCount := v0_nodeCount) (v0_lastModel := v0_lastModel) (v0_modelCount := v0_modelCount) (v0_modelIs := v0_modelIs) (v0_gSet := v0_gSet) (v0_gateCount := v0_gateCount) (r0 := u_3) (hr0 := hu_4) (sz := H.size)) (cwV 0 hts gX8_allFollows_X8_clausesFollow rfl rfl rfl (by decide +kernel) ⟨Nat.le_of_ble_eq_true rfl, Nat.le_of_ble_eq_true rfl⟩) (kx_preV hEV hP hD [0, 3, 4] rfl (by decide) (k0 := 0) (ci := 8) rfl rfl rfl) rfl rfl hl.1 rfl (lv_room (Nat.le_of_ble_eq_true rfl)) dX8_allFollows_19 ⟨Nat.le_of_ble_eq_true rfl, Nat.le_of_ble_eq_true rfl⟩) (fun _ H locs _ hP hD hS => ?_)
          refine lv_if_ne (tgt := 27) hx hb dX8_allFollows_22 (by decide) (fun c_5 => ?_) (fun c_5 => ?_)
          · have k_6 : u_3.1 = true := (kx_nz c_5)
            have h := cw_t k_6 h
            refine lv_aload_n hx hb dX8_allFollows_27 rfl (lv_at hl 1 rfl) ?_
            refine lv_aload_n hx hb dX8_allFollows_28 rfl (lv_at hl 1 rfl) ?_
            refine va_get (D := D) (ci := 8) (v := .long u_3.2.1) (C := RX8) (T := TX8) (N := 43) hx hb hts in_X8_allFollows_X8 hown hK hP 0 rfl rfl 33 (by decide) lk_1 (fun _ h9 => h9) rfl dX8_allFollows_29 ?_
            refine lv_aload_n hx hb dX8_allFollows_32 rfl (lv_at hl 1 rfl) ?_
            refine va_get (D := D) (ci := 8) (v := .long u_3.2.2) (C := RX8) (T := TX8) (N := 43) hx hb hts in_X8_allFollows_X8 hown hK hP 0 rfl rfl 34 (by decide) lk_2 (fun _ h9 => h9) rfl dX8_allFollows_33 ?_
            refine lv_iconst (v := (1 : Int32)) hx hb dX8_allFollows_36 (by decide) ?_
            obtain ⟨u_7, hu_8, h⟩ := cw_b h
            refine kx_v (ws' := fun _ => [(q0, .inr (8, [v0_thrown, v0_n, .int f0_equations, .ref q0_eSet, .ref q0_eRight, .int f0_clauses, .ref q0_cYes, .ref q0_cNo, v0_levels, v0_levelEquations, v0_levelClauses, v0_tape, v0_tapeSize, v0_faultIs, v0_faultAt, v0_at, v0_newEquations, v0_newClauses, v0_newSet, v0_newRight, v0_newYes, v0_newNo, v0_lineYes, v0_lineNo, .int u_7.1, .ref q0_rSet, .ref q0_rRight, .int (bI u_7.2.1), v0_sumSet, v0_sumOf, v0_sumRight, v0_empty, v0_empties, .long u_3.2.1, .long u_3.2.2, v0_waitTaken, v0_waitOnes, v0_nodeCount, v0_lastModel, v0_modelCount, v0_modelIs, v0_gSet, v0_gateCount])), (q0_eSet, .inl (cL, n0_eSet, .inr (.inl h0_eSet))), (q0_eRight, .inl (cI, n0_eRight, .inl h0_eRight)), (q0_cYes, .inl (cL, n0_cYes, .inr (.inl h0_cYes))), (q0_cNo, .inl (cL, n0_cNo, .inr (.inl h0_cNo))), (q0_rSet, .inl (cL, n0_rSet, .inr (.inl u_7.2.2.1))), (q0_rRight, .inl (cI, n0_rRight, .inl u_7.2.2.2))]) hP hD hS hA [0, 1, 2, 5, 6] [3, 4] [2, 3, 4, 0, 1, 5, 6] rfl rfl (by decide) (by decide) (fun _ => rfl) (by decide) (va_runV (As := [.long u_3.2.1, .long u_3.2.2, .int (bI true)]) (rest := []) ⟨hx, hb, hml, hown, hts⟩ (cm_X8_makeRows l D cI cL (q0 := q0) (q0_eSet := q0_eSet) (q0_eRight := q0_eRight) (q0_rSet := q0_rSet) (q0_rRight := q0_rRight) (n0_eSet := n0_eSet) (n0_eRight := n0_eRight) (n0_rSet := n0_rSet) (n0_rRight := n0_rRight) (f0_equations := f0_equations) (f0_rowCount := f0_rowCount) (f0_isImpossible := f0_isImpossible) (h0_eSet := h0_eSet) (h0_eRight := h0_eRight) (h0_rSet := h0_rSet) (h0_rRight := h0_rRight) (v0_thrown := v0_thrown) (v0_n := v0_n) (v0_clauses := .int f0_clauses) (v0_cYes := .ref q0_cYes) (v0_cNo := .ref q0_cNo) (v0_levels := v0_levels) (v0_levelEquations := v0_levelEquations) (v0_levelClauses := v0_levelClauses) (v0_tape := v0_tape) (v0_tapeSize := v0_tapeSize) (v0_faultIs := v0_faultIs) (v0_faultAt := v0_faultAt) (v0_at := v0_at) (v0_newEquations := v0_newEquations) (v0_newClauses := v0_newClauses) (v0_newSet := v0_newSet) (v0_newRight := v0_newRight) (v0_newYes := v0_newYes) (v0_newNo := v0_newNo) (v0_lineYes := v0_lineYes) (v0_lineNo := v0_lineNo) (v0_sumSet := v0_sumSet) (v0_sumOf := v0_sumOf) (v0_sumRight := v0_sumRight) (v0_empty := v0_empty) (v0_empties := v0_empties) (v0_taken := .long u_3.2.1) (v0_ones := .long u_3.2.2) (v0_waitTaken := v0_waitTaken) (v0_waitOnes := v0_waitOnes) (v0_nodeCount := v0_nodeCount) (v0_lastModel := v0_lastModel) (v0_modelCount := v0_modelCount) (v0_modelIs := v0_modelIs) (v0_gSet := v0_gSet) (v0_gateCount := v0_gateCount) (x1 := u_3.2.1) (x3 := u_3.2.2) (x5 := true) (r0 := u_7) (hr0 := hu_8) (sz := H.size)) (cwV 3 hts gX8_allFollows_X8_makeRows rfl rfl rfl (by decide +kernel) ⟨Nat.le_of_ble_eq_true rfl, Nat.le_of_ble_eq_true rfl⟩) (kx_preV hEV hP hD [0, 1, 2, 5, 6] rfl (by decide) (k0 := 0) (ci := 8) rfl rfl rfl) rfl rfl hl.1 rfl (lv_room (Nat.le_of_ble_eq_true rfl)) dX8_allFollows_37 ⟨Nat.le_of_ble_eq_true rfl, Nat.le_of_ble_eq_true rfl⟩) (fun _ H locs _ hP hD hS => ?_)
            refine lv_aload_n hx hb dX8_allFollows_40 rfl (lv_at hl 1 rfl) ?_
            refine va_get (D := D) (ci := 8) (v := .int (bI u_7.2.1)) (C := RX8) (T := TX8) (N := 43) hx hb hts in_X8_allFollows_X8 hown hK hP 0 rfl rfl 27 (by decide) lk_3 (fun _ h9 => h9) rfl dX8_allFollows_41 ?_
            refine lv_if_eq (tgt := 49) hx hb dX8_allFollows_44 (by decide) (fun c_9 => ?_) (fun c_9 => ?_)
            · have k_10 : ¬ (u_7.2.1 = true) := (kx_z c_9)
              have h := cw_f k_10 h
              refine lv_iconst (v := (0 : Int32)) hx hb dX8_allFollows_49 (by decide) ?_
              refine lv_istore_n (lv' := [(3, .int (0 : Int32)), (1, .long f0_taken), (0, .ref q0)]) hx hb dX8_allFollows_50 rfl hl (by decide) rfl (fun ls hl => ?_)
              exact ih.2 _ _ _ _ _ _ _ _ h _ _ _ hP hD hS (lv_sub hl [2, 1, 0] rfl)
            · have k_10 : u_7.2.1 = true := (kx_nz c_9)
              have h := cw_t k_10 h
              refine lv_iconst (v := (0 : Int32)) hx hb dX8_allFollows_47 (by decide) ?_
              have h := Option.some.inj h
              subst h
              subst hQ
              exact W.zret (v := bI false) hx hb hr (bI_n false) (fun t ht hW => ⟨⟨bI false, (), rfl, ⟨rfl, trivial⟩, by rw [ht]; exact hP, hD⟩, hS.F ht⟩) hS.2.2 dX8_allFollows_48
          · have k_6 : ¬ (u_3.1 = true) := (kx_z c_5)
            have h := cw_f k_6 h
            refine lv_iconst (v := (0 : Int32)) hx hb dX8_allFollows_25 (by decide) ?_
            have h := Option.some.inj h
            subst h
            subst hQ
            exact W.zret (v := bI false) hx hb hr (bI_n false) (fun t ht hW => ⟨⟨bI false, (), rfl, ⟨rfl, trivial⟩, by rw [ht]; exact hP, hD⟩, hS.F ht⟩) hS.2.2 dX8_allFollows_26
      · intro x1 x3 f0_rowCount f0_isImpossible f0_taken f0_ones h0_rSet h0_rRight h H locs ls hP hD hS hl
        have h : run1 (iter (st_X8_allFollows f0_equations f0_clauses n0_eSet h0_eSet n0_eRight h0_eRight n0_cYes h0_cYes n0_cNo h0_cNo n0_rSet n0_rRight) n9) (b_X8_allFollows_51 f0_equations f0_clauses n0_eSet h0_eSet n0_eRight h0_eRight n0_cYes h0_cYes n0_cNo h0_cNo n0_rSet n0_rRight x1 x3 f0_rowCount f0_isImpossible f0_taken f0_ones h0_rSet h0_rRight) = some r0 := h
        unfold b_X8_allFollows_51 at h
        refine lv_iload_n hx hb dX8_allFollows_51 rfl (lv_at hl 2 rfl) ?_
        refine lv_aload_n hx hb dX8_allFollows_52 rfl (lv_at hl 0 rfl) ?_
        refine va_get (D := D) (ci := 8) (v := .int f0_rowCount) (C := RX8) (T := TX8) (N := 43) hx hb hts in_X8_allFollows_X8 hown hK hP 0 rfl rfl 24 (by decide) lk_4 (fun _ h9 => h9) rfl dX8_allFollows_53 ?_
        refine lv_icmp_ge (tgt := 110) hx hb dX8_allFollows_56 (by decide) (fun c_11 => ?_) (fun c_11 => ?_)
        · have k_12 : f0_rowCount ≤ x3 := c_11
          have h := cw_t k_12 h
          refine lv_goto (tgt := 4) hx hb dX8_allFollows_110 (by decide) ?_
          exact ih.1 _ _ _ _ _ _ _ h _ _ _ hP hD hS (lv_sub hl [0, 1] rfl)
        · have k_12 : ¬ (f0_rowCount ≤ x3) := c_11
          have h := cw_f k_12 h
          refine lv_aload_n hx hb dX8_allFollows_59 rfl (lv_at hl 0 rfl) ?_
          refine va_get (D := D) (ci := 8) (v := .ref q0_rSet) (C := RX8) (T := TX8) (N := 43) hx hb hts in_X8_allFollows_X8 hown hK hP 0 rfl rfl 25 (by decide) lk_5 (fun _ h9 => h9) rfl dX8_allFollows_60 ?_
          refine lv_iload_n hx hb dX8_allFollows_63 rfl (lv_at hl 2 rfl) ?_
          obtain ⟨b_13, h⟩ := cw_i h
          refine va_lald hx hb hK hP 5 1 rfl rfl b_13 dX8_allFollows_64 ?_
          obtain ⟨u_14, hu_15, h⟩ := cw_b h
          refine kx_l (ws' := fun _ => [(q0, .inr (8, [v0_thrown, v0_n, .int f0_equations, .ref q0_eSet, .ref q0_eRight, .int f0_clauses, .ref q0_cYes, .ref q0_cNo, v0_levels, v0_levelEquations, v0_levelClauses, v0_tape, v0_tapeSize, v0_faultIs, v0_faultAt, v0_at, v0_newEquations, v0_newClauses, v0_newSet, v0_newRight, v0_newYes, v0_newNo, v0_lineYes, v0_lineNo, .int f0_rowCount, .ref q0_rSet, .ref q0_rRight, .int (bI f0_isImpossible), v0_sumSet, v0_sumOf, v0_sumRight, v0_empty, v0_empties, .long f0_taken, .long f0_ones, v0_waitTaken, v0_waitOnes, v0_nodeCount, v0_lastModel, v0_modelCount, v0_modelIs, v0_gSet, v0_gateCount])), (q0_eSet, .inl (cL, n0_eSet, .inr (.inl h0_eSet))), (q0_eRight, .inl (cI, n0_eRight, .inl h0_eRight)), (q0_cYes, .inl (cL, n0_cYes, .inr (.inl h0_cYes))), (q0_cNo, .inl (cL, n0_cNo, .inr (.inl h0_cNo))), (q0_rSet, .inl (cL, n0_rSet, .inr (.inl h0_rSet))), (q0_rRight, .inl (cI, n0_rRight, .inl h0_rRight))]) hP hD hS hA [] [0, 1, 2, 3, 4, 5, 6] [0, 1, 2, 3, 4, 5, 6] rfl rfl (by decide) (by decide) (fun _ => rfl) (by decide) (va_runS (As := [.long (h0_rSet x3.toNatClampNeg)]) (rest := []) ⟨hx, hb, hml, hown, hts⟩ (cm_X8_lowest l D cI cL (x0 := h0_rSet x3.toNatClampNeg) (r0 := u_14) (hr0 := hu_15) (sz := H.size)) (va_cwS 1 hts gX8_allFollows_X8_lowest rfl rfl rfl (by decide +kernel) ⟨Nat.le_of_ble_eq_true rfl, Nat.le_of_ble_eq_true rfl⟩) (kx_preS hEV hP hD [] rfl (by decide)) rfl rfl hl.1 rfl (lv_room (Nat.le_of_ble_eq_true rfl)) dX8_allFollows_65 ⟨Nat.le_of_ble_eq_true rfl, Nat.le_of_ble_eq_true rfl⟩) (fun _ H locs _ hP hD hS => ?_)
          refine lv_aload_n hx hb dX8_allFollows_68 rfl (lv_at hl 0 rfl) ?_
          refine va_get (D := D) (ci := 8) (v := .ref q0_rSet) (C := RX8) (T := TX8) (N := 43) hx hb hts in_X8_allFollows_X8 hown hK hP 0 rfl rfl 25 (by decide) lk_5 (fun _ h9 => h9) rfl dX8_allFollows_69 ?_
          refine lv_iload_n hx hb dX8_allFollows_72 rfl (lv_at hl 2 rfl) ?_
          obtain ⟨b_16, h⟩ := cw_i h
          refine va_lald hx hb hK hP 5 1 rfl rfl b_16 dX8_allFollows_73 ?_
          refine W.lcmp hx hb dX8_allFollows_74 ?_
          refine lv_if_ne (tgt := 104) hx hb dX8_allFollows_75 (by decide) (fun c_17 => ?_) (fun c_17 => ?_)
          · have k_18 : ¬ (u_14 = (h0_rSet x3.toNatClampNeg)) := (fun z9 => c_17 ((lg_cmp_eq _ _).mpr z9))
            have h := cw_f k_18 h
            refine lv_iinc (v := x3 + (1 : Int32)) (lv' := [(3, .int (x3 + (1 : Int32))), (0, .ref q0), (1, .long x1)]) hx hb dX8_allFollows_104 hl (k := 2) rfl rfl (by decide) rfl (fun ls hl => ?_)
            refine lv_goto (tgt := 51) hx hb dX8_allFollows_107 (by decide) ?_
            exact ih.2 _ _ _ _ _ _ _ _ h _ _ _ hP hD hS (lv_sub hl [1, 2, 0] rfl)
          · have k_18 : u_14 = (h0_rSet x3.toNatClampNeg) := ((lg_cmp_eq _ _).mp c_17)
            have h := cw_t k_18 h
            refine lv_aload_n hx hb dX8_allFollows_78 rfl (lv_at hl 0 rfl) ?_
            refine lv_aload_n hx hb dX8_allFollows_79 rfl (lv_at hl 0 rfl) ?_
            refine va_get (D := D) (ci := 8) (v := .ref q0_rSet) (C := RX8) (T := TX8) (N := 43) hx hb hts in_X8_allFollows_X8 hown hK hP 0 rfl rfl 25 (by decide) lk_5 (fun _ h9 => h9) rfl dX8_allFollows_80 ?_
            refine lv_iload_n hx hb dX8_allFollows_83 rfl (lv_at hl 2 rfl) ?_
            obtain ⟨b_19, h⟩ := cw_i h
            refine va_lald hx hb hK hP 5 1 rfl rfl b_19 dX8_allFollows_84 ?_
            refine lv_aload_n hx hb dX8_allFollows_85 rfl (lv_at hl 0 rfl) ?_
            refine va_get (D := D) (ci := 8) (v := .ref q0_rRight) (C := RX8) (T := TX8) (N := 43) hx hb hts in_X8_allFollows_X8 hown hK hP 0 rfl rfl 26 (by decide) lk_6 (fun _ h9 => h9) rfl dX8_allFollows_86 ?_
            refine lv_iload_n hx hb dX8_allFollows_89 rfl (lv_at hl 2 rfl) ?_
            obtain ⟨b_20, h⟩ := cw_i h
            refine va_iald hx hb hK hP 6 0 rfl rfl b_20 dX8_allFollows_90 ?_
            refine lv_iconst (v := (1 : Int32)) hx hb dX8_allFollows_91 (by decide) ?_
            refine lv_icmp_ne (tgt := 99) hx hb dX8_allFollows_92 (by decide) (fun c_21 => ?_) (fun c_21 => ?_)
            · have k_22 : ¬ ((h0_rRight x3.toNatClampNeg) = (1 : Int32)) := c_21
              have h := cw_f k_22 h
              refine lv_iconst (v := (0 : Int32)) hx hb dX8_allFollows_99 (by decide) ?_
              obtain ⟨u_23, hu_24, h⟩ := cw_b h
              refine kx_i (ws' := fun _ => [(q0, .inr (8, [v0_thrown, v0_n, .int f0_equations, .ref q0_eSet, .ref q0_eRight, .int f0_clauses, .ref q0_cYes, .ref q0_cNo, v0_levels, v0_levelEquations, v0_levelClauses, v0_tape, v0_tapeSize, v0_faultIs, v0_faultAt, v0_at, v0_newEquations, v0_newClauses, v0_newSet, v0_newRight, v0_newYes, v0_newNo, v0_lineYes, v0_lineNo, .int f0_rowCount, .ref q0_rSet, .ref q0_rRight, .int (bI f0_isImpossible), v0_sumSet, v0_sumOf, v0_sumRight, v0_empty, v0_empties, .long u_23.2.1, .long u_23.2.2, v0_waitTaken, v0_waitOnes, v0_nodeCount, v0_lastModel, v0_modelCount, v0_modelIs, v0_gSet, v0_gateCount])), (q0_eSet, .inl (cL, n0_eSet, .inr (.inl h0_eSet))), (q0_eRight, .inl (cI, n0_eRight, .inl h0_eRight)), (q0_cYes, .inl (cL, n0_cYes, .inr (.inl h0_cYes))), (q0_cNo, .inl (cL, n0_cNo, .inr (.inl h0_cNo))), (q0_rSet, .inl (cL, n0_rSet, .inr (.inl h0_rSet))), (q0_rRight, .inl (cI, n0_rRight, .inl h0_rRight))]) hP hD hS hA [0] [1, 2, 3, 4, 5, 6] [6, 0, 1, 2, 3, 4, 5] rfl rfl (by decide) (by decide) (fun _ => rfl) (by decide) (va_runV (As := [.long (h0_rSet x3.toNatClampNeg), .int (bI false)]) (rest := []) ⟨hx, hb, hml, hown, hts⟩ (cm_X8_take l D cI cL (q0 := q0) (f0_taken := f0_taken) (f0_ones := f0_ones) (v0_thrown := v0_thrown) (v0_n := v0_n) (v0_equations := .int f0_equations) (v0_eSet := .ref q0_eSet) (v0_eRight := .ref q0_eRight) (v0_clauses := .int f0_clauses) (v0_cYes := .ref q0_cYes) (v0_cNo := .ref q0_cNo) (v0_levels := v0_levels) (v0_levelEquations := v0_levelEquations) (v0_levelClauses := v0_levelClauses) (v0_tape := v0_tape) (v0_tapeSize := v0_tapeSize) (v0_faultIs := v0_faultIs) (v0_faultAt := v0_faultAt) (v0_at := v0_at) (v0_newEquations := v0_newEquations) (v0_newClauses := v0_newClauses) (v0_newSet := v0_newSet) (v0_newRight := v0_newRight) (v0_newYes := v0_newYes) (v0_newNo := v0_newNo) (v0_lineYes := v0_lineYes) (v0_lineNo := v0_lineNo) (v0_rowCount := .int f0_rowCount) (v0_rSet := .ref q0_rSet) (v0_rRight := .ref q0_rRight) (v0_isImpossible := .int (bI f0_isImpossible)) (v0_sumSet := v0_sumSet) (v0_sumOf := v0_sumOf) (v0_sumRight := v0_sumRight) (v0_empty := v0_empty) (v0_empties := v0_empties) (v0_waitTaken := v0_waitTaken) (v0_waitOnes := v0_waitOnes) (v0_nodeCount := v0_nodeCount) (v0_lastModel := v0_lastModel) (v0_modelCount := v0_modelCount) (v0_modelIs := v0_modelIs) (v0_gSet := v0_gSet) (v0_gateCount := v0_gateCount) (x1 := h0_rSet x3.toNatClampNeg) (x3 := false) (r0 := u_23) (hr0 := hu_24) (sz := H.size)) (cwV 2 hts gX8_allFollows_X8_take rfl rfl rfl (by decide +kernel) ⟨Nat.le_of_ble_eq_true rfl, Nat.le_of_ble_eq_true rfl⟩) (kx_preV hEV hP hD [0] rfl (by decide) (k0 := 0) (ci := 8) rfl rfl rfl) rfl rfl hl.1 rfl (lv_room (Nat.le_of_ble_eq_true rfl)) dX8_allFollows_100 ⟨Nat.le_of_ble_eq_true rfl, Nat.le_of_ble_eq_true rfl⟩) (fun _ H locs _ hP hD hS => ?_)
              refine lv_pop hx hb dX8_allFollows_103 rfl ?_
              refine lv_iinc (v := x3 + (1 : Int32)) (lv' := [(3, .int (x3 + (1 : Int32))), (0, .ref q0), (1, .long x1)]) hx hb dX8_allFollows_104 hl (k := 2) rfl rfl (by decide) rfl (fun ls hl => ?_)
              refine lv_goto (tgt := 51) hx hb dX8_allFollows_107 (by decide) ?_
              exact ih.2 _ _ _ _ _ _ _ _ h _ _ _ hP hD hS (lv_sub hl [1, 2, 0] rfl)
            · have k_22 : (h0_rRight x3.toNatClampNeg) = (1 : Int32) := c_21
              have h := cw_t k_22 h
              refine lv_iconst (v := (1 : Int32)) hx hb dX8_allFollows_95 (by decide) ?_
              refine lv_goto (tgt := 100) hx hb dX8_allFollows_96 (by decide) ?_
              obtain ⟨u_25, hu_26, h⟩ := cw_b h
              refine kx_i (ws' := fun _ => [(q0, .inr (8, [v0_thrown, v0_n, .int f0_equations, .ref q0_eSet, .ref q0_eRight, .int f0_clauses, .ref q0_cYes, .ref q0_cNo, v0_levels, v0_levelEquations, v0_levelClauses, v0_tape, v0_tapeSize, v0_faultIs, v0_faultAt, v0_at, v0_newEquations, v0_newClauses, v0_newSet, v0_newRight, v0_newYes, v0_newNo, v0_lineYes, v0_lineNo, .int f0_rowCount, .ref q0_rSet, .ref q0_rRight, .int (bI f0_isImpossible), v0_sumSet, v0_sumOf, v0_sumRight, v0_empty, v0_empties, .long u_25.2.1, .long u_25.2.2, v0_waitTaken, v0_waitOnes, v0_nodeCount, v0_lastModel, v0_modelCount, v0_modelIs, v0_gSet, v0_gateCount])), (q0_eSet, .inl (cL, n0_eSet, .inr (.inl h0_eSet))), (q0_eRight, .inl (cI, n0_eRight, .inl h0_eRight)), (q0_cYes, .inl (cL, n0_cYes, .inr (.inl h0_cYes))), (q0_cNo, .inl (cL, n0_cNo, .inr (.inl h0_cNo))), (q0_rSet, .inl (cL, n0_rSet, .inr (.inl h0_rSet))), (q0_rRight, .inl (cI, n0_rRight, .inl h0_rRight))]) hP hD hS hA [0] [1, 2, 3, 4, 5, 6] [6, 0, 1, 2, 3, 4, 5] rfl rfl (by decide) (by decide) (fun _ => rfl) (by decide) (va_runV (As := [.long (h0_rSet x3.toNatClampNeg), .int (bI true)]) (rest := []) ⟨hx, hb, hml, hown, hts⟩ (cm_X8_take l D cI cL (q0 := q0) (f0_taken := f0_taken) (f0_ones := f0_ones) (v0_thrown := v0_thrown) (v0_n := v0_n) (v0_equations := .int f0_equations) (v0_eSet := .ref q0_eSet) (v0_eRight := .ref q0_eRight) (v0_clauses := .int f0_clauses) (v0_cYes := .ref q0_cYes) (v0_cNo := .ref q0_cNo) (v0_levels := v0_levels) (v0_levelEquations := v0_levelEquations) (v0_levelClauses := v0_levelClauses) (v0_tape := v0_tape) (v0_tapeSize := v0_tapeSize) (v0_faultIs := v0_faultIs) (v0_faultAt := v0_faultAt) (v0_at := v0_at) (v0_newEquations := v0_newEquations) (v0_newClauses := v0_newClauses) (v0_newSet := v0_newSet) (v0_newRight := v0_newRight) (v0_newYes := v0_newYes) (v0_newNo := v0_newNo) (v0_lineYes := v0_lineYes) (v0_lineNo := v0_lineNo) (v0_rowCount := .int f0_rowCount) (v0_rSet := .ref q0_rSet) (v0_rRight := .ref q0_rRight) (v0_isImpossible := .int (bI f0_isImpossible)) (v0_sumSet := v0_sumSet) (v0_sumOf := v0_sumOf) (v0_sumRight := v0_sumRight) (v0_empty := v0_empty) (v0_empties := v0_empties) (v0_waitTaken := v0_waitTaken) (v0_waitOnes := v0_waitOnes) (v0_nodeCount := v0_nodeCount) (v0_lastModel := v0_lastModel) (v0_modelCount := v0_modelCount) (v0_modelIs := v0_modelIs) (v0_gSet := v0_gSet) (v0_gateCount := v0_gateCount) (x1 := h0_rSet x3.toNatClampNeg) (x3 := true) (r0 := u_25) (hr0 := hu_26) (sz := H.size)) (cwV 2 hts gX8_allFollows_X8_take rfl rfl rfl (by decide +kernel) ⟨Nat.le_of_ble_eq_true rfl, Nat.le_of_ble_eq_true rfl⟩) (kx_preV hEV hP hD [0] rfl (by decide) (k0 := 0) (ci := 8) rfl rfl rfl) rfl rfl hl.1 rfl (lv_room (Nat.le_of_ble_eq_true rfl)) dX8_allFollows_100 ⟨Nat.le_of_ble_eq_true rfl, Nat.le_of_ble_eq_true rfl⟩) (fun _ H locs _ hP hD hS => ?_)
              refine lv_pop hx hb dX8_allFollows_103 rfl ?_
              refine lv_iinc (v := x3 + (1 : Int32)) (lv' := [(3, .int (x3 + (1 : Int32))), (0, .ref q0), (1, .long x1)]) hx hb dX8_allFollows_104 hl (k := 2) rfl rfl (by decide) rfl (fun ls hl => ?_)
              refine lv_goto (tgt := 51) hx hb dX8_allFollows_107 (by decide) ?_
              exact ih.2 _ _ _ _ _ _ _ _ h _ _ _ hP hD hS (lv_sub hl [1, 2, 0] rfl)
  have h := hr0
  unfold D_X8_allFollows at h
  refine lv_ldc2 hx hb hown lk_0 dX8_allFollows_0 ?_
  refine lv_lstore_n (lv' := [(1, .long (-1 : Int64)), (0, .ref q0)]) hx hb dX8_allFollows_3 rfl hl (by decide) rfl (fun ls hl => ?_)
  obtain ⟨n9, hn9⟩ := runw_some h
  exact (hloop n9).1 _ _ _ _ _ _ _ hn9 _ _ _ hP hD hS (lv_sub hl [1, 0] rfl)
