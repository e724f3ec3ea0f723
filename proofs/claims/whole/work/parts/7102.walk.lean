theorem in_X8_pop_X8 : ∀ w ∈ wsX80, w ∈ wsX8_pop := by decide +kernel
theorem lk_0_X8_pop : Cond.fieldLink RX8 108 "ParityClausesModel" "levels" "I" ∈ wsX8_pop := by decide +kernel
theorem lk_1_X8_pop : Cond.fieldLink RX8 98 "ParityClausesModel" "equations" "I" ∈ wsX8_pop := by decide +kernel
theorem lk_2_X8_pop : Cond.fieldLink RX8 105 "ParityClausesModel" "clauses" "I" ∈ wsX8_pop := by decide +kernel
theorem lk_3_X8_pop : Cond.fieldLink RX8 23 "ParityClausesModel" "levelEquations" "[I" ∈ wsX8_pop := by decide +kernel
theorem lk_4_X8_pop : Cond.fieldLink RX8 26 "ParityClausesModel" "levelClauses" "[I" ∈ wsX8_pop := by decide +kernel
abbrev rm_X8_pop : Room := { frames := 1, cells := 0, slots := 0, locals := 25 }
set_option maxHeartbeats 4000000 in
set_option maxRecDepth 100000 in
theorem cm_X8_pop (l : Launch) (D : va_G) (cI cL : ClassId) (q0 q0_levelEquations q0_levelClauses : Nat) (n0_levelEquations n0_levelClauses : Nat) (f0_thrown : Int32) (f0_equations : Int32) (f0_clauses : Int32) (f0_levels : Int32) (h0_levelEquations : Nat → Int32) (h0_levelClauses : Nat → Int32) (v0_n v0_eSet v0_eRight v0_cYes v0_cNo v0_tape v0_tapeSize v0_faultIs v0_faultAt v0_at v0_newEquations v0_newClauses v0_newSet v0_newRight v0_newYes v0_newNo v0_lineYes v0_lineNo v0_rowCount v0_rSet v0_rRight v0_isImpossible v0_sumSet v0_sumOf v0_sumRight v0_empty v0_empties v0_taken v0_ones v0_waitTaken v0_waitOnes v0_nodeCount v0_lastModel v0_modelCount v0_modelIs v0_gSet v0_gateCount : Value) (x1 : Int32) (r0 : Int32 × Int32 × Int32 × Int32 × Int32) (hr0 : D_X8_pop f0_thrown f0_equations f0_clauses f0_levels n0_levelEquations h0_levelEquations n0_levelClauses h0_levelClauses x1 = some r0) (sz : Nat) : Met l yX8_pop wsX8_pop rm_X8_pop (PcW D cI cL [.ref q0, .int x1] [(q0, .inr (8, [.int f0_thrown, v0_n, .int f0_equations, v0_eSet, v0_eRight, .int f0_clauses, v0_cYes, v0_cNo, .int f0_levels, .ref q0_levelEquations, .ref q0_levelClauses, v0_tape, v0_tapeSize, v0_faultIs, v0_faultAt, v0_at, v0_newEquations, v0_newClauses, v0_newSet, v0_newRight, v0_newYes, v0_newNo, v0_lineYes, v0_lineNo, v0_rowCount, v0_rSet, v0_rRight, v0_isImpossible, v0_sumSet, v0_sumOf, v0_sumRight, v0_empty, v0_empties, v0_taken, v0_ones, v0_waitTaken, v0_waitOnes, v0_nodeCount, v0_lastModel, v0_modelCount, v0_modelIs, v0_gSet, v0_gateCount])), (q0_levelEquations, .inl (cI, n0_levelEquations, .inl h0_levelEquations)), (q0_levelClauses, .inl (cI, n0_levelClauses, .inl h0_levelClauses))] sz) (QiW D [(q0, .inr (8, [.int f0_thrown, v0_n, .int f0_equations, v0_eSet, v0_eRight, .int f0_clauses, v0_cYes, v0_cNo, .int f0_levels, .ref q0_levelEquations, .ref q0_levelClauses, v0_tape, v0_tapeSize, v0_faultIs, v0_faultAt, v0_at, v0_newEquations, v0_newClauses, v0_newSet, v0_newRight, v0_newYes, v0_newNo, v0_lineYes, v0_lineNo, v0_rowCount, v0_rSet, v0_rRight, v0_isImpossible, v0_sumSet, v0_sumOf, v0_sumRight, v0_empty, v0_empties, v0_taken, v0_ones, v0_waitTaken, v0_waitOnes, v0_nodeCount, v0_lastModel, v0_modelCount, v0_modelIs, v0_gSet, v0_gateCount])), (q0_levelEquations, .inl (cI, n0_levelEquations, .inl h0_levelEquations)), (q0_levelClauses, .inl (cI, n0_levelClauses, .inl h0_levelClauses))] r0.1 (fun _ : Unit => [(q0, .inr (8, [.int r0.2.1, v0_n, .int r0.2.2.1, v0_eSet, v0_eRight, .int r0.2.2.2.1, v0_cYes, v0_cNo, .int r0.2.2.2.2, .ref q0_levelEquations, .ref q0_levelClauses, v0_tape, v0_tapeSize, v0_faultIs, v0_faultAt, v0_at, v0_newEquations, v0_newClauses, v0_newSet, v0_newRight, v0_newYes, v0_newNo, v0_lineYes, v0_lineNo, v0_rowCount, v0_rSet, v0_rRight, v0_isImpossible, v0_sumSet, v0_sumOf, v0_sumRight, v0_empty, v0_empties, v0_taken, v0_ones, v0_waitTaken, v0_waitOnes, v0_nodeCount, v0_lastModel, v0_modelCount, v0_modelIs, v0_gSet, v0_gateCount])), (q0_levelEquations, .inl (cI, n0_levelEquations, .inl h0_levelEquations)), (q0_levelClauses, .inl (cI, n0_levelClauses, .inl h0_levelClauses))]) tU sz) 0 0 (va_A [(q0, .inr (8, [.int f0_thrown, v0_n, .int f0_equations, v0_eSet, v0_eRight, .int f0_clauses, v0_cYes, v0_cNo, .int f0_levels, .ref q0_levelEquations, .ref q0_levelClauses, v0_tape, v0_tapeSize, v0_faultIs, v0_faultAt, v0_at, v0_newEquations, v0_newClauses, v0_newSet, v0_newRight, v0_newYes, v0_newNo, v0_lineYes, v0_lineNo, v0_rowCount, v0_rSet, v0_rRight, v0_isImpossible, v0_sumSet, v0_sumOf, v0_sumRight, v0_empty, v0_empties, v0_taken, v0_ones, v0_waitTaken, v0_waitOnes, v0_nodeCount, v0_lastModel, v0_modelCount, v0_modelIs, v0_gSet, v0_gateCount])), (q0_levelEquations, .inl (cI, n0_levelEquations, .inl h0_levelEquations)), (q0_levelClauses, .inl (cI, n0_levelClauses, .inl h0_levelClauses))] sz) := by
  refine Met.ofW (cc := cX8_pop) (maxL := 2) (ret := (some .int)) (by decide) rfl ?_
  intro p e s m args below meth c s₁ B hml hv
  obtain ⟨hargs, hsz, hP, hEV, hD0⟩ := hv
  have hx := B.exec
  have hb := B.bytes
  have hr := B.returns
  have hts := atoms_spec (ws := wsX8_pop) B.pre
  have hown : s.vm.findClass RX8 = some m.cls := findClass_of_methodNamed B.named
  have hlocks := B.notSynchronized
  have hK := hEV.K
  have lk_0 := hts _ lk_0_X8_pop
  have lk_1 := hts _ lk_1_X8_pop
  have lk_2 := hts _ lk_2_X8_pop
  have lk_3 := hts _ lk_3_X8_pop
  have lk_4 := hts _ lk_4_X8_pop
  subst hsz
  unfold QiW PoW
  have hD := hD0.self (sz := s.heap.size)
  generalize hAe : va_A [(q0, .inr (8, [.int f0_thrown, v0_n, .int f0_equations, v0_eSet, v0_eRight, .int f0_clauses, v0_cYes, v0_cNo, .int f0_levels, .ref q0_levelEquations, .ref q0_levelClauses, v0_tape, v0_tapeSize, v0_faultIs, v0_faultAt, v0_at, v0_newEquations, v0_newClauses, v0_newSet, v0_newRight, v0_newYes, v0_newNo, v0_lineYes, v0_lineNo, v0_rowCount, v0_rSet, v0_rRight, v0_isImpossible, v0_sumSet, v0_sumOf, v0_sumRight, v0_empty, v0_empties, v0_taken, v0_ones, v0_waitTaken, v0_waitOnes, v0_nodeCount, v0_lastModel, v0_modelCount, v0_modelIs, v0_gSet, v0_gateCount])), (q0_levelEquations, .inl (cI, n0_levelEquations, .inl h0_levelEquations)), (q0_levelClauses, .inl (cI, n0_levelClauses, .inl h0_levelClauses))] s.heap.size = A at hD ⊢
  have hA : ∀ q : Nat, s.heap.size ≤ q → A q := fun q h => by rw [← hAe]; exact Or.inr h
  have hent : entryFrame m args 2 = entryFrame m ([.ref q0, .int x1] : List Value).toArray 2 := by rw [hargs]
  rw [hent]
  refine kx_Q (fun Q hQ => ?_)
  refine kx_H (fun H hH => ?_)
  have hP : va_P D vwCl [(q0, .inr (8, [.int f0_thrown, v0_n, .int f0_equations, v0_eSet, v0_eRight, .int f0_clauses, v0_cYes, v0_cNo, .int f0_levels, .ref q0_levelEquations, .ref q0_levelClauses, v0_tape, v0_tapeSize, v0_faultIs, v0_faultAt, v0_at, v0_newEquations, v0_newClauses, v0_newSet, v0_newRight, v0_newYes, v0_newNo, v0_lineYes, v0_lineNo, v0_rowCount, v0_rSet, v0_rRight, v0_isImpossible, v0_sumSet, v0_sumOf, v0_sumRight, v0_empty, v0_empties, v0_taken, v0_ones, v0_waitTaken, v0_waitOnes, v0_nodeCount, v0_lastModel, v0_modelCount, v0_modelIs, v0_gSet, v0_gateCount])), (q0_levelEquations, .inl (cI, n0_levelEquations, .inl h0_levelEquations)), (q0_levelClauses, .inl (cI, n0_levelClauses, .inl h0_levelClauses))] H := by rw [hH]; exact hP
  have hS : va_S A s.heap H [] := by rw [hH]; exact va_S.rf
  have hl := lv_entry ([.ref q0, .int x1]) (n := 2) (Nat.le_of_ble_eq_true rfl)
  rw [lg_entry_eq]
  generalize (lg_sl ([.ref q0, .int x1]) ++ List.replicate (2 - (lg_sl ([.ref q0, .int x1])).length) Slot.unset).toArray = ls at hl ⊢
  have hl : lv_has ls 2 [(0, .ref q0), (1, .int x1)] := hl
  have h := hr0
  unfold D_X8_pop at h
  refine lv_aload_n hx hb dX8_pop_0 rfl (lv_at hl 0 rfl) ?_
  refine lv_iload_n hx hb dX8_pop_1 rfl (lv_at hl 1 rfl) ?_
  refine lv_i2l (v := x1.toInt64) hx hb dX8_pop_2 rfl ?_
  refine lv_lconst (v := (0 : Int64)) hx hb dX8_pop_3 (by decide) ?_
  refine lv_aload_n hx hb dX8_pop_4 rfl (lv_at hl 0 rfl) ?_
  refine va_get (D := D) (ci := 8) (v := .int f0_levels) (C := RX8) (T := TX8) (N := 43) hx hb hts in_X8_pop_X8 hown hK hP 0 rfl rfl 8 (by decide) lk_0 (fun _ h9 => h9) rfl dX8_pop_5 ?_
  refine lv_i2l (v := f0_levels.toInt64) hx hb dX8_pop_8 rfl ?_
  obtain ⟨u_1, hu_2, h⟩ := co_b h
  refine kx_i (ws' := fun _ => [(q0, .inr (8, [.int f0_thrown, v0_n, .int f0_equations, v0_eSet, v0_eRight, .int f0_clauses, v0_cYes, v0_cNo, .int f0_levels, .ref q0_levelEquations, .ref q0_levelClauses, v0_tape, v0_tapeSize, v0_faultIs, v0_faultAt, v0_at, v0_newEquations, v0_newClauses, v0_newSet, v0_newRight, v0_newYes, v0_newNo, v0_lineYes, v0_lineNo, v0_rowCount, v0_rSet, v0_rRight, v0_isImpossible, v0_sumSet, v0_sumOf, v0_sumRight, v0_empty, v0_empties, v0_taken, v0_ones, v0_waitTaken, v0_waitOnes, v0_nodeCount, v0_lastModel, v0_modelCount, v0_modelIs, v0_gSet, v0_gateCount])), (q0_levelEquations, .inl (cI, n0_levelEquations, .inl h0_levelEquations)), (q0_levelClauses, .inl (cI, n0_levelClauses, .inl h0_levelClauses))]) hP hD hS hA [] [0, 1, 2] [0, 1, 2] rfl rfl (by decide) (by decide) (fun _ => rfl) (by decide) (va_runS (As := [.long x1.toInt64, .long (0 : Int64), .long f0_levels.toInt64]) (rest := [.ref q0]) ⟨hx, hb, hml, hown, hts⟩ (cm_X8_isIn l D cI cL (x0 := x1.toInt64) (x2 := (0 : Int64)) (x4 := f0_levels.toInt64) (r0 := u_1) (hr0 := hu_2) (sz := H.size)) (va_cwS 3 hts gX8_pop_X8_isIn rfl rfl rfl (by decide +kernel) ⟨Nat.le_of_ble_eq_true rfl, Nat.le_of_ble_eq_true rfl⟩) (kx_preS hEV hP hD [] rfl (by decide)) rfl rfl hl.1 rfl (lv_room (Nat.le_of_ble_eq_true rfl)) dX8_pop_9 ⟨Nat.le_of_ble_eq_true rfl, Nat.le_of_ble_eq_true rfl⟩) (fun _ H locs _ hP hD hS => ?_)
  refine lv_iconst (v := (1 : Int32)) hx hb dX8_pop_12 (by decide) ?_
  obtain ⟨u_3, hu_4, h⟩ := co_b h
  refine kx_i (ws' := fun _ => [(q0, .inr (8, [.int u_3.2, v0_n, .int f0_equations, v0_eSet, v0_eRight, .int f0_clauses, v0_cYes, v0_cNo, .int f0_levels, .ref q0_levelEquations, .ref q0_levelClauses, v0_tape, v0_tapeSize, v0_faultIs, v0_faultAt, v0_at, v0_newEquations, v0_newClauses, v0_newSet, v0_newRight, v0_newYes, v0_newNo, v0_lineYes, v0_lineNo, v0_rowCount, v0_rSet, v0_rRight, v0_isImpossible, v0_sumSet, v0_sumOf, v0_sumRight, v0_empty, v0_empties, v0_taken, v0_ones, v0_waitTaken, v0_waitOnes, v0_nodeCount, v0_lastModel, v0_modelCount, v0_modelIs, v0_gSet, v0_gateCount])), (q0_levelEquations, .inl (cI, n0_levelEquations, .inl h0_levelEquations)), (q0_levelClauses, .inl (cI, n0_levelClauses, .inl h0_levelClauses))]) hP hD hS hA [0] [1, 2] [2, 0, 1] rfl rfl (by decide) (by decide) (fun _ => rfl) (by decide) (va_runV (As := [.int (bI u_1), .int (bI true)]) (rest := []) ⟨hx, hb, hml, hown, hts⟩ (cm_X8_may l D cI cL (q0 := q0) (f0_thrown := f0_thrown) (v0_n := v0_n) (v0_equations := .int f0_equations) (v0_eSet := v0_eSet) (v0_eRight := v0_eRight) (v0_clauses := .int f0_clauses) (v0_cYes := v0_cYes) (v0_cNo := v0_cNo) (v0_levels := .int f0_levels) (v0_levelEquations := .ref q0_levelEquations) (v0_levelClauses := .ref q0_levelClauses) (v0_tape := v0_tape) (v0_tapeSize := v0_tapeSize) (v0_faultIs := v0_faultIs) (v0_faultAt := v0_faultAt) (v0_at := v0_at) (v0_newEquations := v0_newEquations) (v0_newClauses := v0_newClauses) (v0_newSet := v0_newSet) (v0_newRight := v0_newRight) (v0_newYes := v0_newYes) (v0_newNo := v0_newNo) (v0_lineYes := v0_lineYes) (v0_lineNo := v0_lineNo) (v0_rowCount := v0_rowCount) (v0_rSet := v0_rSet) (v0_rRight := v0_rRight) (v0_isImpossible := v0_isImpossible) (v0_sumSet := v0_sumSet) (v0_sumOf := v0_sumOf) (v0_sumRight := v0_sumRight) (v0_empty := v0_empty) (v0_empties := v0_empties) (v0_taken := v0_taken) (v0_ones := v0_ones) (v0_waitTaken := v0_waitTaken) (v0_waitOnes := v0_waitOnes) (v0_nodeCount := v0_nodeCount) (v0_lastModel := v0_lastModel) (v0_modelCount := v0_modelCount) (v0_modelIs := v0_modelIs) (v0_gSet := v0_gSet) (v0_gateCount := v0_gateCount) (x1 := u_1) (x2 := true) (r0 := u_3) (hr0 := hu_4) (sz := H.size)) (cwV 2 hts gX8_pop_X8_may rfl rfl rfl (by decide +kernel) ⟨Nat.le_of_ble_eq_true rfl, Nat.le_of_ble_eq_true rfl⟩) (kx_preV hEV hP hD [0] rfl (by decide) (k0 := 0) (ci := 8) rfl rfl rfl) rfl rfl hl.1 rfl (lv_room (Nat.le_of_ble_eq_true rfl)) dX8_pop_13 ⟨Nat.le_of_ble_eq_true rfl, Nat.le_of_ble_eq_true rfl⟩) (fun _ H locs _ hP hD hS => ?_)
  refine lv_if_ne (tgt := 21) hx hb dX8_pop_16 (by decide) (fun c_5 => ?_) (fun c_5 => ?_)
  · have k_6 : u_3.1 = true := (kx_nz c_5)
    have h := co_t k_6 h
    refine lv_aload_n hx hb dX8_pop_21 rfl (lv_at hl 0 rfl) ?_
    refine lv_dup hx hb dX8_pop_22 rfl ?_
    refine va_get (D := D) (ci := 8) (v := .int f0_levels) (C := RX8) (T := TX8) (N := 43) hx hb hts in_X8_pop_X8 hown hK hP 0 rfl rfl 8 (by decide) lk_0 (fun _ h9 => h9) rfl dX8_pop_23 ?_
    refine lv_iload_n hx hb dX8_pop_26 rfl (lv_at hl 1 rfl) ?_
    refine lv_isub hx hb dX8_pop_27 ?_
    refine va_put (D := D) (ci := 8) (v := .int (f0_levels - x1)) (ty := .int) (C := RX8) (T := TX8) (N := 43) hx hb hts in_X8_pop_X8 tyX8 tyX8_ok nmX8 hown hK hP hD hS 0 rfl rfl 8 (by decide) lk_0 (fun _ h9 => h9) rfl (by decide +kernel) rfl rfl (Nat.le_of_ble_eq_true rfl) dX8_pop_28 (fun H locs hP hD hS => ?_)
    have hP : va_P D vwCl [(q0, .inr (8, [.int u_3.2, v0_n, .int f0_equations, v0_eSet, v0_eRight, .int f0_clauses, v0_cYes, v0_cNo, .int (f0_levels - x1), .ref q0_levelEquations, .ref q0_levelClauses, v0_tape, v0_tapeSize, v0_faultIs, v0_faultAt, v0_at, v0_newEquations, v0_newClauses, v0_newSet, v0_newRight, v0_newYes, v0_newNo, v0_lineYes, v0_lineNo, v0_rowCount, v0_rSet, v0_rRight, v0_isImpossible, v0_sumSet, v0_sumOf, v0_sumRight, v0_empty, v0_empties, v0_taken, v0_ones, v0_waitTaken, v0_waitOnes, v0_nodeCount, v0_lastModel, v0_modelCount, v0_modelIs, v0_gSet, v0_gateCount])), (q0_levelEquations, .inl (cI, n0_levelEquations, .inl h0_levelEquations)), (q0_levelClauses, .inl (cI, n0_levelClauses, .inl h0_levelClauses))] H := hP
    have hD : va_D A [(q0, .inr (8, [.int u_3.2, v0_n, .int f0_equations, v0_eSet, v0_eRight, .int f0_clauses, v0_cYes, v0_cNo, .int (f0_levels - x1), .ref q0_levelEquations, .ref q0_levelClauses, v0_tape, v0_tapeSize, v0_faultIs, v0_faultAt, v0_at, v0_newEquations, v0_newClauses, v0_newSet, v0_newRight, v0_newYes, v0_newNo, v0_lineYes, v0_lineNo, v0_rowCount, v0_rSet, v0_rRight, v0_isImpossible, v0_sumSet, v0_sumOf, v0_sumRight, v0_empty, v0_empties, v0_taken, v0_ones, v0_waitTaken, v0_waitOnes, v0_nodeCount, v0_lastModel, v0_modelCount, v0_modelIs, v0_gSet, v0_gateCount])), (q0_levelEquations, .inl (cI, n0_levelEquations, .inl h0_levelEquations)), (q0_levelClauses, .inl (cI, n0_levelClauses, .inl h0_levelClauses))] := hD
    refine lv_iload_n hx hb dX8_pop_31 rfl (lv_at hl 1 rfl) ?_
    refine lv_if_le (tgt := 61) hx hb dX8_pop_32 (by decide) (fun c_7 => ?_) (fun c_7 => ?_)
    · have k_8 : x1 ≤ 0 := c_7
      have h := co_t k_8 h
      refine lv_aload_n hx hb dX8_pop_61 rfl (lv_at hl 0 rfl) ?_
      refine va_get (D := D) (ci := 8) (v := .int f0_equations) (C := RX8) (T := TX8) (N := 43) hx hb hts in_X8_pop_X8 hown hK hP 0 rfl rfl 2 (by decide) lk_1 (fun _ h9 => h9) rfl dX8_pop_62 ?_
      refine lv_aload_n hx hb dX8_pop_65 rfl (lv_at hl 0 rfl) ?_
      refine va_get (D := D) (ci := 8) (v := .int f0_clauses) (C := RX8) (T := TX8) (N := 43) hx hb hts in_X8_pop_X8 hown hK hP 0 rfl rfl 5 (by decide) lk_2 (fun _ h9 => h9) rfl dX8_pop_66 ?_
      refine lv_iadd hx hb dX8_pop_69 ?_
      have h := Option.some.inj h
      subst h
      subst hQ
      exact W.iret (v := f0_equations + f0_clauses) hx hb hr (fun t ht hW => ⟨⟨f0_equations + f0_clauses, (), rfl, ⟨rfl, trivial⟩, by rw [ht]; exact hP, hD⟩, hS.F ht⟩) hS.2.2 dX8_pop_70
    · have k_8 : ¬ (x1 ≤ 0) := c_7
      have h := co_f k_8 h
      refine lv_aload_n hx hb dX8_pop_35 rfl (lv_at hl 0 rfl) ?_
      refine lv_aload_n hx hb dX8_pop_36 rfl (lv_at hl 0 rfl) ?_
      refine va_get (D := D) (ci := 8) (v := .ref q0_levelEquations) (C := RX8) (T := TX8) (N := 43) hx hb hts in_X8_pop_X8 hown hK hP 0 rfl rfl 9 (by decide) lk_3 (fun _ h9 => h9) rfl dX8_pop_37 ?_
      refine lv_aload_n hx hb dX8_pop_40 rfl (lv_at hl 0 rfl) ?_
      refine va_get (D := D) (ci := 8) (v := .int (f0_levels - x1)) (C := RX8) (T := TX8) (N := 43) hx hb hts in_X8_pop_X8 hown hK hP 0 rfl rfl 8 (by decide) lk_0 (fun _ h9 => h9) rfl dX8_pop_41 ?_
      obtain ⟨b_9, h⟩ := co_i h
      refine va_iald hx hb hK hP 1 0 rfl rfl b_9 dX8_pop_44 ?_
      refine va_put (D := D) (ci := 8) (v := .int (h0_levelEquations (f0_levels - x1).toNatClampNeg)) (ty := .int) (C := RX8) (T := TX8) (N := 43) hx hb hts in_X8_pop_X8 tyX8 tyX8_ok nmX8 hown hK hP hD hS 0 rfl rfl 2 (by decide) lk_1 (fun _ h9 => h9) rfl (by decide +kernel) rfl rfl (Nat.le_of_ble_eq_true rfl) dX8_pop_45 (fun H locs hP hD hS => ?_)
      have hP : va_P D vwCl [(q0, .inr (8, [.int u_3.2, v0_n, .int (h0_levelEquations (f0_levels - x1).toNatClampNeg), v0_eSet, v0_eRight, .int f0_clauses, v0_cYes, v0_cNo, .int (f0_levels - x1), .ref q0_levelEquations, .ref q0_levelClauses, v0_tape, v0_tapeSize, v0_faultIs, v0_faultAt, v0_at, v0_newEquations, v0_newClauses, v0_newSet, v0_newRight, v0_newYes, v0_newNo, v0_lineYes, v0_lineNo, v0_rowCount, v0_rSet, v0_rRight, v0_isImpossible, v0_sumSet, v0_sumOf, v0_sumRight, v0_empty, v0_empties, v0_taken, v0_ones, v0_waitTaken, v0_waitOnes, v0_nodeCount, v0_lastModel, v0_modelCount, v0_modelIs, v0_gSet, v0_gateCount])), (q0_levelEquations, .inl (cI, n0_levelEquations, .inl h0_levelEquations)), (q0_levelClauses, .inl (cI, n0_levelClauses, .inl h0_levelClauses))] H := hP
      have hD : va_D A [(q0, .inr (8, [.int u_3.2, v0_n, .int (h0_levelEquations (f0_levels - x1).toNatClampNeg), v0_eSet, v0_eRight, .int f0_clauses, v0_cYes, v0_cNo, .int (f0_levels - x1), .ref q0_levelEquations, .ref q0_levelClauses, v0_tape, v0_tapeSize, v0_faultIs, v0_faultAt, v0_at, v0_newEquations, v0_newClauses, v0_newSet, v0_newRight, v0_newYes, v0_newNo, v0_lineYes, v0_lineNo, v0_rowCount, v0_rSet, v0_rRight, v0_isImpossible, v0_sumSet, v0_sumOf, v0_sumRight, v0_empty, v0_empties, v0_taken, v0_ones, v0_waitTaken, v0_waitOnes, v0_nodeCount, v0_lastModel, v0_modelCount, v0_modelIs, v0_gSet, v0_gateCount])), (q0_levelEquations, .inl (cI, n0_levelEquations, .inl h0_levelEquations)), (q0_levelClauses, .inl (cI, n0_levelClauses, .inl h0_levelClauses))] := hD
      refine lv_aload_n hx hb dX8_pop_48 rfl (lv_at hl 0 rfl) ?_
      refine lv_aload_n hx hb dX8_pop_49 rfl (lv_at hl 0 rfl) ?_
      refine va_get (D := D) (ci := 8) (v := .ref q0_levelClauses) (C := RX8) (T := TX8) (N := 43) hx hb hts in_X8_pop_X8 hown hK hP 0 rfl rfl 10 (by decide) lk_4 (fun _ h9 => h9) rfl dX8_pop_50 ?_
      refine lv_aload_n hx hb dX8_pop_53 rfl (lv_at hl 0 rfl) ?_
      refine va_get (D := D) (ci := 8) (v := .int (f0_levels - x1)) (C := RX8) (T := TX8) (N := 43) hx hb hts in_X8_pop_X8 hown hK hP 0 rfl rfl 8 (by decide) lk_0 (fun _ h9 => h9) rfl dX8_pop_54 ?_
      obtain ⟨b_10, h⟩ := co_i h
      refine va_iald hx hb hK hP 2 0 rfl rfl b_10 dX8_pop_57 ?_
      refine va_put (D := D) (ci := 8) (v := .int (h0_levelClauses (f0_levels - x1).toNatClampNeg)) (ty := .int) (C := RX8) (T := TX8) (N := 43) hx hb hts in_X8_pop_X8 tyX8 tyX8_ok nmX8 hown hK hP hD hS 0 rfl rfl 5 (by decide) lk_2 (fun _ h9 => h9) rfl (by decide +kernel) rfl rfl (Nat.le_of_ble_eq_true rfl) dX8_pop_58 (fun H locs hP hD hS => ?_)
      have hP : va_P D vwCl [(q0, .inr (8, [.int u_3.2, v0_n, .int (h0_levelEquations (f0_levels - x1).toNatClampNeg), v0_eSet, v0_eRight, .int (h0_levelClauses (f0_levels - x1).toNatClampNeg), v0_cYes, v0_cNo, .int (f0_levels - x1), .ref q0_levelEquations, .ref q0_levelClauses, v0_tape, v0_tapeSize, v0_faultIs, v0_faultAt, v0_at, v0_newEquations, v0_newClauses, v0_newSet, v0_newRight, v0_newYes, v0_newNo, v0_lineYes, v0_lineNo, v0_rowCount, v0_rSet, v0_rRight, v0_isImpossible, v0_sumSet, v0_sumOf, v0_sumRight, v0_empty, v0_empties, v0_taken, v0_ones, v0_waitTaken, v0_waitOnes, v0_nodeCount, v0_lastModel, v0_modelCount, v0_modelIs, v0_gSet, v0_gateCount])), (q0_levelEquations, .inl (cI, n0_levelEquations, .inl h0_levelEquations)), (q0_levelClauses, .inl (cI, n0_levelClauses, .inl h0_levelClauses))] H := hP
      have hD : va_D A [(q0, .inr (8, [.int u_3.2, v0_n, .int (h0_levelEquations (f0_levels - x1).toNatClampNeg), v0_eSet, v0_eRight, .int (h0_levelClauses (f0_levels - x1).toNatClampNeg), v0_cYes, v0_cNo, .int (f0_levels - x1), .ref q0_levelEquations, .ref q0_levelClauses, v0_tape, v0_tapeSize, v0_faultIs, v0_faultAt, v0_at, v0_newEquations, v0_newClauses, v0_newSet, v0_newRight, v0_newYes, v0_newNo, v0_lineYes, v0_lineNo, v0_rowCount, v0_rSet, v0_rRight, v0_isImpossible, v0_sumSet, v0_sumOf, v0_sumRight, v0_empty, v0_empties, v0_taken, v0_ones, v0_waitTaken, v0_waitOnes, v0_nodeCount, v0_lastModel, v0_modelCount, v0_modelIs, v0_gSet, v0_gateCount])), (q0_levelEquations, .inl (cI, n0_levelEquations, .inl h0_levelEquations)), (q0_levelClauses, .inl (cI, n0_levelClauses, .inl h0_levelClauses))] := hD
      refine lv_aload_n hx hb dX8_pop_61 rfl (lv_at hl 0 rfl) ?_
      refine va_get (D := D) (ci := 8) (v := .int (h0_levelEquations (f0_levels - x1).toNatClampNeg)) (C := RX8) (T := TX8) (N := 43) hx hb hts in_X8_pop_X8 hown hK hP 0 rfl rfl 2 (by decide) lk_1 (fun _ h9 => h9) rfl dX8_pop_62 ?_
      refine lv_aload_n hx hb dX8_pop_65 rfl (lv_at hl 0 rfl) ?_
      refine va_get (D := D) (ci := 8) (v := .int (h0_levelClauses (f0_levels - x1).toNatClampNeg)) (C := RX8) (T := TX8) (N := 43) hx hb hts in_X8_pop_X8 hown hK hP 0 rfl rfl 5 (by decide) lk_2 (fun _ h9 => h9) rfl dX8_pop_66 ?_
      refine lv_iadd hx hb dX8_pop_69 ?_
      have h := Option.some.inj h
      subst h
      subst hQ
      exact W.iret (v := (h0_levelEquations (f0_levels - x1).toNatClampNeg) + (h0_levelClauses (f0_levels - x1).toNatClampNeg)) hx hb hr (fun t ht hW => ⟨⟨(h0_levelEquations (f0_levels - x1).toNatClampNeg) + (h0_levelClauses (f0_levels - x1).toNatClampNeg), (), rfl, ⟨rfl, trivial⟩, by rw [ht]; exact hP, hD⟩, hS.F ht⟩) hS.2.2 dX8_pop_70
  · have k_6 : ¬ (u_3.1 = true) := (kx_z c_5)
    have h := co_f k_6 h
    refine lv_iconst (v := (0 : Int32)) hx hb dX8_pop_19 (by decide) ?_
    have h := Option.some.inj h
    subst h
    subst hQ
    exact W.iret (v := (0 : Int32)) hx hb hr (fun t ht hW => ⟨⟨(0 : Int32), (), rfl, ⟨rfl, trivial⟩, by rw [ht]; exact hP, hD⟩, hS.F ht⟩) hS.2.2 dX8_pop_20
theorem in_X8_told_X8 : ∀ w ∈ wsX80, w ∈ wsX8_told := by decide +kernel
theorem lk_0_X8_told : Cond.constantLong RX8 111 (3) ∈ wsX8_told := by decide +kernel
theorem lk_1_X8_told : Cond.fieldLink RX8 20 "ParityClausesModel" "cNo" "[J" ∈ wsX8_told := by decide +kernel
theorem lk_2_X8_told : Cond.fieldLink RX8 17 "ParityClausesModel" "cYes" "[J" ∈ wsX8_told := by decide +kernel
theorem lk_3_X8_told : Cond.fieldLink RX8 13 "ParityClausesModel" "eRight" "[I" ∈ wsX8_told := by decide +kernel
theorem lk_4_X8_told : Cond.fieldLink RX8 7 "ParityClausesModel" "eSet" "[J" ∈ wsX8_told := by decide +kernel
theorem lk_5_X8_told : Cond.fieldLink RX8 105 "ParityClausesModel" "clauses" "I" ∈ wsX8_told := by decide +kernel
theorem lk_6_X8_told : Cond.fieldLink RX8 98 "ParityClausesModel" "equations" "I" ∈ wsX8_told := by decide +kernel
abbrev rm_X8_told : Room := { frames := 1, cells := 0, slots := 0, locals := 25 }
set_option maxHeartbeats 4000000 in
set_option maxRecDepth 100000 in
theorem cm_X8_told (l : Launch) (D : va_G) (cI cL : ClassId) (q0 q0_eSet q0_eRight q0_cYes q0_cNo : Nat) (n0_eSet n0_eRight n0_cYes n0_cNo : Nat) (f0_thrown : Int32) (f0_equations : Int32) (f0_clauses : Int32) (h0_eSet : Nat → Int64) (h0_eRight : Nat → Int32) (h0_cYes : Nat → Int64) (h0_cNo : Nat → Int64) (v0_n v0_levels v0_levelEquations v0_levelClauses v0_tape v0_tapeSize v0_faultIs v0_faultAt v0_at v0_newEquations v0_newClauses v0_newSet v0_newRight v0_newYes v0_newNo v0_lineYes v0_lineNo v0_rowCount v0_rSet v0_rRight v0_isImpossible v0_sumSet v0_sumOf v0_sumRight v0_empty v0_empties v0_taken v0_ones v0_waitTaken v0_waitOnes v0_nodeCount v0_lastModel v0_modelCount v0_modelIs v0_gSet v0_gateCount : Value) (x1 : Int32) (x2 : Int32) (r0 : Int64 × Int32) (hr0 : D_X8_told f0_thrown f0_equations f0_clauses n0_eSet h0_eSet n0_eRight h0_eRight n0_cYes h0_cYes n0_cNo h0_cNo x1 x2 = some r0) (sz : Nat) : Met l yX8_told wsX8_told rm_X8_told (PcW D cI cL [.ref q0, .int x1, .int x2] [(q0, .inr (8, [.int f0_thrown, v0_n, .int f0_equations, .ref q0_eSet, .ref q0_eRight, .int f0_clauses, .ref q0_cYes, .ref q0_cNo, v0_levels, v0_levelEquations, v0_levelClauses, v0_tape, v0_tapeSize, v0_faultIs, v0_faultAt, v0_at, v0_newEquations, v0_newClauses, v0_newSet, v0_newRight, v0_newYes, v0_newNo, v0_lineYes, v0_lineNo, v0_rowCount, v0_rSet, v0_rRight, v0_isImpossible, v0_sumSet, v0_sumOf, v0_sumRight, v0_empty, v0_empties, v0_taken, v0_ones, v0_waitTaken, v0_waitOnes, v0_nodeCount, v0_lastModel, v0_modelCount, v0_modelIs, v0_gSet, v0_gateCount])), (q0_eSet, .inl (cL, n0_eSet, .inr (.inl h0_eSet))), (q0_eRight, .inl (cI, n0_eRight, .inl h0_eRight)), (q0_cYes, .inl (cL, n0_cYes, .inr (.inl h0_cYes))), (q0_cNo, .inl (cL, n0_cNo, .inr (.inl h0_cNo)))] sz) (QlW D [(q0, .inr (8, [.int f0_thrown, v0_n, .int f0_equations, .ref q0_eSet, .ref q0_eRight, .int f0_clauses, .ref q0_cYes, .ref q0_cNo, v0_levels, v0_levelEquations, v0_levelClauses, v0_tape, v0_tapeSize, v0_faultIs, v0_faultAt, v0_at, v0_newEquations, v0_newClauses, v0_newSet, v0_newRight, v0_newYes, v0_newNo, v0_lineYes, v0_lineNo, v0_rowCount, v0_rSet, v0_rRight, v0_isImpossible, v0_sumSet, v0_sumOf, v0_sumRight, v0_empty, v0_empties, v0_taken, v0_ones, v0_waitTaken, v0_waitOnes, v0_nodeCount, v0_lastModel, v0_modelCount, v0_modelIs, v0_gSet, v0_gateCount])), (q0_eSet, .inl (cL, n0_eSet, .inr (.inl h0_eSet))), (q0_eRight, .inl (cI, n0_eRight, .inl h0_eRight)), (q0_cYes, .inl (cL, n0_cYes, .inr (.inl h0_cYes))), (q0_cNo, .inl (cL, n0_cNo, .inr (.inl h0_cNo)))] r0.1 (fun _ : Unit => [(q0, .inr (8, [.int r0.2, v0_n, .int f0_equations, .ref q0_eSet, .ref q0_eRight, .int f0_clauses, .ref q0_cYes, .ref q0_cNo, v0_levels, v0_levelEquations, v0_levelClauses, v0_tape, v0_tapeSize, v0_faultIs, v0_faultAt, v0_at, v0_newEquations, v0_newClauses, v0_newSet, v0_newRight, v0_newYes, v0_newNo, v0_lineYes, v0_lineNo, v0_rowCount, v0_rSet, v0_rRight, v0_isImpossible, v0_sumSet, v0_sumOf, v0_sumRight, v0_empty, v0_empties, v0_taken, v0_ones, v0_waitTaken, v0_waitOnes, v0_nodeCount, v0_lastModel, v0_modelCount, v0_modelIs, v0_gSet, v0_gateCount])), (q0_eSet, .inl (cL, n0_eSet, .inr (.inl h0_eSet))), (q0_eRight, .inl (cI, n0_eRight, .inl h0_eRight)), (q0_cYes, .inl (cL, n0_cYes, .inr (.inl h0_cYes))), (q0_cNo, .inl (cL, n0_cNo, .inr (.inl h0_cNo)))]) tU sz) 0 0 (va_A [(q0, .inr (8, [.int f0_thrown, v0_n, .int f0_equations, .ref q0_eSet, .ref q0_eRight, .int f0_clauses, .ref q0_cYes, .ref q0_cNo, v0_levels, v0_levelEquations, v0_levelClauses, v0_tape, v0_tapeSize, v0_faultIs, v0_faultAt, v0_at, v0_newEquations, v0_newClauses, v0_newSet, v0_newRight, v0_newYes, v0_newNo, v0_lineYes, v0_lineNo, v0_rowCount, v0_rSet, v0_rRight, v0_isImpossible, v0_sumSet, v0_sumOf, v0_sumRight, v0_empty, v0_empties, v0_taken, v0_ones, v0_waitTaken, v0_waitOnes, v0_nodeCount, v0_lastModel, v0_modelCount, v0_modelIs, v0_gSet, v0_gateCount])), (q0_eSet, .inl (cL, n0_eSet, .inr (.inl h0_eSet))), (q0_eRight, .inl (cI, n0_eRight, .inl h0_eRight)), (q0_cYes, .inl (cL, n0_cYes, .inr (.inl h0_cYes))), (q0_cNo, .inl (cL, n0_cNo, .inr (.inl h0_cNo)))] sz) := by
  refine Met.ofW (cc := cX8_told) (maxL := 4) (ret := (some .long)) (by decide) rfl ?_
  intro p e s m args below meth c s₁ B hml hv
  obtain ⟨hargs, hsz, hP, hEV, hD0⟩ := hv
  have hx := B.exec
  have hb := B.bytes
  have hr := B.returns
  have hts := atoms_spec (ws := wsX8_told) B.pre
  have hown : s.vm.findClass RX8 = some m.cls := findClass_of_methodNamed B.named
  have hlocks := B.notSynchronized
  have hK := hEV.K
  have lk_0 := hts _ lk_0_X8_told
  have lk_1 := hts _ lk_1_X8_told
  have lk_2 := hts _ lk_2_X8_told
  have lk_3 := hts _ lk_3_X8_told
  have lk_4 := hts _ lk_4_X8_told
  have lk_5 := hts _ lk_5_X8_told
  have lk_6 := hts _ lk_6_X8_told
  subst hsz
  unfold QlW PoW
  have hD := hD0.self (sz := s.heap.size)
  generalize hAe : va_A [(q0, .inr (8, [.int f0_thrown, v0_n, .int f0_equations, .ref q0_eSet, .ref q0_eRight, .int f0_clauses, .ref q0_cYes, .ref q0_cNo, v0_levels, v0_levelEquations, v0_levelClauses, v0_tape, v0_tapeSize, v0_faultIs, v0_faultAt, v0_at, v0_newEquations, v0_newClauses, v0_newSet, v0_newRight, v0_newYes, v0_newNo, v0_lineYes, v0_lineNo, v0_rowCount, v0_rSet, v0_rRight, v0_isImpossible, v0_sumSet, v0_sumOf, v0_sumRight, v0_empty, v0_empties, v0_taken, v0_ones, v0_waitTaken, v0_waitOnes, v0_nodeCount, v0_lastModel, v0_modelCount, v0_modelIs, v0_gSet, v0_gateCount])), (q0_eSet, .inl (cL, n0_eSet, .inr (.inl h0_eSet))), (q0_eRight, .inl (cI, n0_eRight, .inl h0_eRight)), (q0_cYes, .inl (cL, n0_cYes, .inr (.inl h0_cYes))), (q0_cNo, .inl (cL, n0_cNo, .inr (.inl h0_cNo)))] s.heap.size = A at hD ⊢
  have hA : ∀ q : Nat, s.heap.size ≤ q → A q := fun q h => by rw [← hAe]; exact Or.inr h
  have hent : entryFrame m args 4 = entryFrame m ([.ref q0, .int x1, .int x2] : List Value).toArray 4 := by rw [hargs]
  rw [hent]
  refine kx_Q (fun Q hQ => ?_)
  refine kx_H (fun H hH => ?_)
  have hP : va_P D vwCl [(q0, .inr (8, [.int f0_thrown, v0_n, .int f0_equations, .ref q0_eSet, .ref q0_eRight, .int f0_clauses, .ref q0_cYes, .ref q0_cNo, v0_levels, v0_levelEquations, v0_levelClauses, v0_tape, v0_tapeSize, v0_faultIs, v0_faultAt, v0_at, v0_newEquations, v0_newClauses, v0_newSet, v0_newRight, v0_newYes, v0_newNo, v0_lineYes, v0_lineNo, v0_rowCount, v0_rSet, v0_rRight, v0_isImpossible, v0_sumSet, v0_sumOf, v0_sumRight, v0_empty, v0_empties, v0_taken, v0_ones, v0_waitTaken, v0_waitOnes, v0_nodeCount, v0_lastModel, v0_modelCount, v0_modelIs, v0_gSet, v0_gateCount])), (q0_eSet, .inl (cL, n0_eSet, .inr (.inl h0_eSet))), (q0_eRight, .inl (cI, n0_eRight, .inl h0_eRight)), (q0_cYes, .inl (cL, n0_cYes, .inr (.inl h0_cYes))), (q0_cNo, .inl (cL, n0_cNo, .inr (.inl h0_cNo)))] H := by rw [hH]; exact hP
  have hS : va_S A s.heap H [] := by rw [hH]; exact va_S.rf
  have hl := lv_entry ([.ref q0, .int x1, .int x2]) (n := 4) (Nat.le_of_ble_eq_true rfl)
  rw [lg_entry_eq]
  generalize (lg_sl ([.ref q0, .int x1, .int x2]) ++ List.replicate (4 - (lg_sl ([.ref q0, .int x1, .int x2])).length) Slot.unset).toArray = ls at hl ⊢
  have hl : lv_has ls 4 [(0, .ref q0), (1, .int x1), (2, .int x2)] := hl
  have h := hr0
  unfold D_X8_told at h
  refine lv_iload_n hx hb dX8_told_0 rfl (lv_at hl 2 rfl) ?_
  refine lv_i2l (v := x2.toInt64) hx hb dX8_told_1 rfl ?_
  refine lv_lconst (v := (0 : Int64)) hx hb dX8_told_2 (by decide) ?_
  refine lv_ldc2 hx hb hown lk_0 dX8_told_3 ?_
  obtain ⟨u_1, hu_2, h⟩ := co_b h
  refine kx_i (ws' := fun _ => [(q0, .inr (8, [.int f0_thrown, v0_n, .int f0_equations, .ref q0_eSet, .ref q0_eRight, .int f0_clauses, .ref q0_cYes, .ref q0_cNo, v0_levels, v0_levelEquations, v0_levelClauses, v0_tape, v0_tapeSize, v0_faultIs, v0_faultAt, v0_at, v0_newEquations, v0_newClauses, v0_newSet, v0_newRight, v0_newYes, v0_newNo, v0_lineYes, v0_lineNo, v0_rowCount, v0_rSet, v0_rRight, v0_isImpossible, v0_sumSet, v0_sumOf, v0_sumRight, v0_empty, v0_empties, v0_taken, v0_ones, v0_waitTaken, v0_waitOnes, v0_nodeCount, v0_lastModel, v0_modelCount, v0_modelIs, v0_gSet, v0_gateCount])), (q0_eSet, .inl (cL, n0_eSet, .inr (.inl h0_eSet))), (q0_eRight, .inl (cI, n0_eRight, .inl h0_eRight)), (q0_cYes, .inl (cL, n0_cYes, .inr (.inl h0_cYes))), (q0_cNo, .inl (cL, n0_cNo, .inr (.inl h0_cNo)))]) hP hD hS hA [] [0, 1, 2, 3, 4] [0, 1, 2, 3, 4] rfl rfl (by decide) (by decide) (fun _ => rfl) (by decide) (va_runS (As := [.long x2.toInt64, .long (0 : Int64), .long (3 : Int64)]) (rest := []) ⟨hx, hb, hml, hown, hts⟩ (cm_X8_isIn l D cI cL (x0 := x2.toInt64) (x2 := (0 : Int64)) (x4 := (3 : Int64)) (r0 := u_1) (hr0 := hu_2) (sz := H.size)) (va_cwS 3 hts gX8_told_X8_isIn rfl rfl rfl (by decide +kernel) ⟨Nat.le_of_ble_eq_true rfl, Nat.le_of_ble_eq_true rfl⟩) (kx_preS hEV hP hD [] rfl (by decide)) rfl rfl hl.1 rfl (lv_room (Nat.le_of_ble_eq_true rfl)) dX8_told_6 ⟨Nat.le_of_ble_eq_true rfl, Nat.le_of_ble_eq_true rfl⟩) (fun _ H locs _ hP hD hS => ?_)
  refine lv_istore_n (lv' := [(3, .int (bI u_1)), (0, .ref q0), (1, .int x1), (2, .int x2)]) hx hb dX8_told_9 rfl hl (by decide) rfl (fun ls hl => ?_)
  refine lv_aload_n hx hb dX8_told_10 rfl (lv_at hl 1 rfl) ?_
  refine lv_iload_n hx hb dX8_told_11 rfl (lv_at hl 0 rfl) ?_
  refine lv_if_eq (tgt := 43) hx hb dX8_told_12 (by decide) (fun c_3 => ?_) (fun c_3 => ?_)
  · have k_4 : ¬ (u_1 = true) := (kx_z c_3)
    have h := co_f k_4 h
    refine lv_iconst (v := (1 : Int32)) hx hb dX8_told_43 (by decide) ?_
    refine lv_goto (tgt := 48) hx hb dX8_told_44 (by decide) ?_
    refine lv_iload_n hx hb dX8_told_48 rfl (lv_at hl 0 rfl) ?_
    obtain ⟨u_5, hu_6, h⟩ := co_b h
    refine kx_i (ws' := fun _ => [(q0, .inr (8, [.int u_5.2, v0_n, .int f0_equations, .ref q0_eSet, .ref q0_eRight, .int f0_clauses, .ref q0_cYes, .ref q0_cNo, v0_levels, v0_levelEquations, v0_levelClauses, v0_tape, v0_tapeSize, v0_faultIs, v0_faultAt, v0_at, v0_newEquations, v0_newClauses, v0_newSet, v0_newRight, v0_newYes, v0_newNo, v0_lineYes, v0_lineNo, v0_rowCount, v0_rSet, v0_rRight, v0_isImpossible, v0_sumSet, v0_sumOf, v0_sumRight, v0_empty, v0_empties, v0_taken, v0_ones, v0_waitTaken, v0_waitOnes, v0_nodeCount, v0_lastModel, v0_modelCount, v0_modelIs, v0_gSet, v0_gateCount])), (q0_eSet, .inl (cL, n0_eSet, .inr (.inl h0_eSet))), (q0_eRight, .inl (cI, n0_eRight, .inl h0_eRight)), (q0_cYes, .inl (cL, n0_cYes, .inr (.inl h0_cYes))), (q0_cNo, .inl (cL, n0_cNo, .inr (.inl h0_cNo)))]) hP hD hS hA [0] [1, 2, 3, 4] [4, 0, 1, 2, 3] rfl rfl (by decide) (by decide) (fun _ => rfl) (by decide) (va_runV (As := [.int (bI true), .int (bI u_1)]) (rest := []) ⟨hx, hb, hml, hown, hts⟩ (cm_X8_may l D cI cL (q0 := q0) (f0_thrown := f0_thrown) (v0_n := v0_n) (v0_equations := .int f0_equations) (v0_eSet := .ref q0_eSet) (v0_eRight := .ref q0_eRight) (v0_clauses := .int f0_clauses) (v0_cYes := .ref q0_cYes) (v0_cNo := .ref q0_cNo) (v0_levels := v0_levels) (v0_levelEquations := v0_levelEquations) (v0_levelClauses := v0_levelClauses) (v0_tape := v0_tape) (v0_tapeSize := v0_tapeSize) (v0_faultIs := v0_faultIs) (v0_faultAt := v0_faultAt) (v0_at := v0_at) (v0_newEquations := v0_newEquations) (v0_newClauses := v0_newClauses) (v0_newSet := v0_newSet) (v0_newRight := v0_newRight) (v0_newYes := v0_newYes) (v0_newNo := v0_newNo) (v0_lineYes := v0_lineYes) (v0_lineNo := v0_lineNo) (v0_rowCount := v0_rowCount) (v0_rSet := v0_rSet) (v0_rRight := v0_rRight) (v0_isImpossible := v0_isImpossible) (v0_sumSet := v0_sumSet) (v0_sumOf := v0_sumOf) (v0_sumRight := v0_sumRight) (v0_empty := v0_empty) (v0_empties := v0_empties) (v0_taken := v0_taken) (v0_ones := v0_ones) (v0_waitTaken := v0_waitTaken) (v0_waitOnes := v0_waitOnes) (v0_nodeCount := v0_nodeCount) (v0_lastModel := v0_lastModel) (v0_modelCount := v0_modelCount) (v0_modelIs := v0_modelIs) (v0_gSet := v0_gSet) (v0_gateCount := v0_gateCount) (x1 := true) (x2 := u_1) (r0 := u_5) (hr0 := hu_6) (sz := H.size)) (cwV 2 hts gX8_told_X8_may rfl rfl rfl (by decide +kernel) ⟨Nat.le_of_ble_eq_true rfl, Nat.le_of_ble_eq_true rfl⟩) (kx_preV hEV hP hD [0] rfl (by decide) (k0 := 0) (ci := 8) rfl rfl rfl) rfl rfl hl.1 rfl (lv_room (Nat.le_of_ble_eq_true rfl)) dX8_told_49 ⟨Nat.le_of_ble_eq_true rfl, Nat.le_of_ble_eq_true rfl⟩) (fun _ H locs _ hP hD hS => ?_)
    refine lv_if_ne (tgt := 57) hx hb dX8_told_52 (by decide) (fun c_7 => ?_) (fun c_7 => ?_)
    · have k_8 : u_5.1 = true := (kx_nz c_7)
      have h := co_t k_8 h
      refine lv_iload_n hx hb dX8_told_57 rfl (lv_at hl 3 rfl) ?_
      refine lv_if_ne (tgt := 70) hx hb dX8_told_58 (by decide) (fun c_9 => ?_) (fun c_9 => ?_)
      · have k_10 : ¬ (x2 = 0) := c_9
        have h := co_f k_10 h
        refine lv_iload_n hx hb dX8_told_70 rfl (lv_at hl 3 rfl) ?_
        refine lv_iconst (v := (1 : Int32)) hx hb dX8_told_71 (by decide) ?_
        refine lv_icmp_ne (tgt := 85) hx hb dX8_told_72 (by decide) (fun c_11 => ?_) (fun c_11 => ?_)
        · have k_12 : ¬ (x2 = (1 : Int32)) := c_11
          have h := co_f k_12 h
          refine lv_iload_n hx hb dX8_told_85 rfl (lv_at hl 3 rfl) ?_
          refine lv_iconst (v := (2 : Int32)) hx hb dX8_told_86 (by decide) ?_
          refine lv_icmp_ne (tgt := 99) hx hb dX8_told_87 (by decide) (fun c_13 => ?_) (fun c_13 => ?_)
          · have k_14 : ¬ (x2 = (2 : Int32)) := c_13
            have h := co_f k_14 h
            refine lv_aload_n hx hb dX8_told_99 rfl (lv_at hl 1 rfl) ?_
            refine va_get (D := D) (ci := 8) (v := .ref q0_cNo) (C := RX8) (T := TX8) (N := 43) hx hb hts in_X8_told_X8 hown hK hP 0 rfl rfl 7 (by decide) lk_1 (fun _ h9 => h9) rfl dX8_told_100 ?_
            refine lv_iload_n hx hb dX8_told_103 rfl (lv_at hl 2 rfl) ?_
            obtain ⟨b_15, h⟩ := co_i h
            refine va_lald hx hb hK hP 4 1 rfl rfl b_15 dX8_told_104 ?_
            have h := Option.some.inj h
            subst h
            subst hQ
            exact W.lret (v := h0_cNo x1.toNatClampNeg) hx hb hr (fun t ht hW => ⟨⟨h0_cNo x1.toNatClampNeg, (), rfl, ⟨rfl, trivial⟩, by rw [ht]; exact hP, hD⟩, hS.F ht⟩) hS.2.2 dX8_told_105
          · have k_14 : x2 = (2 : Int32) := c_13
            have h := co_t k_14 h
            refine lv_aload_n hx hb dX8_told_90 rfl (lv_at hl 1 rfl) ?_
            refine va_get (D := D) (ci := 8) (v := .ref q0_cYes) (C := RX8) (T := TX8) (N := 43) hx hb hts in_X8_told_X8 hown hK hP 0 rfl rfl 6 (by decide) lk_2 (fun _ h9 => h9) rfl dX8_told_91 ?_
            refine lv_iload_n hx hb dX8_told_94 rfl (lv_at hl 2 rfl) ?_
            obtain ⟨b_16, h⟩ := co_i h
            refine va_lald hx hb hK hP 3 1 rfl rfl b_16 dX8_told_95 ?_
            refine lv_goto (tgt := 105) hx hb dX8_told_96 (by decide) ?_
            have h := Option.some.inj h
            subst h
            subst hQ
            exact W.lret (v := h0_cYes x1.toNatClampNeg) hx hb hr (fun t ht hW => ⟨⟨h0_cYes x1.toNatClampNeg, (), rfl, ⟨rfl, trivial⟩, by rw [ht]; exact hP, hD⟩, hS.F ht⟩) hS.2.2 dX8_told_105
        · have k_12 : x2 = (1 : Int32) := c_11
          have h := co_t k_12 h
          refine lv_aload_n hx hb dX8_told_75 rfl (lv_at hl 1 rfl) ?_
          refine va_get (D := D) (ci := 8) (v := .ref q0_eRight) (C := RX8) (T := TX8) (N := 43) hx hb hts in_X8_told_X8 hown hK hP 0 rfl rfl 4 (by decide) lk_3 (fun _ h9 => h9) rfl dX8_told_76 ?_
          refine lv_iload_n hx hb dX8_told_79 rfl (lv_at hl 2 rfl) ?_
          obtain ⟨b_17, h⟩ := co_i h
          refine va_iald hx hb hK hP 2 0 rfl rfl b_17 dX8_told_80 ?_
          refine lv_i2l (v := (h0_eRight x1.toNatClampNeg).toInt64) hx hb dX8_told_81 rfl ?_
          refine lv_goto (tgt := 105) hx hb dX8_told_82 (by decide) ?_
          have h := Option.some.inj h
          subst h
          subst hQ
          exact W.lret (v := (h0_eRight x1.toNatClampNeg).toInt64) hx hb hr (fun t ht hW => ⟨⟨(h0_eRight x1.toNatClampNeg).toInt64, (), rfl, ⟨rfl, trivial⟩, by rw [ht]; exact hP, hD⟩, hS.F ht⟩) hS.2.2 dX8_told_105
      · have k_10 : x2 = 0 := c_9
        have h := co_t k_10 h
        refine lv_aload_n hx hb dX8_told_61 rfl (lv_at hl 1 rfl) ?_
        refine va_get (D := D) (ci := 8) (v := .ref q0_eSet) (C := RX8) (T := TX8) (N := 43) hx hb hts in_X8_told_X8 hown hK hP 0 rfl rfl 3 (by decide) lk_4 (fun _ h9 => h9) rfl dX8_told_62 ?_
        refine lv_iload_n hx hb dX8_told_65 rfl (lv_at hl 2 rfl) ?_
        obtain ⟨b_18, h⟩ := co_i h
        refine va_lald hx hb hK hP 1 1 rfl rfl b_18 dX8_told_66 ?_
        refine lv_goto (tgt := 105) hx hb dX8_told_67 (by decide) ?_
        have h := Option.some.inj h
        subst h
        subst hQ
        exact W.lret (v := h0_eSet x1.toNatClampNeg) hx hb hr (fun t ht hW => ⟨⟨h0_eSet x1.toNatClampNeg, (), rfl, ⟨rfl, trivial⟩, by rw [ht]; exact hP, hD⟩, hS.F ht⟩) hS.2.2 dX8_told_105
    · have k_8 : ¬ (u_5.1 = true) := (kx_z c_7)
      have h := co_f k_8 h
      refine lv_lconst (v := (0 : Int64)) hx hb dX8_told_55 (by decide) ?_
      have h := Option.some.inj h
      subst h
      subst hQ
      exact W.lret (v := (0 : Int64)) hx hb hr (fun t ht hW => ⟨⟨(0 : Int64), (), rfl, ⟨rfl, trivial⟩, by rw [ht]; exact hP, hD⟩, hS.F ht⟩) hS.2.2 dX8_told_56
  · have k_4 : u_1 = true := (kx_nz c_3)
    have h := co_t k_4 h
    refine lv_iload_n hx hb dX8_told_15 rfl (lv_at hl 2 rfl) ?_
    refine lv_i2l (v := x1.toInt64) hx hb dX8_told_16 rfl ?_
    refine lv_lconst (v := (0 : Int64)) hx hb dX8_told_17 (by decide) ?_
    refine lv_iload_n hx hb dX8_told_18 rfl (lv_at hl 3 rfl) ?_
    refine lv_iconst (v := (2 : Int32)) hx hb dX8_told_19 (by decide) ?_
    refine lv_icmp_ge (tgt := 30) hx hb dX8_told_20 (by decide) (fun c_19 => ?_) (fun c_19 => ?_)
    · have k_20 : (2 : Int32) ≤ x2 := c_19
      have h := co_t k_20 h
      refine lv_aload_n hx hb dX8_told_30 rfl (lv_at hl 1 rfl) ?_
      refine va_get (D := D) (ci := 8) (v := .int f0_clauses) (C := RX8) (T := TX8) (N := 43) hx hb hts in_X8_told_X8 hown hK hP 0 rfl rfl 5 (by decide) lk_5 (fun _ h9 => h9) rfl dX8_told_31 ?_
      refine lv_iconst (v := (1 : Int32)) hx hb dX8_told_34 (by decide) ?_
      refine lv_isub hx hb dX8_told_35 ?_
      refine lv_i2l (v := (f0_clauses - (1 : Int32)).toInt64) hx hb dX8_told_36 rfl ?_
      obtain ⟨u_21, hu_22, h⟩ := co_b h
      refine kx_i (ws' := fun _ => [(q0, .inr (8, [.int f0_thrown, v0_n, .int f0_equations, .ref q0_eSet, .ref q0_eRight, .int f0_clauses, .ref q0_cYes, .ref q0_cNo, v0_levels, v0_levelEquations, v0_levelClauses, v0_tape, v0_tapeSize, v0_faultIs, v0_faultAt, v0_at, v0_newEquations, v0_newClauses, v0_newSet, v0_newRight, v0_newYes, v0_newNo, v0_lineYes, v0_lineNo, v0_rowCount, v0_rSet, v0_rRight, v0_isImpossible, v0_sumSet, v0_sumOf, v0_sumRight, v0_empty, v0_empties, v0_taken, v0_ones, v0_waitTaken, v0_waitOnes, v0_nodeCount, v0_lastModel, v0_modelCount, v0_modelIs, v0_gSet, v0_gateCount])), (q0_eSet, .inl (cL, n0_eSet, .inr (.inl h0_eSet))), (q0_eRight, .inl (cI, n0_eRight, .inl h0_eRight)), (q0_cYes, .inl (cL, n0_cYes, .inr (.inl h0_cYes))), (q0_cNo, .inl (cL, n0_cNo, .inr (.inl h0_cNo)))]) hP hD hS hA [] [0, 1, 2, 3, 4] [0, 1, 2, 3, 4] rfl rfl (by decide) (by decide) (fun _ => rfl) (by decide) (va_runS (As := [.long x1.toInt64, .long (0 : Int64), .long ((f0_clauses - (1 : Int32)).toInt64)]) (rest := [.ref q0]) ⟨hx, hb, hml, hown, hts⟩ (cm_X8_isIn l D cI cL (x0 := x1.toInt64) (x2 := (0 : Int64)) (x4 := (f0_clauses - (1 : Int32)).toInt64) (r0 := u_21) (hr0 := hu_22) (sz := H.size)) (va_cwS 3 hts gX8_told_X8_isIn rfl rfl rfl (by decide +kernel) ⟨Nat.le_of_ble_eq_true rfl, Nat.le_of_ble_eq_true rfl⟩) (kx_preS hEV hP hD [] rfl (by decide)) rfl rfl hl.1 rfl (lv_room (Nat.le_of_ble_eq_true rfl)) dX8_told_37 ⟨Nat.le_of_ble_eq_true rfl, Nat.le_of_ble_eq_true rfl⟩) (fun _ H locs _ hP hD hS => ?_)
      refine lv_if_eq (tgt := 47) hx hb dX8_told_40 (by decide) (fun c_23 => ?_) (fun c_23 => ?_)
      · have k_24 : ¬ (u_21 = true) := (kx_z c_23)
        have h := co_f k_24 h
        refine lv_iconst (v := (0 : Int32)) hx hb dX8_told_47 (by decide) ?_
        refine lv_iload_n hx hb dX8_told_48 rfl (lv_at hl 0 rfl) ?_
        obtain ⟨u_25, hu_26, h⟩ := co_b h
        refine kx_i (ws' := fun _ => [(q0, .inr (8, [.int u_25.2, v0_n, .int f0_equations, .ref q0_eSet, .ref q0_eRight, .int f0_clauses, .ref q0_cYes, .ref q0_cNo, v0_levels, v0_levelEquations, v0_levelClauses, v0_tape, v0_tapeSize, v0_faultIs, v0_faultAt, v0_at, v0_newEquations, v0_newClauses, v0_newSet, v0_newRight, v0_newYes, v0_newNo, v0_lineYes, v0_lineNo, v0_rowCount, v0_rSet, v0_rRight, v0_isImpossible, v0_sumSet, v0_sumOf, v0_sumRight, v0_empty, v0_empties, v0_taken, v0_ones, v0_waitTaken, v0_waitOnes, v0_nodeCount, v0_lastModel, v0_modelCount, v0_modelIs, v0_gSet, v0_gateCount])), (q0_eSet, .inl (cL, n0_eSet, .inr (.inl h0_eSet))), (q0_eRight, .inl (cI, n0_eRight, .inl h0_eRight)), (q0_cYes, .inl (cL, n0_cYes, .inr (.inl h0_cYes))), (q0_cNo, .inl (cL, n0_cNo, .inr (.inl h0_cNo)))]) hP hD hS hA [0] [1, 2, 3, 4] [4, 0, 1, 2, 3] rfl rfl (by decide) (by decide) (fun _ => rfl) (by decide) (va_runV (As := [.int (bI false), .int (bI u_1)]) (rest := []) ⟨hx, hb, hml, hown, hts⟩ (cm_X8_may l D cI cL (q0 := q0) (f0_thrown := f0_thrown) (v0_n := v0_n) (v0_equations := .int f0_equations) (v0_eSet := .ref q0_eSet) (v0_eRight := .ref q0_eRight) (v0_clauses := .int f0_clauses) (v0_cYes := .ref q0_cYes) (v0_cNo := .ref q0_cNo) (v0_levels := v0_levels) (v0_levelEquations := v0_levelEquations) (v0_levelClauses := v0_levelClauses) (v0_tape := v0_tape) (v0_tapeSize := v0_tapeSize) (v0_faultIs := v0_faultIs) (v0_faultAt := v0_faultAt) (v0_at := v0_at) (v0_newEquations := v0_newEquations) (v0_newClauses := v0_newClauses) (v0_newSet := v0_newSet) (v0_newRight := v0_newRight) (v0_newYes := v0_newYes) (v0_newNo := v0_newNo) (v0_lineYes := v0_lineYes) (v0_lineNo := v0_lineNo) (v0_rowCount := v0_rowCount) (v0_rSet := v0_rSet) (v0_rRight := v0_rRight) (v0_isImpossible := v0_isImpossible) (v0_sumSet := v0_sumSet) (v0_sumOf := v0_sumOf) (v0_sumRight := v0_sumRight) (v0_empty := v0_empty) (v0_empties := v0_empties) (v0_taken := v0_taken) (v0_ones := v0_ones) (v0_waitTaken := v0_waitTaken) (v0_waitOnes := v0_waitOnes) (v0_nodeCount := v0_nodeCount) (v0_lastModel := v0_lastModel) (v0_modelCount := v0_modelCount) (v0_modelIs := v0_modelIs) (v0_gSet := v0_gSet) (v0_gateCount := v0_gateCount) (x1 := false) (x2 := u_1) (r0 := u_25) (hr0 := hu_26) (sz := H.size)) (cwV 2 hts gX8_told_X8_may rfl rfl rfl (by decide +kernel) ⟨Nat.le_of_ble_eq_true rfl, Nat.le_of_ble_eq_true rfl⟩) (kx_preV hEV hP hD [0] rfl (by decide) (k0 := 0) (ci := 8) rfl rfl rfl) rfl rfl hl.1 rfl (lv_room (Nat.le_of_ble_eq_true rfl)) dX8_told_49 ⟨Nat.le_of_ble_eq_true rfl, Nat.le_of_ble_eq_true rfl⟩) (fun _ H locs _ hP hD hS => ?_)
        refine lv_if_ne (tgt := 57) hx hb dX8_told_52 (by decide) (fun c_27 => ?_) (fun c_27 => ?_)
        · have k_28 : u_25.1 = true := (kx_nz c_27)
          have h := co_t k_28 h
          refine lv_iload_n hx hb dX8_told_57 rfl (lv_at hl 3 rfl) ?_
          refine lv_if_ne (tgt := 70) hx hb dX8_told_58 (by decide) (fun c_29 => ?_) (fun c_29 => ?_)
          · have k_30 : ¬ (x2 = 0) := c_29
            have h := co_f k_30 h
            refine lv_iload_n hx hb dX8_told_70 rfl (lv_at hl 3 rfl) ?_
            refine lv_iconst (v := (1 : Int32)) hx hb dX8_told_71 (by decide) ?_
            refine lv_icmp_ne (tgt := 85) hx hb dX8_told_72 (by decide) (fun c_31 => ?_) (fun c_31 => ?_)
            · have k_32 : ¬ (x2 = (1 : Int32)) := c_31
              have h := co_f k_32 h
              refine lv_iload_n hx hb dX8_told_85 rfl (lv_at hl 3 rfl) ?_
              refine lv_iconst (v := (2 : Int32)) hx hb dX8_told_86 (by decide) ?_
              refine lv_icmp_ne (tgt := 99) hx hb dX8_told_87 (by decide) (fun c_33 => ?_) (fun c_33 => ?_)
              · have k_34 : ¬ (x2 = (2 : Int32)) := c_33
                have h := co_f k_34 h
                refine lv_aload_n hx hb dX8_told_99 rfl (lv_at hl 1 rfl) ?_
                refine va_get (D := D) (ci := 8) (v := .ref q0_cNo) (C := RX8) (T := TX8) (N := 43) hx hb hts in_X8_told_X8 hown hK hP 0 rfl rfl 7 (by decide) lk_1 (fun _ h9 => h9) rfl dX8_told_100 ?_
                refine lv_iload_n hx hb dX8_told_103 rfl (lv_at hl 2 rfl) ?_
                obtain ⟨b_35, h⟩ := co_i h
                refine va_lald hx hb hK hP 4 1 rfl rfl b_35 dX8_told_104 ?_
                have h := Option.some.inj h
                subst h
                subst hQ
                exact W.lret (v := h0_cNo x1.toNatClampNeg) hx hb hr (fun t ht hW => ⟨⟨h0_cNo x1.toNatClampNeg, (), rfl, ⟨rfl, trivial⟩, by rw [ht]; exact hP, hD⟩, hS.F ht⟩) hS.2.2 dX8_told_105
              · have k_34 : x2 = (2 : Int32) := c_33
                have h := co_t k_34 h
                refine lv_aload_n hx hb dX8_told_90 rfl (lv_at hl 1 rfl) ?_
                refine va_get (D := D) (ci := 8) (v := .ref q0_cYes) (C := RX8) (T := TX8) (N := 43) hx hb hts in_X8_told_X8 hown hK hP 0 rfl rfl 6 (by decide) lk_2 (fun _ h9 => h9) rfl dX8_told_91 ?_
                refine lv_iload_n hx hb dX8_told_94 rfl (lv_at hl 2 rfl) ?_
                obtain ⟨b_36, h⟩ := co_i h
                refine va_lald hx hb hK hP 3 1 rfl rfl b_36 dX8_told_95 ?_
                refine lv_goto (tgt := 105) hx hb dX8_told_96 (by decide) ?_
                have h := Option.some.inj h
                subst h
                subst hQ
                exact W.lret (v := h0_cYes x1.toNatClampNeg) hx hb hr (fun t ht hW => ⟨⟨h0_cYes x1.toNatClampNeg, (), rfl, ⟨rfl, trivial⟩, by rw [ht]; exact hP, hD⟩, hS.F ht⟩) hS.2.2 dX8_told_105
            · have k_32 : x2 = (1 : Int32) := c_31
              have h := co_t k_32 h
              refine lv_aload_n hx hb dX8_told_75 rfl (lv_at hl 1 rfl) ?_
              refine va_get (D := D) (ci := 8) (v := .ref q0_eRight) (C := RX8) (T := TX8) (N := 43) hx hb hts in_X8_told_X8 hown hK hP 0 rfl rfl 4 (by decide) lk_3 (fun _ h9 => h9) rfl dX8_told_76 ?_
              refine lv_iload_n hx hb dX8_told_79 rfl (lv_at hl 2 rfl) ?_
              obtain ⟨b_37, h⟩ := co_i h
              refine va_iald hx hb hK hP 2 0 rfl rfl b_37 dX8_told_80 ?_
              refine lv_i2l (v := (h0_eRight x1.toNatClampNeg).toInt64) hx hb dX8_told_81 rfl ?_
              refine lv_goto (tgt := 105) hx hb dX8_told_82 (by decide) ?_
              have h := Option.some.inj h
              subst h
              subst hQ
              exact W.lret (v := (h0_eRight x1.toNatClampNeg).toInt64) hx hb hr (fun t ht hW => ⟨⟨(h0_eRight x1.toNatClampNeg).toInt64, (), rfl, ⟨rfl, trivial⟩, by rw [ht]; exact hP, hD⟩, hS.F ht⟩) hS.2.2 dX8_told_105
          · have k_30 : x2 = 0 := c_29
            have h := co_t k_30 h
            refine lv_aload_n hx hb dX8_told_61 rfl (lv_at hl 1 rfl) ?_
            refine va_get (D := D) (ci := 8) (v := .ref q0_eSet) (C := RX8) (T := TX8) (N := 43) hx hb hts in_X8_told_X8 hown hK hP 0 rfl rfl 3 (by decide) lk_4 (fun _ h9 => h9) rfl dX8_told_62 ?_
            refine lv_iload_n hx hb dX8_told_65 rfl (lv_at hl 2 rfl) ?_
            obtain ⟨b_38, h⟩ := co_i h
            refine va_lald hx hb hK hP 1 1 rfl rfl b_38 dX8_told_66 ?_
            refine lv_goto (tgt := 105) hx hb dX8_told_67 (by decide) ?_
            have h := Option.some.inj h
            subst h
            subst hQ
            exact W.lret (v := h0_eSet x1.toNatClampNeg) hx hb hr (fun t ht hW => ⟨⟨h0_eSet x1.toNatClampNeg, (), rfl, ⟨rfl, trivial⟩, by rw [ht]; exact hP, hD⟩, hS.F ht⟩) hS.2.2 dX8_told_105
        · have k_28 : ¬ (u_25.1 = true) := (kx_z c_27)
          have h := co_f k_28 h
          refine lv_lconst (v := (0 : Int64)) hx hb dX8_told_55 (by decide) ?_
          have h := Option.some.inj h
          subst h
          subst hQ
          exact W.lret (v := (0 : Int64)) hx hb hr (fun t ht hW => ⟨⟨(0 : Int64), (), rfl, ⟨rfl, trivial⟩, by rw [ht]; exact hP, hD⟩, hS.F ht⟩) hS.2.2 dX8_told_56
      · have k_24 : u_21 = true := (kx_nz c_23)
        have h := co_t k_24 h
        refine lv_iconst (v := (1 : Int32)) hx hb dX8_told_43 (by decide) ?_
        refine lv_goto (tgt := 48) hx hb dX8_told_44 (by decide) ?_
        refine lv_iload_n hx hb dX8_told_48 rfl (lv_at hl 0 rfl) ?_
        obtain ⟨u_39, hu_40, h⟩ := co_b h
        refine kx_i (ws' := fun _ => [(q0, .inr (8, [.int u_39.2, v0_n, .int f0_equations, .ref q0_eSet, .ref q0_eRight, .int f0_clauses, .ref q0_cYes, .ref q0_cNo, v0_levels, v0_levelEquations, v0_levelClauses, v0_tape, v0_tapeSize, v0_faultIs, v0_faultAt, v0_at, v0_newEquations, v0_newClauses, v0_newSet, v0_newRight, v0_newYes, v0_newNo, v0_lineYes, v0_lineNo, v0_rowCount, v0_rSet, v0_rRight, v0_isImpossible, v0_sumSet, v0_sumOf, v0_sumRight, v0_empty, v0_empties, v0_taken, v0_ones, v0_waitTaken, v0_waitOnes, v0_nodeCount, v0_lastModel, v0_modelCount, v0_modelIs, v0_gSet, v0_gateCount])), (q0_eSet, .inl (cL, n0_eSet, .inr (.inl h0_eSet))), (q0_eRight, .inl (cI, n0_eRight, .inl h0_eRight)), (q0_cYes, .inl (cL, n0_cYes, .inr (.inl h0_cYes))), (q0_cNo, .inl (cL, n0_cNo, .inr (.inl h0_cNo)))]) hP hD hS hA [0] [1, 2, 3, 4] [4, 0, 1, 2, 3] rfl rfl (by decide) (by decide) (fun _ => rfl) (by decide) (va_runV (As := [.int (bI true), .int (bI u_1)]) (rest := []) ⟨hx, hb, hml, hown, hts⟩ (cm_X8_may l D cI cL (q0 := q0) (f0_thrown := f0_thrown) (v0_n := v0_n) (v0_equations := .int f0_equations) (v0_eSet := .ref q0_eSet) (v0_eRight := .ref q0_eRight) (v0_clauses := .int f0_clauses) (v0_cYes := .ref q0_cYes) (v0_cNo := .ref q0_cNo) (v0_levels := v0_levels) (v0_levelEquations := v0_levelEquations) (v0_levelClauses := v0_levelClauses) (v0_tape := v0_tape) (v0_tapeSize := v0_tapeSize) (v0_faultIs := v0_faultIs) (v0_faultAt := v0_faultAt) (v0_at := v0_at) (v0_newEquations := v0_newEquations) (v0_newClauses := v0_newClauses) (v0_newSet := v0_newSet) (v0_newRight := v0_newRight) (v0_newYes := v0_newYes) (v0_newNo := v0_newNo) (v0_lineYes := v0_lineYes) (v0_lineNo := v0_lineNo) (v0_rowCount := v0_rowCount) (v0_rSet := v0_rSet) (v0_rRight := v0_rRight) (v0_isImpossible := v0_isImpossible) (v0_sumSet := v0_sumSet) (v0_sumOf := v0_sumOf) (v0_sumRight := v0_sumRight) (v0_empty := v0_empty) (v0_empties := v0_empties) (v0_taken := v0_taken) (v0_ones := v0_ones) (v0_waitTaken := v0_waitTaken) (v0_waitOnes := v0_waitOnes) (v0_nodeCount := v0_nodeCount) (v0_lastModel := v0_lastModel) (v0_modelCount := v0_modelCount) (v0_modelIs := v0_modelIs) (v0_gSet := v0_gSet) (v0_gateCount := v0_gateCount) (x1 := true) (x2 := u_1) (r0 := u_39) (hr0 := hu_40) (sz := H.size)) (cwV 2 hts gX8_told_X8_may rfl rfl rfl (by decide +kernel) ⟨Nat.le_of_ble_eq_true rfl, Nat.le_of_ble_eq_true rfl⟩) (kx_preV hEV hP hD [0] rfl (by decide) (k0 := 0) (ci := 8) rfl rfl rfl) rfl rfl hl.1 rfl (lv_room (Nat.le_of_ble_eq_true rfl)) dX8_told_49 ⟨Nat.le_of_ble_eq_true rfl, Nat.le_of_ble_eq_true rfl⟩) (fun _ H locs _ hP hD hS => ?_)
        refine lv_if_ne (tgt := 57) hx hb dX8_told_52 (by decide) (fun c_41 => ?_) (fun c_41 => ?_)
        · have k_42 : u_39.1 = true := (kx_nz c_41)
          have h := co_t k_42 h
          refine lv_iload_n hx hb dX8_told_57 rfl (lv_at hl 3 rfl) ?_
          refine lv_if_ne (tgt := 70) hx hb dX8_told_58 (by decide) (fun c_43 => ?_) (fun c_43 => ?_)
          · have k_44 : ¬ (x2 = 0) := c_43
            have h := co_f k_44 h
            refine lv_iload_n hx hb dX8_told_70 rfl (lv_at hl 3 rfl) ?_
            refine lv_iconst (v := (1 : Int32)) hx hb dX8_told_71 (by decide) ?_
            refine lv_icmp_ne (tgt := 85) hx hb dX8_told_72 (by decide) (fun c_45 => ?_) (fun c_45 => ?_)
            · have k_46 : ¬ (x2 = (1 : Int32)) := c_45
              have h := co_f k_46 h
              refine lv_iload_n hx hb dX8_told_85 rfl (lv_at hl 3 rfl) ?_
              refine lv_iconst (v := (2 : Int32)) hx hb dX8_told_86 (by decide) ?_
              refine lv_icmp_ne (tgt := 99) hx hb dX8_told_87 (by decide) (fun c_47 => ?_) (fun c_47 => ?_)
              · have k_48 : ¬ (x2 = (2 : Int32)) := c_47
                have h := co_f k_48 h
                refine lv_aload_n hx hb dX8_told_99 rfl (lv_at hl 1 rfl) ?_
                refine va_get (D := D) (ci := 8) (v := .ref q0_cNo) (C := RX8) (T := TX8) (N := 43) hx hb hts in_X8_told_X8 hown hK hP 0 rfl rfl 7 (by decide) lk_1 (fun _ h9 => h9) rfl dX8_told_100 ?_
                refine lv_iload_n hx hb dX8_told_103 rfl (lv_at hl 2 rfl) ?_
                obtain ⟨b_49, h⟩ := co_i h
                refine va_lald hx hb hK hP 4 1 rfl rfl b_49 dX8_told_104 ?_
                have h := Option.some.inj h
                subst h
                subst hQ
                exact W.lret (v := h0_cNo x1.toNatClampNeg) hx hb hr (fun t ht hW => ⟨⟨h0_cNo x1.toNatClampNeg, (), rfl, ⟨rfl, trivial⟩, by rw [ht]; exact hP, hD⟩, hS.F ht⟩) hS.2.2 dX8_told_105
              · have k_48 : x2 = (2 : Int32) := c_47
                have h := co_t k_48 h
                refine lv_aload_n hx hb dX8_told_90 rfl (lv_at hl 1 rfl) ?_
                refine va_get (D := D) (ci := 8) (v := .ref q0_cYes) (C := RX8) (T := TX8) (N := 43) hx hb hts in_X8_told_X8 hown hK hP 0 rfl rfl 6 (by decide) lk_2 (fun _ h9 => h9) rfl dX8_told_91 ?_
                refine lv_iload_n hx hb dX8_told_94 rfl (lv_at hl 2 rfl) ?_
                obtain ⟨b_50, h⟩ := co_i h
                refine va_lald hx hb hK hP 3 1 rfl rfl b_50 dX8_told_95 ?_
                refine lv_goto (tgt := 105) hx hb dX8_told_96 (by decide) ?_
                have h := Option.some.inj h
                subst h
                subst hQ
                exact W.lret (v := h0_cYes x1.toNatClampNeg) hx hb hr (fun t ht hW => ⟨⟨h0_cYes x1.toNatClampNeg, (), rfl, ⟨rfl, trivial⟩, by rw [ht]; exact hP, hD⟩, hS.F ht⟩) hS.2.2 dX8_told_105
            · have k_46 : x2 = (1 : Int32) := c_45
              have h := co_t k_46 h
              refine lv_aload_n hx hb dX8_told_75 rfl (lv_at hl 1 rfl) ?_
              refine va_get (D := D) (ci := 8) (v := .ref q0_eRight) (C := RX8) (T := TX8) (N := 43) hx hb hts in_X8_told_X8 hown hK hP 0 rfl rfl 4 (by decide) lk_3 (fun _ h9 => h9) rfl dX8_told_76 ?_
              refine lv_iload_n hx hb dX8_told_79 rfl (lv_at hl 2 rfl) ?_
              obtain ⟨b_51, h⟩ := co_i h
              refine va_iald hx hb hK hP 2 0 rfl rfl b_51 dX8_told_80 ?_
              refine lv_i2l (v := (h0_eRight x1.toNatClampNeg).toInt64) hx hb dX8_told_81 rfl ?_
              refine lv_goto (tgt := 105) hx hb dX8_told_82 (by decide) ?_
              have h := Option.some.inj h
              subst h
              subst hQ
              exact W.lret (v := (h0_eRight x1.toNatClampNeg).toInt64) hx hb hr (fun t ht hW => ⟨⟨(h0_eRight x1.toNatClampNeg).toInt64, (), rfl, ⟨rfl, trivial⟩, by rw [ht]; exact hP, hD⟩, hS.F ht⟩) hS.2.2 dX8_told_105
          · have k_44 : x2 = 0 := c_43
            have h := co_t k_44 h
            refine lv_aload_n hx hb dX8_told_61 rfl (lv_at hl 1 rfl) ?_
            refine va_get (D := D) (ci := 8) (v := .ref q0_eSet) (C := RX8) (T := TX8) (N := 43) hx hb hts in_X8_told_X8 hown hK hP 0 rfl rfl 3 (by decide) lk_4 (fun _ h9 => h9) rfl dX8_told_62 ?_
            refine lv_iload_n hx hb dX8_told_65 rfl (lv_at hl 2 rfl) ?_
            obtain ⟨b_52, h⟩ := co_i h
            refine va_lald hx hb hK hP 1 1 rfl rfl b_52 dX8_told_66 ?_
            refine lv_goto (tgt := 105) hx hb dX8_told_67 (by decide) ?_
            have h := Option.some.inj h
            subst h
            subst hQ
            exact W.lret (v := h0_eSet x1.toNatClampNeg) hx hb hr (fun t ht hW => ⟨⟨h0_eSet x1.toNatClampNeg, (), rfl, ⟨rfl, trivial⟩, by rw [ht]; exact hP, hD⟩, hS.F ht⟩) hS.2.2 dX8_told_105
        · have k_42 : ¬ (u_39.1 = true) := (kx_z c_41)
          have h := co_f k_42 h
          refine lv_lconst (v := (0 : Int64)) hx hb dX8_told_55 (by decide) ?_
          have h := Option.some.inj h
          subst h
          subst hQ
          exact W.lret (v := (0 : Int64)) hx hb hr (fun t ht hW => ⟨⟨(0 : Int64), (), rfl, ⟨rfl, trivial⟩, by rw [ht]; exact hP, hD⟩, hS.F ht⟩) hS.2.2 dX8_told_56
    · have k_20 : ¬ ((2 : Int32) ≤ x2) := c_19
      have h := co_f k_20 h
      refine lv_aload_n hx hb dX8_told_23 rfl (lv_at hl 1 rfl) ?_
      refine va_get (D := D) (ci := 8) (v := .int f0_equations) (C := RX8) (T := TX8) (N := 43) hx hb hts in_X8_told_X8 hown hK hP 0 rfl rfl 2 (by decide) lk_6 (fun _ h9 => h9) rfl dX8_told_24 ?_
      refine lv_goto (tgt := 34) hx hb dX8_told_27 (by decide) ?_
      refine lv_iconst (v := (1 : Int32)) hx hb dX8_told_34 (by decide) ?_
      refine lv_isub hx hb dX8_told_35 ?_
      refine lv_i2l (v := (f0_equations - (1 : Int32)).toInt64) hx hb dX8_told_36 rfl ?_
      obtain ⟨u_53, hu_54, h⟩ := co_b h
      refine kx_i (ws' := fun _ => [(q0, .inr (8, [.int f0_thrown, v0_n, .int f0_equations, .ref q0_eSet, .ref q0_eRight, .int f0_clauses, .ref q0_cYes, .ref q0_cNo, v0_levels, v0_levelEquations, v0_levelClauses, v0_tape, v0_tapeSize, v0_faultIs, v0_faultAt, v0_at, v0_newEquations, v0_newClauses, v0_newSet, v0_newRight, v0_newYes, v0_newNo, v0_lineYes, v0_lineNo, v0_rowCount, v0_rSet, v0_rRight, v0_isImpossible, v0_sumSet, v0_sumOf, v0_sumRight, v0_empty, v0_empties, v0_taken, v0_ones, v0_waitTaken, v0_waitOnes, v0_nodeCount, v0_lastModel, v0_modelCount, v0_modelIs, v0_gSet, v0_gateCount])), (q0_eSet, .inl (cL, n0_eSet, .inr (.inl h0_eSet))), (q0_eRight, .inl (cI, n0_eRight, .inl h0_eRight)), (q0_cYes, .inl (cL, n0_cYes, .inr (.inl h0_cYes))), (q0_cNo, .inl (cL, n0_cNo, .inr (.inl h0_cNo)))]) hP hD hS hA [] [0, 1, 2, 3, 4] [0, 1, 2, 3, 4] rfl rfl (by decide) (by decide) (fun _ => rfl) (by decide) (va_runS (As := [.long x1.toInt64, .long (0 : Int64), .long ((f0_equations - (1 : Int32)).toInt64)]) (rest := [.ref q0]) ⟨hx, hb, hml, hown, hts⟩ (cm_X8_isIn l D cI cL (x0 := x1.toInt64) (x2 := (0 : Int64)) (x4 := (f0_equations - (1 : Int32)).toInt64) (r0 := u_53) (hr0 := hu_54) (sz := H.size)) (va_cwS 3 hts gX8_told_X8_isIn rfl rfl rfl (by decide +kernel) ⟨Nat.le_of_ble_eq_true rfl, Nat.le_of_ble_eq_true rfl⟩) (kx_preS hEV hP hD [] rfl (by decide)) rfl rfl hl.1 rfl (lv_room (Nat.le_of_ble_eq_true rfl)) dX8_told_37 ⟨Nat.le_of_ble_eq_true rfl, Nat.le_of_ble_eq_true rfl⟩) (fun _ H locs _ hP hD hS => ?_)
      refine lv_if_eq (tgt := 47) hx hb dX8_told_40 (by decide) (fun c_55 => ?_) (fun c_55 => ?_)
      · have k_56 : ¬ (u_53 = true) := (kx_z c_55)
        have h := co_f k_56 h
        refine lv_iconst (v := (0 : Int32)) hx hb dX8_told_47 (by decide) ?_
        refine lv_iload_n hx hb dX8_told_48 rfl (lv_at hl 0 rfl) ?_
        obtain ⟨u_57, hu_58, h⟩ := co_b h
        refine kx_i (ws' := fun _ => [(q0, .inr (8, [.int u_57.2, v0_n, .int f0_equations, .ref q0_eSet, .ref q0_eRight, .int f0_clauses, .ref q0_cYes, .ref q0_cNo, v0_levels, v0_levelEquations, v0_levelClauses, v0_tape, v0_tapeSize, v0_faultIs, v0_faultAt, v0_at, v0_newEquations, v0_newClauses, v0_newSet, v0_newRight, v0_newYes, v0_newNo, v0_lineYes, v0_lineNo, v0_rowCount, v0_rSet, v0_rRight, v0_isImpossible, v0_sumSet, v0_sumOf, v0_sumRight, v0_empty, v0_empties, v0_taken, v0_ones, v0_waitTaken, v0_waitOnes, v0_nodeCount, v0_lastModel, v0_modelCount, v0_modelIs, v0_gSet, v0_gateCount])), (q0_eSet, .inl (cL, n0_eSet, .inr (.inl h0_eSet))), (q0_eRight, .inl (cI, n0_eRight, .inl h0_eRight)), (q0_cYes, .inl (cL, n0_cYes, .inr (.inl h0_cYes))), (q0_cNo, .inl (cL, n0_cNo, .inr (.inl h0_cNo)))]) hP hD hS hA [0] [1, 2, 3, 4] [4, 0, 1, 2, 3] rfl rfl (by decide) (by decide) (fun _ => rfl) (by decide) (va_runV (As := [.int (bI false), .int (bI u_1)]) (rest := []) ⟨hx, hb, hml, hown, hts⟩ (cm_X8_may l D cI cL (q0 := q0) (f0_thrown := f0_thrown) (v0_n := v0_n) (v0_equations := .int f0_equations) (v0_eSet := .ref q0_eSet) (v0_eRight := .ref q0_eRight) (v0_clauses := .int f0_clauses) (v0_cYes := .ref q0_cYes) (v0_cNo := .ref q0_cNo) (v0_levels := v0_levels) (v0_levelEquations := v0_levelEquations) (v0_levelClauses := v0_levelClauses) (v0_tape := v0_tape) (v0_tapeSize := v0_tapeSize) (v0_faultIs := v0_faultIs) (v0_faultAt := v0_faultAt) (v0_at := v0_at) (v0_newEquations := v0_newEquations) (v0_newClauses := v0_newClauses) (v0_newSet := v0_newSet) (v0_newRight := v0_newRight) (v0_newYes := v0_newYes) (v0_newNo := v0_newNo) (v0_lineYes := v0_lineYes) (v0_lineNo := v0_lineNo) (v0_rowCount := v0_rowCount) (v0_rSet := v0_rSet) (v0_rRight := v0_rRight) (v0_isImpossible := v0_isImpossible) (v0_sumSet := v0_sumSet) (v0_sumOf := v0_sumOf) (v0_sumRight := v0_sumRight) (v0_empty := v0_empty) (v0_empties := v0_empties) (v0_taken := v0_taken) (v0_ones := v0_ones) (v0_waitTaken := v0_waitTaken) (v0_waitOnes := v0_waitOnes) (v0_nodeCount := v0_nodeCount) (v0_lastModel := v0_lastModel) (v0_modelCount := v0_modelCount) (v0_modelIs := v0_modelIs) (v0_gSet := v0_gSet) (v0_gateCount := v0_gateCount) (x1 := false) (x2 := u_1) (r0 := u_57) (hr0 := hu_58) (sz := H.size)) (cwV 2 hts gX8_told_X8_may rfl rfl rfl (by decide +kernel) ⟨Nat.le_of_ble_eq_true rfl, Nat.le_of_ble_eq_true rfl⟩) (kx_preV hEV hP hD [0] rfl (by decide) (k0 := 0) (ci := 8) rfl rfl rfl) rfl rfl hl.1 rfl (lv_room (Nat.le_of_ble_eq_true rfl)) dX8_told_49 ⟨Nat.le_of_ble_eq_true rfl, Nat.le_of_ble_eq_true rfl⟩) (fun _ H locs _ hP hD hS => ?_)
        refine lv_if_ne (tgt := 57) hx hb dX8_told_52 (by decide) (fun c_59 => ?_) (fun c_59 => ?_)
        · have k_60 : u_57.1 = true := (kx_nz c_59)
          have h := co_t k_60 h
          refine lv_iload_n hx hb dX8_told_57 rfl (lv_at hl 3 rfl) ?_
          refine lv_if_ne (tgt := 70) hx hb dX8_told_58 (by decide) (fun c_61 => ?_) (fun c_61 => ?_)
          · have k_62 : ¬ (x2 = 0) := c_61
            have h := co_f k_62 h
            refine lv_iload_n hx hb dX8_told_70 rfl (lv_at hl 3 rfl) ?_
            refine lv_iconst (v := (1 : Int32)) hx hb dX8_told_71 (by decide) ?_
            refine lv_icmp_ne (tgt := 85) hx hb dX8_told_72 (by decide) (fun c_63 => ?_) (fun c_63 => ?_)
            · have k_64 : ¬ (x2 = (1 : Int32)) := c_63
              have h := co_f k_64 h
              refine lv_iload_n hx hb dX8_told_85 rfl (lv_at hl 3 rfl) ?_
              refine lv_iconst (v := (2 : Int32)) hx hb dX8_told_86 (by decide) ?_
              refine lv_icmp_ne (tgt := 99) hx hb dX8_told_87 (by decide) (fun c_65 => ?_) (fun c_65 => ?_)
              · have k_66 : ¬ (x2 = (2 : Int32)) := c_65
                have h := co_f k_66 h
                refine lv_aload_n hx hb dX8_told_99 rfl (lv_at hl 1 rfl) ?_
                refine va_get (D := D) (ci := 8) (v := .ref q0_cNo) (C := RX8) (T := TX8) (N := 43) hx hb hts in_X8_told_X8 hown hK hP 0 rfl rfl 7 (by decide) lk_1 (fun _ h9 => h9) rfl dX8_told_100 ?_
                refine lv_iload_n hx hb dX8_told_103 rfl (lv_at hl 2 rfl) ?_
                obtain ⟨b_67, h⟩ := co_i h
                refine va_lald hx hb hK hP 4 1 rfl rfl b_67 dX8_told_104 ?_
                have h := Option.some.inj h
                subst h
                subst hQ
                exact W.lret (v := h0_cNo x1.toNatClampNeg) hx hb hr (fun t ht hW => ⟨⟨h0_cNo x1.toNatClampNeg, (), rfl, ⟨rfl, trivial⟩, by rw [ht]; exact hP, hD⟩, hS.F ht⟩) hS.2.2 dX8_told_105
              · have k_66 : x2 = (2 : Int32) := c_65
                have h := co_t k_66 h
                refine lv_aload_n hx hb dX8_told_90 rfl (lv_at hl 1 rfl) ?_
                refine va_get (D := D) (ci := 8) (v := .ref q0_cYes) (C := RX8) (T := TX8) (N := 43) hx hb hts in_X8_told_X8 hown hK hP 0 rfl rfl 6 (by decide) lk_2 (fun _ h9 => h9) rfl dX8_told_91 ?_
                refine lv_iload_n hx hb dX8_told_94 rfl (lv_at hl 2 rfl) ?_
                obtain ⟨b_68, h⟩ := co_i h
                refine va_lald hx hb hK hP 3 1 rfl rfl b_68 dX8_told_95 ?_
                refine lv_goto (tgt := 105) hx hb dX8_told_96 (by decide) ?_
                have h := Option.some.inj h
                subst h
                subst hQ
                exact W.lret (v := h0_cYes x1.toNatClampNeg) hx hb hr (fun t ht hW => ⟨⟨h0_cYes x1.toNatClampNeg, (), rfl, ⟨rfl, trivial⟩, by rw [ht]; exact hP, hD⟩, hS.F ht⟩) hS.2.2 dX8_told_105
            · have k_64 : x2 = (1 : Int32) := c_63
              have h := co_t k_64 h
              refine lv_aload_n hx hb dX8_told_75 rfl (lv_at hl 1 rfl) ?_
              refine va_get (D := D) (ci := 8) (v := .ref q0_eRight) (C := RX8) (T := TX8) (N := 43) hx hb hts in_X8_told_X8 hown hK hP 0 rfl rfl 4 (by decide) lk_3 (fun _ h9 => h9) rfl dX8_told_76 ?_
              refine lv_iload_n hx hb dX8_told_79 rfl (lv_at hl 2 rfl) ?_
              obtain ⟨b_69, h⟩ := co_i h
              refine va_iald hx hb hK hP 2 0 rfl rfl b_69 dX8_told_80 ?_
              refine lv_i2l (v := (h0_eRight x1.toNatClampNeg).toInt64) hx hb dX8_told_81 rfl ?_
              refine lv_goto (tgt := 105) hx hb dX8_told_82 (by decide) ?_
              have h := Option.some.inj h
              subst h
              subst hQ
              exact W.lret (v := (h0_eRight x1.toNatClampNeg).toInt64) hx hb hr (fun t ht hW => ⟨⟨(h0_eRight x1.toNatClampNeg).toInt64, (), rfl, ⟨rfl, trivial⟩, by rw [ht]; exact hP, hD⟩, hS.F ht⟩) hS.2.2 dX8_told_105
          · have k_62 : x2 = 0 := c_61
            have h := co_t k_62 h
            refine lv_aload_n hx hb dX8_told_61 rfl (lv_at hl 1 rfl) ?_
            refine va_get (D := D) (ci := 8) (v := .ref q0_eSet) (C := RX8) (T := TX8) (N := 43) hx hb hts in_X8_told_X8 hown hK hP 0 rfl rfl 3 (by decide) lk_4 (fun _ h9 => h9) rfl dX8_told_62 ?_
            refine lv_iload_n hx hb dX8_told_65 rfl (lv_at hl 2 rfl) ?_
            obtain ⟨b_70, h⟩ := co_i h
            refine va_lald hx hb hK hP 1 1 rfl rfl b_70 dX8_told_66 ?_
            refine lv_goto (tgt := 105) hx hb dX8_told_67 (by decide) ?_
            have h := Option.some.inj h
            subst h
            subst hQ
            exact W.lret (v := h0_eSet x1.toNatClampNeg) hx hb hr (fun t ht hW => ⟨⟨h0_eSet x1.toNatClampNeg, (), rfl, ⟨rfl, trivial⟩, by rw [ht]; exact hP, hD⟩, hS.F ht⟩) hS.2.2 dX8_told_105
        · have k_60 : ¬ (u_57.1 = true) := (kx_z c_59)
          have h := co_f k_60 h
          refine lv_lconst (v := (0 : Int64)) hx hb dX8_told_55 (by decide) ?_
          have h := Option.some.inj h
          subst h
          subst hQ
          exact W.lret (v := (0 : Int64)) hx hb hr (fun t ht hW => ⟨⟨(0 : Int64), (), rfl, ⟨rfl, trivial⟩, by rw [ht]; exact hP, hD⟩, hS.F ht⟩) hS.2.2 dX8_told_56
      · have k_56 : u_53 = true := (kx_nz c_55)
        have h := co_t k_56 h
        refine lv_iconst (v := (1 : Int32)) hx hb dX8_told_43 (by decide) ?_
        refine lv_goto (tgt := 48) hx hb dX8_told_44 (by decide) ?_
        refine lv_iload_n hx hb dX8_told_48 rfl (lv_at hl 0 rfl) ?_
        obtain ⟨u_71, hu_72, h⟩ := co_b h
        refine kx_i (ws' := fun _ => [(q0, .inr (8, [.int u_71.2, v0_n, .int f0_equations, .ref q0_eSet, .ref q0_eRight, .int f0_clauses, .ref q0_cYes, .ref q0_cNo, v0_levels, v0_levelEquations, v0_levelClauses, v0_tape, v0_tapeSize, v0_faultIs, v0_faultAt, v0_at, v0_newEquations, v0_newClauses, v0_newSet, v0_newRight, v0_newYes, v0_newNo, v0_lineYes, v0_lineNo, v0_rowCount, v0_rSet, v0_rRight, v0_isImpossible, v0_sumSet, v0_sumOf, v0_sumRight, v0_empty, v0_empties, v0_taken, v0_ones, v0_waitTaken, v0_waitOnes, v0_nodeCount, v0_lastModel, v0_modelCount, v0_modelIs, v0_gSet, v0_gateCount])), (q0_eSet, .inl (cL, n0_eSet, .inr (.inl h0_eSet))), (q0_eRight, .inl (cI, n0_eRight, .inl h0_eRight)), (q0_cYes, .inl (cL, n0_cYes, .inr (.inl h0_cYes))), (q0_cNo, .inl (cL, n0_cNo, .inr (.inl h0_cNo)))]) hP hD hS hA [0] [1, 2, 3, 4] [4, 0, 1, 2, 3] rfl rfl (by decide) (by decide) (fun _ => rfl) (by decide) (va_runV (As := [.int (bI true), .int (bI u_1)]) (rest := []) ⟨hx, hb, hml, hown, hts⟩ (cm_X8_may l D cI cL (q0 := q0) (f0_thrown := f0_thrown) (v0_n := v0_n) (v0_equations := .int f0_equations) (v0_eSet := .ref q0_eSet) (v0_eRight := .ref q0_eRight) (v0_clauses := .int f0_clauses) (v0_cYes := .ref q0_cYes) (v0_cNo := .ref q0_cNo) (v0_levels := v0_levels) (v0_levelEquations := v0_levelEquations) (v0_levelClauses := v0_levelClauses) (v0_tape := v0_tape) (v0_tapeSize := v0_tapeSize) (v0_faultIs := v0_faultIs) (v0_faultAt := v0_faultAt) (v0_at := v0_at) (v0_newEquations := v0_newEquations) (v0_newClauses := v0_newClauses) (v0_newSet := v0_newSet) (v0_newRight := v0_newRight) (v0_newYes := v0_newYes) (v0_newNo := v0_newNo) (v0_lineYes := v0_lineYes) (v0_lineNo := v0_lineNo) (v0_rowCount := v0_rowCount) (v0_rSet := v0_rSet) (v0_rRight := v0_rRight) (v0_isImpossible := v0_isImpossible) (v0_sumSet := v0_sumSet) (v0_sumOf := v0_sumOf) (v0_sumRight := v0_sumRight) (v0_empty := v0_empty) (v0_empties := v0_empties) (v0_taken := v0_taken) (v0_ones := v0_ones) (v0_waitTaken := v0_waitTaken) (v0_waitOnes := v0_waitOnes) (v0_nodeCount := v0_nodeCount) (v0_lastModel := v0_lastModel) (v0_modelCount := v0_modelCount) (v0_modelIs := v0_modelIs) (v0_gSet := v0_gSet) (v0_gateCount := v0_gateCount) (x1 := true) (x2 := u_1) (r0 := u_71) (hr0 := hu_72) (sz := H.size)) (cwV 2 hts gX8_told_X8_may rfl rfl rfl (by decide +kernel) ⟨Nat.le_of_ble_eq_true rfl, Nat.le_of_ble_eq_true rfl⟩) (kx_preV hEV hP hD [0] rfl (by decide) (k0 := 0) (ci := 8) rfl rfl rfl) rfl rfl hl.1 rfl (lv_room (Nat.le_of_ble_eq_true rfl)) dX8_told_49 ⟨Nat.le_of_ble_eq_true rfl, Nat.le_of_ble_eq_true rfl⟩) (fun _ H locs _ hP hD hS => ?_)
        refine lv_if_ne (tgt := 57) hx hb dX8_told_52 (by decide) (fun c_73 => ?_) (fun c_73 => ?_)
        · have k_74 : u_71.1 = true := (kx_nz c_73)
          have h := co_t k_74 h
          refine lv_iload_n hx hb dX8_told_57 rfl (lv_at hl 3 rfl) ?_
          refine lv_if_ne (tgt := 70) hx hb dX8_told_58 (by decide) (fun c_75 => ?_) (fun c_75 => ?_)
          · have k_76 : ¬ (x2 = 0) := c_75
            have h := co_f k_76 h
            refine lv_iload_n hx hb dX8_told_70 rfl (lv_at hl 3 rfl) ?_
            refine lv_iconst (v := (1 : Int32)) hx hb dX8_told_71 (by decide) ?_
            refine lv_icmp_ne (tgt := 85) hx hb dX8_told_72 (by decide) (fun c_77 => ?_) (fun c_77 => ?_)
            · have k_78 : ¬ (x2 = (1 : Int32)) := c_77
              have h := co_f k_78 h
              refine lv_iload_n hx hb dX8_told_85 rfl (lv_at hl 3 rfl) ?_
              refine lv_iconst (v := (2 : Int32)) hx hb dX8_told_86 (by decide) ?_
              refine lv_icmp_ne (tgt := 99) hx hb dX8_told_87 (by decide) (fun c_79 => ?_) (fun c_79 => ?_)
              · have k_80 : ¬ (x2 = (2 : Int32)) := c_79
                have h := co_f k_80 h
                refine lv_aload_n hx hb dX8_told_99 rfl (lv_at hl 1 rfl) ?_
                refine va_get (D := D) (ci := 8) (v := .ref q0_cNo) (C := RX8) (T := TX8) (N := 43) hx hb hts in_X8_told_X8 hown hK hP 0 rfl rfl 7 (by decide) lk_1 (fun _ h9 => h9) rfl dX8_told_100 ?_
                refine lv_iload_n hx hb dX8_told_103 rfl (lv_at hl 2 rfl) ?_
                obtain ⟨b_81, h⟩ := co_i h
                refine va_lald hx hb hK hP 4 1 rfl rfl b_81 dX8_told_104 ?_
                have h := Option.some.inj h
                subst h
                subst hQ
                exact W.lret (v := h0_cNo x1.toNatClampNeg) hx hb hr (fun t ht hW => ⟨⟨h0_cNo x1.toNatClampNeg, (), rfl, ⟨rfl, trivial⟩, by rw [ht]; exact hP, hD⟩, hS.F ht⟩) hS.2.2 dX8_told_105
              · have k_80 : x2 = (2 : Int32) := c_79
                have h := co_t k_80 h
                refine lv_aload_n hx hb dX8_told_90 rfl (lv_at hl 1 rfl) ?_
                refine va_get (D := D) (ci := 8) (v := .ref q0_cYes) (C := RX8) (T := TX8) (N := 43) hx hb hts in_X8_told_X8 hown hK hP 0 rfl rfl 6 (by decide) lk_2 (fun _ h9 => h9) rfl dX8_told_91 ?_
                refine lv_iload_n hx hb dX8_told_94 rfl (lv_at hl 2 rfl) ?_
                obtain ⟨b_82, h⟩ := co_i h
                refine va_lald hx hb hK hP 3 1 rfl rfl b_82 dX8_told_95 ?_
                refine lv_goto (tgt := 105) hx hb dX8_told_96 (by decide) ?_
                have h := Option.some.inj h
                subst h
                subst hQ
                exact W.lret (v := h0_cYes x1.toNatClampNeg) hx hb hr (fun t ht hW => ⟨⟨h0_cYes x1.toNatClampNeg, (), rfl, ⟨rfl, trivial⟩, by rw [ht]; exact hP, hD⟩, hS.F ht⟩) hS.2.2 dX8_told_105
            · have k_78 : x2 = (1 : Int32) := c_77
              have h := co_t k_78 h
              refine lv_aload_n hx hb dX8_told_75 rfl (lv_at hl 1 rfl) ?_
              refine va_get (D := D) (ci := 8) (v := .ref q0_eRight) (C := RX8) (T := TX8) (N := 43) hx hb hts in_X8_told_X8 hown hK hP 0 rfl rfl 4 (by decide) lk_3 (fun _ h9 => h9) rfl dX8_told_76 ?_
              refine lv_iload_n hx hb dX8_told_79 rfl (lv_at hl 2 rfl) ?_
              obtain ⟨b_83, h⟩ := co_i h
              refine va_iald hx hb hK hP 2 0 rfl rfl b_83 dX8_told_80 ?_
              refine lv_i2l (v := (h0_eRight x1.toNatClampNeg).toInt64) hx hb dX8_told_81 rfl ?_
              refine lv_goto (tgt := 105) hx hb dX8_told_82 (by decide) ?_
              have h := Option.some.inj h
              subst h
              subst hQ
              exact W.lret (v := (h0_eRight x1.toNatClampNeg).toInt64) hx hb hr (fun t ht hW => ⟨⟨(h0_eRight x1.toNatClampNeg).toInt64, (), rfl, ⟨rfl, trivial⟩, by rw [ht]; exact hP, hD⟩, hS.F ht⟩) hS.2.2 dX8_told_105
          · have k_76 : x2 = 0 := c_75
            have h := co_t k_76 h
            refine lv_aload_n hx hb dX8_told_61 rfl (lv_at hl 1 rfl) ?_
            refine va_get (D := D) (ci := 8) (v := .ref q0_eSet) (C := RX8) (T := TX8) (N := 43) hx hb hts in_X8_told_X8 hown hK hP 0 rfl rfl 3 (by decide) lk_4 (fun _ h9 => h9) rfl dX8_told_62 ?_
            refine lv_iload_n hx hb dX8_told_65 rfl (lv_at hl 2 rfl) ?_
            obtain ⟨b_84, h⟩ := co_i h
            refine va_lald hx hb hK hP 1 1 rfl rfl b_84 dX8_told_66 ?_
            refine lv_goto (tgt := 105) hx hb dX8_told_67 (by decide) ?_
            have h := Option.some.inj h
            subst h
            subst hQ
            exact W.lret (v := h0_eSet x1.toNatClampNeg) hx hb hr (fun t ht hW => ⟨⟨h0_eSet x1.toNatClampNeg, (), rfl, ⟨rfl, trivial⟩, by rw [ht]; exact hP, hD⟩, hS.F ht⟩) hS.2.2 dX8_told_105
        · have k_74 : ¬ (u_71.1 = true) := (kx_z c_73)
          have h := co_f k_74 h
          refine lv_lconst (v := (0 : Int64)) hx hb dX8_told_55 (by decide) ?_
          have h := Option.some.inj h
          subst h
          subst hQ
          exact W.lret (v := (0 : Int64)) hx hb hr (fun t ht hW => ⟨⟨(0 : Int64), (), rfl, ⟨rfl, trivial⟩, by rw [ht]; exact hP, hD⟩, hS.F ht⟩) hS.2.2 dX8_told_56
theorem in_X8_feed_X8 : ∀ w ∈ wsX80, w ∈ wsX8_feed := by decide +kernel
theorem lk_0_X8_feed : Cond.constantLong RX8 113 (8) ∈ wsX8_feed := by decide +kernel
theorem lk_1_X8_feed : Cond.fieldLink RX8 115 "ParityClausesModel" "tapeSize" "I" ∈ wsX8_feed := by decide +kernel
theorem lk_2_X8_feed : Cond.fieldLink RX8 29 "ParityClausesModel" "tape" "[I" ∈ wsX8_feed := by decide +kernel
theorem lk_3_X8_feed : Cond.constantLong RX8 118 (255) ∈ wsX8_feed := by decide +kernel
abbrev rm_X8_feed : Room := { frames := 1, cells := 0, slots := 0, locals := 25 }
set_option maxHeartbeats 4000000 in
set_option maxRecDepth 100000 in
theorem cm_X8_feed (l : Launch) (D : va_G) (cI cL : ClassId) (q0 q0_tape : Nat) (n0_tape : Nat) (f0_thrown : Int32) (f0_tapeSize : Int32) (h0_tape : Nat → Int32) (v0_n v0_equations v0_eSet v0_eRight v0_clauses v0_cYes v0_cNo v0_levels v0_levelEquations v0_levelClauses v0_faultIs v0_faultAt v0_at v0_newEquations v0_newClauses v0_newSet v0_newRight v0_newYes v0_newNo v0_lineYes v0_lineNo v0_rowCount v0_rSet v0_rRight v0_isImpossible v0_sumSet v0_sumOf v0_sumRight v0_empty v0_empties v0_taken v0_ones v0_waitTaken v0_waitOnes v0_nodeCount v0_lastModel v0_modelCount v0_modelIs v0_gSet v0_gateCount : Value) (x1 : Int64) (x3 : Int32) (r0 : Int32 × Int32 × Int32 × (Nat → Int32)) (hr0 : D_X8_feed f0_thrown f0_tapeSize n0_tape h0_tape x1 x3 = some r0) (sz : Nat) : Met l yX8_feed wsX8_feed rm_X8_feed (PcW D cI cL [.ref q0, .long x1, .int x3] [(q0, .inr (8, [.int f0_thrown, v0_n, v0_equations, v0_eSet, v0_eRight, v0_clauses, v0_cYes, v0_cNo, v0_levels, v0_levelEquations, v0_levelClauses, .ref q0_tape, .int f0_tapeSize, v0_faultIs, v0_faultAt, v0_at, v0_newEquations, v0_newClauses, v0_newSet, v0_newRight, v0_newYes, v0_newNo, v0_lineYes, v0_lineNo, v0_rowCount, v0_rSet, v0_rRight, v0_isImpossible, v0_sumSet, v0_sumOf, v0_sumRight, v0_empty, v0_empties, v0_taken, v0_ones, v0_waitTaken, v0_waitOnes, v0_nodeCount, v0_lastModel, v0_modelCount, v0_modelIs, v0_gSet, v0_gateCount])), (q0_tape, .inl (cI, n0_tape, .inl h0_tape))] sz) (QiW D [(q0, .inr (8, [.int f0_thrown, v0_n, v0_equations, v0_eSet, v0_eRight, v0_clauses, v0_cYes, v0_cNo, v0_levels, v0_levelEquations, v0_levelClauses, .ref q0_tape, .int f0_tapeSize, v0_faultIs, v0_faultAt, v0_at, v0_newEquations, v0_newClauses, v0_newSet, v0_newRight, v0_newYes, v0_newNo, v0_lineYes, v0_lineNo, v0_rowCount, v0_rSet, v0_rRight, v0_isImpossible, v0_sumSet, v0_sumOf, v0_sumRight, v0_empty, v0_empties, v0_taken, v0_ones, v0_waitTaken, v0_waitOnes, v0_nodeCount, v0_lastModel, v0_modelCount, v0_modelIs, v0_gSet, v0_gateCount])), (q0_tape, .inl (cI, n0_tape, .inl h0_tape))] r0.1 (fun _ : Unit => [(q0, .inr (8, [.int r0.2.1, v0_n, v0_equations, v0_eSet, v0_eRight, v0_clauses, v0_cYes, v0_cNo, v0_levels, v0_levelEquations, v0_levelClauses, .ref q0_tape, .int r0.2.2.1, v0_faultIs, v0_faultAt, v0_at, v0_newEquations, v0_newClauses, v0_newSet, v0_newRight, v0_newYes, v0_newNo, v0_lineYes, v0_lineNo, v0_rowCount, v0_rSet, v0_rRight, v0_isImpossible, v0_sumSet, v0_sumOf, v0_sumRight, v0_empty, v0_empties, v0_taken, v0_ones, v0_waitTaken, v0_waitOnes, v0_nodeCount, v0_lastModel, v0_modelCount, v0_modelIs, v0_gSet, v0_gateCount])), (q0_tape, .inl (cI, n0_tape, .inl r0.2.2.2))]) tU sz) 0 0 (va_A [(q0, .inr (8, [.int f0_thrown, v0_n, v0_equations, v0_eSet, v0_eRight, v0_clauses, v0_cYes, v0_cNo, v0_levels, v0_levelEquations, v0_levelClauses, .ref q0_tape, .int f0_tapeSize, v0_faultIs, v0_faultAt, v0_at, v0_newEquations, v0_newClauses, v0_newSet, v0_newRight, v0_newYes, v0_newNo, v0_lineYes, v0_lineNo, v0_rowCount, v0_rSet, v0_rRight, v0_isImpossible, v0_sumSet, v0_sumOf, v0_sumRight, v0_empty, v0_empties, v0_taken, v0_ones, v0_waitTaken, v0_waitOnes, v0_nodeCount, v0_lastModel, v0_modelCount, v0_modelIs, v0_gSet, v0_gateCount])), (q0_tape, .inl (cI, n0_tape, .inl h0_tape))] sz) := by
  refine Met.ofW (cc := cX8_feed) (maxL := 5) (ret := (some .int)) (by decide) rfl ?_
  intro p e s m args below meth c s₁ B hml hv
  obtain ⟨hargs, hsz, hP, hEV, hD0⟩ := hv
  have hx := B.exec
  have hb := B.bytes
  have hr := B.returns
  have hts := atoms_spec (ws := wsX8_feed) B.pre
  have hown : s.vm.findClass RX8 = some m.cls := findClass_of_methodNamed B.named
  have hlocks := B.notSynchronized
  have hK := hEV.K
  have lk_0 := hts _ lk_0_X8_feed
  have lk_1 := hts _ lk_1_X8_feed
  have lk_2 := hts _ lk_2_X8_feed
  have lk_3 := hts _ lk_3_X8_feed
  subst hsz
  unfold QiW PoW
  have hD := hD0.self (sz := s.heap.size)
  generalize hAe : va_A [(q0, .inr (8, [.int f0_thrown, v0_n, v0_equations, v0_eSet, v0_eRight, v0_clauses, v0_cYes, v0_cNo, v0_levels, v0_levelEquations, v0_levelClauses, .ref q0_tape, .int f0_tapeSize, v0_faultIs, v0_faultAt, v0_at, v0_newEquations, v0_newClauses, v0_newSet, v0_newRight, v0_newYes, v0_newNo, v0_lineYes, v0_lineNo, v0_rowCount, v0_rSet, v0_rRight, v0_isImpossible, v0_sumSet, v0_sumOf, v0_sumRight, v0_empty, v0_empties, v0_taken, v0_ones, v0_waitTaken, v0_waitOnes, v0_nodeCount, v0_lastModel, v0_modelCount, v0_modelIs, v0_gSet, v0_gateCount])), (q0_tape, .inl (cI, n0_tape, .inl h0_tape))] s.heap.size = A at hD ⊢
  have hA : ∀ q : Nat, s.heap.size ≤ q → A q := fun q h => by rw [← hAe]; exact Or.inr h
  have hent : entryFrame m args 5 = entryFrame m ([.ref q0, .long x1, .int x3] : List Value).toArray 5 := by rw [hargs]
  rw [hent]
  refine kx_Q (fun Q hQ => ?_)
  refine kx_H (fun H hH => ?_)
  have hP : va_P D vwCl [(q0, .inr (8, [.int f0_thrown, v0_n, v0_equations, v0_eSet, v0_eRight, v0_clauses, v0_cYes, v0_cNo, v0_levels, v0_levelEquations, v0_levelClauses, .ref q0_tape, .int f0_tapeSize, v0_faultIs, v0_faultAt, v0_at, v0_newEquations, v0_newClauses, v0_newSet, v0_newRight, v0_newYes, v0_newNo, v0_lineYes, v0_lineNo, v0_rowCount, v0_rSet, v0_rRight, v0_isImpossible, v0_sumSet, v0_sumOf, v0_sumRight, v0_empty, v0_empties, v0_taken, v0_ones, v0_waitTaken, v0_waitOnes, v0_nodeCount, v0_lastModel, v0_modelCount, v0_modelIs, v0_gSet, v0_gateCount])), (q0_tape, .inl (cI, n0_tape, .inl h0_tape))] H := by rw [hH]; exact hP
  have hS : va_S A s.heap H [] := by rw [hH]; exact va_S.rf
  have hl := lv_entry ([.ref q0, .long x1, .int x3]) (n := 5) (Nat.le_of_ble_eq_true rfl)
  rw [lg_entry_eq]
  generalize (lg_sl ([.ref q0, .long x1, .int x3]) ++ List.replicate (5 - (lg_sl ([.ref q0, .long x1, .int x3])).length) Slot.unset).toArray = ls at hl ⊢
  have hl : lv_has ls 5 [(0, .ref q0), (1, .long x1), (3, .int x3)] := hl
  have hloop : ∀ n9 : Nat, (∀ (x4 : Int32) (f0_thrown : Int32) (f0_tapeSize : Int32) (h0_tape : Nat → Int32), iter (st_X8_feed n0_tape x1 x3) n9 (x4, f0_thrown, f0_tapeSize, h0_tape) = some r0 → ∀ (H : Heap) (locs : List Loc) (ls : Array Slot), va_P D vwCl [(q0, .inr (8, [.int f0_thrown, v0_n, v0_equations, v0_eSet, v0_eRight, v0_clauses, v0_cYes, v0_cNo, v0_levels, v0_levelEquations, v0_levelClauses, .ref q0_tape, .int f0_tapeSize, v0_faultIs, v0_faultAt, v0_at, v0_newEquations, v0_newClauses, v0_newSet, v0_newRight, v0_newYes, v0_newNo, v0_lineYes, v0_lineNo, v0_rowCount, v0_rSet, v0_rRight, v0_isImpossible, v0_sumSet, v0_sumOf, v0_sumRight, v0_empty, v0_empties, v0_taken, v0_ones, v0_waitTaken, v0_waitOnes, v0_nodeCount, v0_lastModel, v0_modelCount, v0_modelIs, v0_gSet, v0_gateCount])), (q0_tape, .inl (cI, n0_tape, .inl h0_tape))] H → va_D A [(q0, .inr (8, [.int f0_thrown, v0_n, v0_equations, v0_eSet, v0_eRight, v0_clauses, v0_cYes, v0_cNo, v0_levels, v0_levelEquations, v0_levelClauses, .ref q0_tape, .int f0_tapeSize, v0_faultIs, v0_faultAt, v0_at, v0_newEquations, v0_newClauses, v0_newSet, v0_newRight, v0_newYes, v0_newNo, v0_lineYes, v0_lineNo, v0_rowCount, v0_rSet, v0_rRight, v0_isImpossible, v0_sumSet, v0_sumOf, v0_sumRight, v0_empty, v0_empties, v0_taken, v0_ones, v0_waitTaken, v0_waitOnes, v0_nodeCount, v0_lastModel, v0_modelCount, v0_modelIs, v0_gSet, v0_gateCount])), (q0_tape, .inl (cI, n0_tape, .inl h0_tape))] → va_S A s.heap H locs → lv_has ls 5 [(0, .ref q0), (1, .long x1), (4, .int x4)] → W p l e (headSpec wsX8_feed rm_X8_feed).room s m args below meth c H locs 0 0 Q (F0 m 40 ls [])) := by
    intro n9
    induction n9 with
    | zero => exact (fun _ _ _ _ h => nomatch h)
    | succ n9 ih =>
      intro x4 f0_thrown f0_tapeSize h0_tape h H locs ls hP hD hS hl
      have h : run1 (iter (st_X8_feed n0_tape x1 x3) n9) (b_X8_feed_40 n0_tape x1 x3 x4 f0_thrown f0_tapeSize h0_tape) = some r0 := h
      unfold b_X8_feed_40 at h
      refine lv_iload hx hb dX8_feed_40 (lv_at hl 2 rfl) ?_
      refine lv_if_lt (tgt := 82) hx hb dX8_feed_42 (by decide) (fun c_13 => ?_) (fun c_13 => ?_)
      · have k_14 : x4 < 0 := c_13
        have h := cw_t k_14 h
        refine lv_aload_n hx hb dX8_feed_82 rfl (lv_at hl 0 rfl) ?_
        refine va_get (D := D) (ci := 8) (v := .int f0_tapeSize) (C := RX8) (T := TX8) (N := 43) hx hb hts in_X8_feed_X8 hown hK hP 0 rfl rfl 12 (by decide) lk_1 (fun _ h9 => h9) rfl dX8_feed_83 ?_
        have h := Option.some.inj h
        subst h
        subst hQ
        exact W.iret (v := f0_tapeSize) hx hb hr (fun t ht hW => ⟨⟨f0_tapeSize, (), rfl, ⟨rfl, trivial⟩, by rw [ht]; exact hP, hD⟩, hS.F ht⟩) hS.2.2 dX8_feed_86
      · have k_14 : ¬ (x4 < 0) := c_13
        have h := cw_f k_14 h
        refine lv_aload_n hx hb dX8_feed_45 rfl (lv_at hl 0 rfl) ?_
        refine va_get (D := D) (ci := 8) (v := .ref q0_tape) (C := RX8) (T := TX8) (N := 43) hx hb hts in_X8_feed_X8 hown hK hP 0 rfl rfl 11 (by decide) lk_2 (fun _ h9 => h9) rfl dX8_feed_46 ?_
        refine lv_aload_n hx hb dX8_feed_49 rfl (lv_at hl 0 rfl) ?_
        refine va_get (D := D) (ci := 8) (v := .int f0_tapeSize) (C := RX8) (T := TX8) (N := 43) hx hb hts in_X8_feed_X8 hown hK hP 0 rfl rfl 12 (by decide) lk_1 (fun _ h9 => h9) rfl dX8_feed_50 ?_
        refine lv_lload_n hx hb dX8_feed_53 rfl (lv_at hl 1 rfl) ?_
        refine lv_bipush (v := (8 : Int32)) hx hb dX8_feed_54 (by decide) ?_
        refine lv_iload hx hb dX8_feed_56 (lv_at hl 2 rfl) ?_
        refine lv_imul hx hb dX8_feed_58 ?_
        refine lv_lshr (v := jshr x1 ((8 : Int32) * x4)) hx hb dX8_feed_59 rfl ?_
        refine lv_ldc2 hx hb hown lk_3 dX8_feed_60 ?_
        refine lv_land hx hb dX8_feed_63 ?_
        refine lv_l2i (v := ((jshr x1 ((8 : Int32) * x4)) &&& (255 : Int64)).toInt32) hx hb dX8_feed_64 rfl ?_
        obtain ⟨b_15, h⟩ := cw_i h
        refine va_iast hx hb hK hP hD hS 1 0 rfl rfl b_15 dX8_feed_65 (fun H locs hP hD hS => ?_)
        have hP : va_P D vwCl [(q0, .inr (8, [.int f0_thrown, v0_n, v0_equations, v0_eSet, v0_eRight, v0_clauses, v0_cYes, v0_cNo, v0_levels, v0_levelEquations, v0_levelClauses, .ref q0_tape, .int f0_tapeSize, v0_faultIs, v0_faultAt, v0_at, v0_newEquations, v0_newClauses, v0_newSet, v0_newRight, v0_newYes, v0_newNo, v0_lineYes, v0_lineNo, v0_rowCount, v0_rSet, v0_rRight, v0_isImpossible, v0_sumSet, v0_sumOf, v0_sumRight, v0_empty, v0_empties, v0_taken, v0_ones, v0_waitTaken, v0_waitOnes, v0_nodeCount, v0_lastModel, v0_modelCount, v0_modelIs, v0_gSet, v0_gateCount])), (q0_tape, .inl (cI, n0_tape, .inl (upd h0_tape f0_tapeSize.toNatClampNeg (((jshr x1 ((8 : Int32) * x4)) &&& (255 : Int64)).toInt32))))] H := hP
        have hD : va_D A [(q0, .inr (8, [.int f0_thrown, v0_n, v0_equations, v0_eSet, v0_eRight, v0_clauses, v0_cYes, v0_cNo, v0_levels, v0_levelEquations, v0_levelClauses, .ref q0_tape, .int f0_tapeSize, v0_faultIs, v0_faultAt, v0_at, v0_newEquations, v0_newClauses, v0_newSet, v0_newRight, v0_newYes, v0_newNo, v0_lineYes, v0_lineNo, v0_rowCount, v0_rSet, v0_rRight, v0_isImpossible, v0_sumSet, v0_sumOf, v0_sumRight, v0_empty, v0_empties, v0_taken, v0_ones, v0_waitTaken, v0_waitOnes, v0_nodeCount, v0_lastModel, v0_modelCount, v0_modelIs, v0_gSet, v0_gateCount])), (q0_tape, .inl (cI, n0_tape, .inl (upd h0_tape f0_tapeSize.toNatClampNeg (((jshr x1 ((8 : Int32) * x4)) &&& (255 : Int64)).toInt32))))] := hD
        refine lv_aload_n hx hb dX8_feed_66 rfl (lv_at hl 0 rfl) ?_
        refine lv_dup hx hb dX8_feed_67 rfl ?_
        refine va_get (D := D) (ci := 8) (v := .int f0_tapeSize) (C := RX8) (T := TX8) (N := 43) hx hb hts in_X8_feed_X8 hown hK hP 0 rfl rfl 12 (by decide) lk_1 (fun _ h9 => h9) rfl dX8_feed_68 ?_
        refine lv_iconst (v := (1 : Int32)) hx hb dX8_feed_71 (by decide) ?_
        refine lv_iadd hx hb dX8_feed_72 ?_
        refine va_put (D := D) (ci := 8) (v := .int (f0_tapeSize + (1 : Int32))) (ty := .int) (C := RX8) (T := TX8) (N := 43) hx hb hts in_X8_feed_X8 tyX8 tyX8_ok nmX8 hown hK hP hD hS 0 rfl rfl 12 (by decide) lk_1 (fun _ h9 => h9) rfl (by decide +kernel) rfl rfl (Nat.le_of_ble_eq_true rfl) dX8_feed_73 (fun H locs hP hD hS => ?_)
        have hP : va_P D vwCl [(q0, .inr (8, [.int f0_thrown, v0_n, v0_equations, v0_eSet, v0_eRight, v0_clauses, v0_cYes, v0_cNo, v0_levels, v0_levelEquations, v0_levelClauses, .ref q0_tape, .int (f0_tapeSize + (1 : Int32)), v0_faultIs, v0_faultAt, v0_at, v0_newEquations, v0_newClauses, v0_newSet, v0_newRight, v0_newYes, v0_newNo, v0_lineYes, v0_lineNo, v0_rowCount, v0_rSet, v0_rRight, v0_isImpossible, v0_sumSet, v0_sumOf, v0_sumRight, v0_empty, v0_empties, v0_taken, v0_ones, v0_waitTaken, v0_waitOnes, v0_nodeCount, v0_lastModel, v0_modelCount, v0_modelIs, v0_gSet, v0_gateCount])), (q0_tape, .inl (cI, n0_tape, .inl (upd h0_tape f0_tapeSize.toNatClampNeg (((jshr x1 ((8 : Int32) * x4)) &&& (255 : Int64)).toInt32))))] H := hP
        have hD : va_D A [(q0, .inr (8, [.int f0_thrown, v0_n, v0_equations, v0_eSet, v0_eRight, v0_clauses, v0_cYes, v0_cNo, v0_levels, v0_levelEquations, v0_levelClauses, .ref q0_tape, .int (f0_tapeSize + (1 : Int32)), v0_faultIs, v0_faultAt, v0_at, v0_newEquations, v0_newClauses, v0_newSet, v0_newRight, v0_newYes, v0_newNo, v0_lineYes, v0_lineNo, v0_rowCount, v0_rSet, v0_rRight, v0_isImpossible, v0_sumSet, v0_sumOf, v0_sumRight, v0_empty, v0_empties, v0_taken, v0_ones, v0_waitTaken, v0_waitOnes, v0_nodeCount, v0_lastModel, v0_modelCount, v0_modelIs, v0_gSet, v0_gateCount])), (q0_tape, .inl (cI, n0_tape, .inl (upd h0_tape f0_tapeSize.toNatClampNeg (((jshr x1 ((8 : Int32) * x4)) &&& (255 : Int64)).toInt32))))] := hD
        refine lv_iinc (v := x4 + (-1 : Int32)) (lv' := [(4, .int (x4 + (-1 : Int32))), (0, .ref q0), (1, .long x1)]) hx hb dX8_feed_76 hl (k := 2) rfl rfl (by decide) rfl (fun ls hl => ?_)
        refine lv_goto (tgt := 40) hx hb dX8_feed_79 (by decide) ?_
        exact ih _ _ _ _ h _ _ _ hP hD hS (lv_sub hl [1, 2, 0] rfl)
  have h := hr0
  unfold D_X8_feed at h
  refine lv_aload_n hx hb dX8_feed_0 rfl (lv_at hl 0 rfl) ?_
  refine lv_iload_n hx hb dX8_feed_1 rfl (lv_at hl 2 rfl) ?_
  refine lv_i2l (v := x3.toInt64) hx hb dX8_feed_2 rfl ?_
  refine lv_lconst (v := (1 : Int64)) hx hb dX8_feed_3 (by decide) ?_
  refine lv_ldc2 hx hb hown lk_0 dX8_feed_4 ?_
  obtain ⟨u_1, hu_2, h⟩ := co_b h
  refine kx_i (ws' := fun _ => [(q0, .inr (8, [.int f0_thrown, v0_n, v0_equations, v0_eSet, v0_eRight, v0_clauses, v0_cYes, v0_cNo, v0_levels, v0_levelEquations, v0_levelClauses, .ref q0_tape, .int f0_tapeSize, v0_faultIs, v0_faultAt, v0_at, v0_newEquations, v0_newClauses, v0_newSet, v0_newRight, v0_newYes, v0_newNo, v0_lineYes, v0_lineNo, v0_rowCount, v0_rSet, v0_rRight, v0_isImpossible, v0_sumSet, v0_sumOf, v0_sumRight, v0_empty, v0_empties, v0_taken, v0_ones, v0_waitTaken, v0_waitOnes, v0_nodeCount, v0_lastModel, v0_modelCount, v0_modelIs, v0_gSet, v0_gateCount])), (q0_tape, .inl (cI, n0_tape, .inl h0_tape))]) hP hD hS hA [] [0, 1] [0, 1] rfl rfl (by decide) (by decide) (fun _ => rfl) (by decide) (va_runS (As := [.long x3.toInt64, .long (1 : Int64), .long (8 : Int64)]) (rest := [.ref q0]) ⟨hx, hb, hml, hown, hts⟩ (cm_X8_isIn l D cI cL (x0 := x3.toInt64) (x2 := (1 : Int64)) (x4 := (8 : Int64)) (r0 := u_1) (hr0 := hu_2) (sz := H.size)) (va_cwS 3 hts gX8_feed_X8_isIn rfl rfl rfl (by decide +kernel) ⟨Nat.le_of_ble_eq_true rfl, Nat.le_of_ble_eq_true rfl⟩) (kx_preS hEV hP hD [] rfl (by decide)) rfl rfl hl.1 rfl (lv_room (Nat.le_of_ble_eq_true rfl)) dX8_feed_7 ⟨Nat.le_of_ble_eq_true rfl, Nat.le_of_ble_eq_true rfl⟩) (fun _ H locs _ hP hD hS => ?_)
  refine lv_aload_n hx hb dX8_feed_10 rfl (lv_at hl 0 rfl) ?_
  refine va_get (D := D) (ci := 8) (v := .int f0_tapeSize) (C := RX8) (T := TX8) (N := 43) hx hb hts in_X8_feed_X8 hown hK hP 0 rfl rfl 12 (by decide) lk_1 (fun _ h9 => h9) rfl dX8_feed_11 ?_
  refine lv_iload_n hx hb dX8_feed_14 rfl (lv_at hl 2 rfl) ?_
  refine lv_iadd hx hb dX8_feed_15 ?_
  refine lv_sipush (v := (500 : Int32)) hx hb dX8_feed_16 (by decide) ?_
  refine lv_icmp_gt (tgt := 26) hx hb dX8_feed_19 (by decide) (fun c_3 => ?_) (fun c_3 => ?_)
  · have k_4 : (500 : Int32) < (f0_tapeSize + x3) := c_3
    have h := co_t k_4 h
    refine lv_iconst (v := (0 : Int32)) hx hb dX8_feed_26 (by decide) ?_
    obtain ⟨u_5, hu_6, h⟩ := co_b h
    refine kx_i (ws' := fun _ => [(q0, .inr (8, [.int u_5.2, v0_n, v0_equations, v0_eSet, v0_eRight, v0_clauses, v0_cYes, v0_cNo, v0_levels, v0_levelEquations, v0_levelClauses, .ref q0_tape, .int f0_tapeSize, v0_faultIs, v0_faultAt, v0_at, v0_newEquations, v0_newClauses, v0_newSet, v0_newRight, v0_newYes, v0_newNo, v0_lineYes, v0_lineNo, v0_rowCount, v0_rSet, v0_rRight, v0_isImpossible, v0_sumSet, v0_sumOf, v0_sumRight, v0_empty, v0_empties, v0_taken, v0_ones, v0_waitTaken, v0_waitOnes, v0_nodeCount, v0_lastModel, v0_modelCount, v0_modelIs, v0_gSet, v0_gateCount])), (q0_tape, .inl (cI, n0_tape, .inl h0_tape))]) hP hD hS hA [0] [1] [1, 0] rfl rfl (by decide) (by decide) (fun _ => rfl) (by decide) (va_runV (As := [.int (bI u_1), .int (bI false)]) (rest := []) ⟨hx, hb, hml, hown, hts⟩ (cm_X8_may l D cI cL (q0 := q0) (f0_thrown := f0_thrown) (v0_n := v0_n) (v0_equations := v0_equations) (v0_eSet := v0_eSet) (v0_eRight := v0_eRight) (v0_clauses := v0_clauses) (v0_cYes := v0_cYes) (v0_cNo := v0_cNo) (v0_levels := v0_levels) (v0_levelEquations := v0_levelEquations) (v0_levelClauses := v0_levelClauses) (v0_tape := .ref q0_tape) (v0_tapeSize := .int f0_tapeSize) (v0_faultIs := v0_faultIs) (v0_faultAt := v0_faultAt) (v0_at := v0_at) (v0_newEquations := v0_newEquations) (v0_newClauses := v0_newClauses) (v0_newSet := v0_newSet) (v0_newRight := v0_newRight) (v0_newYes := v0_newYes) (v0_newNo := v0_newNo) (v0_lineYes := v0_lineYes) (v0_lineNo := v0_lineNo) (v0_rowCount := v0_rowCount) (v0_rSet := v0_rSet) (v0_rRight := v0_rRight) (v0_isImpossible := v0_isImpossible) (v0_sumSet := v0_sumSet) (v0_sumOf := v0_sumOf) (v0_sumRight := v0_sumRight) (v0_empty := v0_empty) (v0_empties := v0_empties) (v0_taken := v0_taken) (v0_ones := v0_ones) (v0_waitTaken := v0_waitTaken) (v0_waitOnes := v0_waitOnes) (v0_nodeCount := v0_nodeCount) (v0_lastModel := v0_lastModel) (v0_modelCount := v0_modelCount) (v0_modelIs := v0_modelIs) (v0_gSet := v0_gSet) (v0_gateCount := v0_gateCount) (x1 := u_1) (x2 := false) (r0 := u_5) (hr0 := hu_6) (sz := H.size)) (cwV 2 hts gX8_feed_X8_may rfl rfl rfl (by decide +kernel) ⟨Nat.le_of_ble_eq_true rfl, Nat.le_of_ble_eq_true rfl⟩) (kx_preV hEV hP hD [0] rfl (by decide) (k0 := 0) (ci := 8) rfl rfl rfl) rfl rfl hl.1 rfl (lv_room (Nat.le_of_ble_eq_true rfl)) dX8_feed_27 ⟨Nat.le_of_ble_eq_true rfl, Nat.le_of_ble_eq_true rfl⟩) (fun _ H locs _ hP hD hS => ?_)
    refine lv_if_ne (tgt := 35) hx hb dX8_feed_30 (by decide) (fun c_7 => ?_) (fun c_7 => ?_)
    · have k_8 : u_5.1 = true := (kx_nz c_7)
      have h := co_t k_8 h
      refine lv_iload_n hx hb dX8_feed_35 rfl (lv_at hl 2 rfl) ?_
      refine lv_iconst (v := (1 : Int32)) hx hb dX8_feed_36 (by decide) ?_
      refine lv_isub hx hb dX8_feed_37 ?_
      refine lv_istore (lv' := [(4, .int (x3 - (1 : Int32))), (0, .ref q0), (1, .long x1), (3, .int x3)]) hx hb dX8_feed_38 hl (by decide) rfl (fun ls hl => ?_)
      obtain ⟨n9, hn9⟩ := runw_some h
      exact (hloop n9) _ _ _ _ hn9 _ _ _ hP hD hS (lv_sub hl [1, 2, 0] rfl)
    · have k_8 : ¬ (u_5.1 = true) := (kx_z c_7)
      have h := co_f k_8 h
      refine lv_iconst (v := (0 : Int32)) hx hb dX8_feed_33 (by decide) ?_
      have h := Option.some.inj h
      subst h
      subst hQ
      exact W.iret (v := (0 : Int32)) hx hb hr (fun t ht hW => ⟨⟨(0 : Int32), (), rfl, ⟨rfl, trivial⟩, by rw [ht]; exact hP, hD⟩, hS.F ht⟩) hS.2.2 dX8_feed_34
  · have k_4 : ¬ ((500 : Int32) < (f0_tapeSize + x3)) := c_3
    have h := co_f k_4 h
    refine lv_iconst (v := (1 : Int32)) hx hb dX8_feed_22 (by decide) ?_
    refine lv_goto (tgt := 27) hx hb dX8_feed_23 (by decide) ?_
    obtain ⟨u_9, hu_10, h⟩ := co_b h
    refine kx_i (ws' := fun _ => [(q0, .inr (8, [.int u_9.2, v0_n, v0_equations, v0_eSet, v0_eRight, v0_clauses, v0_cYes, v0_cNo, v0_levels, v0_levelEquations, v0_levelClauses, .ref q0_tape, .int f0_tapeSize, v0_faultIs, v0_faultAt, v0_at, v0_newEquations, v0_newClauses, v0_newSet, v0_newRight, v0_newYes, v0_newNo, v0_lineYes, v0_lineNo, v0_rowCount, v0_rSet, v0_rRight, v0_isImpossible, v0_sumSet, v0_sumOf, v0_sumRight, v0_empty, v0_empties, v0_taken, v0_ones, v0_waitTaken, v0_waitOnes, v0_nodeCount, v0_lastModel, v0_modelCount, v0_modelIs, v0_gSet, v0_gateCount])), (q0_tape, .inl (cI, n0_tape, .inl h0_tape))]) hP hD hS hA [0] [1] [1, 0] rfl rfl (by decide) (by decide) (fun _ => rfl) (by decide) (va_runV (As := [.int (bI u_1), .int (bI true)]) (rest := []) ⟨hx, hb, hml, hown, hts⟩ (cm_X8_may l D cI cL (q0 := q0) (f0_thrown := f0_thrown) (v0_n := v0_n) (v0_equations := v0_equations) (v0_eSet := v0_eSet) (v0_eRight := v0_eRight) (v0_clauses := v0_clauses) (v0_cYes := v0_cYes) (v0_cNo := v0_cNo) (v0_levels := v0_levels) (v0_levelEquations := v0_levelEquations) (v0_levelClauses := v0_levelClauses) (v0_tape := .ref q0_tape) (v0_tapeSize := .int f0_tapeSize) (v0_faultIs := v0_faultIs) (v0_faultAt := v0_faultAt) (v0_at := v0_at) (v0_newEquations := v0_newEquations) (v0_newClauses := v0_newClauses) (v0_newSet := v0_newSet) (v0_newRight := v0_newRight) (v0_newYes := v0_newYes) (v0_newNo := v0_newNo) (v0_lineYes := v0_lineYes) (v0_lineNo := v0_lineNo) (v0_rowCount := v0_rowCount) (v0_rSet := v0_rSet) (v0_rRight := v0_rRight) (v0_isImpossible := v0_isImpossible) (v0_sumSet := v0_sumSet) (v0_sumOf := v0_sumOf) (v0_sumRight := v0_sumRight) (v0_empty := v0_empty) (v0_empties := v0_empties) (v0_taken := v0_taken) (v0_ones := v0_ones) (v0_waitTaken := v0_waitTaken) (v0_waitOnes := v0_waitOnes) (v0_nodeCount := v0_nodeCount) (v0_lastModel := v0_lastModel) (v0_modelCount := v0_modelCount) (v0_modelIs := v0_modelIs) (v0_gSet := v0_gSet) (v0_gateCount := v0_gateCount) (x1 := u_1) (x2 := true) (r0 := u_9) (hr0 := hu_10) (sz := H.size)) (cwV 2 hts gX8_feed_X8_may rfl rfl rfl (by decide +kernel) ⟨Nat.le_of_ble_eq_true rfl, Nat.le_of_ble_eq_true rfl⟩) (kx_preV hEV hP hD [0] rfl (by decide) (k0 := 0) (ci := 8) rfl rfl rfl) rfl rfl hl.1 rfl (lv_room (Nat.le_of_ble_eq_true rfl)) dX8_feed_27 ⟨Nat.le_of_ble_eq_true rfl, Nat.le_of_ble_eq_true rfl⟩) (fun _ H locs _ hP hD hS => ?_)
    refine lv_if_ne (tgt := 35) hx hb dX8_feed_30 (by decide) (fun c_11 => ?_) (fun c_11 => ?_)
    · have k_12 : u_9.1 = true := (kx_nz c_11)
      have h := co_t k_12 h
      refine lv_iload_n hx hb dX8_feed_35 rfl (lv_at hl 2 rfl) ?_
      refine lv_iconst (v := (1 : Int32)) hx hb dX8_feed_36 (by decide) ?_
      refine lv_isub hx hb dX8_feed_37 ?_
      refine lv_istore (lv' := [(4, .int (x3 - (1 : Int32))), (0, .ref q0), (1, .long x1), (3, .int x3)]) hx hb dX8_feed_38 hl (by decide) rfl (fun ls hl => ?_)
      obtain ⟨n9, hn9⟩ := runw_some h
      exact (hloop n9) _ _ _ _ hn9 _ _ _ hP hD hS (lv_sub hl [1, 2, 0] rfl)
    · have k_12 : ¬ (u_9.1 = true) := (kx_z c_11)
      have h := co_f k_12 h
      refine lv_iconst (v := (0 : Int32)) hx hb dX8_feed_33 (by decide) ?_
      have h := Option.some.inj h
      subst h
      subst hQ
      exact W.iret (v := (0 : Int32)) hx hb hr (fun t ht hW => ⟨⟨(0 : Int32), (), rfl, ⟨rfl, trivial⟩, by rw [ht]; exact hP, hD⟩, hS.F ht⟩) hS.2.2 dX8_feed_34
theorem in_X8_fail_X8 : ∀ w ∈ wsX80, w ∈ wsX8_fail := by decide +kernel
theorem lk_0_X8_fail : Cond.fieldLink RX8 120 "ParityClausesModel" "faultIs" "I" ∈ wsX8_fail := by decide +kernel
theorem lk_1_X8_fail : Cond.fieldLink RX8 123 "ParityClausesModel" "faultAt" "I" ∈ wsX8_fail := by decide +kernel
abbrev rm_X8_fail : Room := { frames := 0, cells := 0, slots := 0, locals := 0 }
set_option maxHeartbeats 4000000 in
set_option maxRecDepth 100000 in
theorem cm_X8_fail (l : Launch) (D : va_G) (cI cL : ClassId) (q0 : Nat) (f0_faultIs : Int32) (f0_faultAt : Int32) (v0_thrown v0_n v0_equations v0_eSet v0_eRight v0_clauses v0_cYes v0_cNo v0_levels v0_levelEquations v0_levelClauses v0_tape v0_tapeSize v0_at v0_newEquations v0_newClauses v0_newSet v0_newRight v0_newYes v0_newNo v0_lineYes v0_lineNo v0_rowCount v0_rSet v0_rRight v0_isImpossible v0_sumSet v0_sumOf v0_sumRight v0_empty v0_empties v0_taken v0_ones v0_waitTaken v0_waitOnes v0_nodeCount v0_lastModel v0_modelCount v0_modelIs v0_gSet v0_gateCount : Value) (x1 : Int32) (x2 : Int32) (r0 : Int32 × Int32) (hr0 : D_X8_fail f0_faultIs f0_faultAt x1 x2 = some r0) (sz : Nat) : Met l yX8_fail wsX8_fail rm_X8_fail (PcW D cI cL [.ref q0, .int x1, .int x2] [(q0, .inr (8, [v0_thrown, v0_n, v0_equations, v0_eSet, v0_eRight, v0_clauses, v0_cYes, v0_cNo, v0_levels, v0_levelEquations, v0_levelClauses, v0_tape, v0_tapeSize, .int f0_faultIs, .int f0_faultAt, v0_at, v0_newEquations, v0_newClauses, v0_newSet, v0_newRight, v0_newYes, v0_newNo, v0_lineYes, v0_lineNo, v0_rowCount, v0_rSet, v0_rRight, v0_isImpossible, v0_sumSet, v0_sumOf, v0_sumRight, v0_empty, v0_empties, v0_taken, v0_ones, v0_waitTaken, v0_waitOnes, v0_nodeCount, v0_lastModel, v0_modelCount, v0_modelIs, v0_gSet, v0_gateCount]))] sz) (QvW D [(q0, .inr (8, [v0_thrown, v0_n, v0_equations, v0_eSet, v0_eRight, v0_clauses, v0_cYes, v0_cNo, v0_levels, v0_levelEquations, v0_levelClauses, v0_tape, v0_tapeSize, .int f0_faultIs, .int f0_faultAt, v0_at, v0_newEquations, v0_newClauses, v0_newSet, v0_newRight, v0_newYes, v0_newNo, v0_lineYes, v0_lineNo, v0_rowCount, v0_rSet, v0_rRight, v0_isImpossible, v0_sumSet, v0_sumOf, v0_sumRight, v0_empty, v0_empties, v0_taken, v0_ones, v0_waitTaken, v0_waitOnes, v0_nodeCount, v0_lastModel, v0_modelCount, v0_modelIs, v0_gSet, v0_gateCount]))] (fun _ : Unit => [(q0, .inr (8, [v0_thrown, v0_n, v0_equations, v0_eSet, v0_eRight, v0_clauses, v0_cYes, v0_cNo, v0_levels, v0_levelEquations, v0_levelClauses, v0_tape, v0_tapeSize, .int r0.1, .int r0.2, v0_at, v0_newEquations, v0_newClauses, v0_newSet, v0_newRight, v0_newYes, v0_newNo, v0_lineYes, v0_lineNo, v0_rowCount, v0_rSet, v0_rRight, v0_isImpossible, v0_sumSet, v0_sumOf, v0_sumRight, v0_empty, v0_empties, v0_taken, v0_ones, v0_waitTaken, v0_waitOnes, v0_nodeCount, v0_lastModel, v0_modelCount, v0_modelIs, v0_gSet, v0_gateCount]))]) tU sz) 0 0 (va_A [(q0, .inr (8, [v0_thrown, v0_n, v0_equations, v0_eSet, v0_eRight, v0_clauses, v0_cYes, v0_cNo, v0_levels, v0_levelEquations, v0_levelClauses, v0_tape, v0_tapeSize, .int f0_faultIs, .int f0_faultAt, v0_at, v0_newEquations, v0_newClauses, v0_newSet, v0_newRight, v0_newYes, v0_newNo, v0_lineYes, v0_lineNo, v0_rowCount, v0_rSet, v0_rRight, v0_isImpossible, v0_sumSet, v0_sumOf, v0_sumRight, v0_empty, v0_empties, v0_taken, v0_ones, v0_waitTaken, v0_waitOnes, v0_nodeCount, v0_lastModel, v0_modelCount, v0_modelIs, v0_gSet, v0_gateCount]))] sz) := by
  refine Met.ofW (cc := cX8_fail) (maxL := 3) (ret := none) (by decide) rfl ?_
  intro p e s m args below meth c s₁ B hml hv
  obtain ⟨hargs, hsz, hP, hEV, hD0⟩ := hv
  have hx := B.exec
  have hb := B.bytes
  have hr := B.returns
  have hts := atoms_spec (ws := wsX8_fail) B.pre
  have hown : s.vm.findClass RX8 = some m.cls := findClass_of_methodNamed B.named
  have hlocks := B.notSynchronized
  have hK := hEV.K
  have lk_0 := hts _ lk_0_X8_fail
  have lk_1 := hts _ lk_1_X8_fail
  subst hsz
  unfold QvW PoW
  have hD := hD0.self (sz := s.heap.size)
  generalize hAe : va_A [(q0, .inr (8, [v0_thrown, v0_n, v0_equations, v0_eSet, v0_eRight, v0_clauses, v0_cYes, v0_cNo, v0_levels, v0_levelEquations, v0_levelClauses, v0_tape, v0_tapeSize, .int f0_faultIs, .int f0_faultAt, v0_at, v0_newEquations, v0_newClauses, v0_newSet, v0_newRight, v0_newYes, v0_newNo, v0_lineYes, v0_lineNo, v0_rowCount, v0_rSet, v0_rRight, v0_isImpossible, v0_sumSet, v0_sumOf, v0_sumRight, v0_empty, v0_empties, v0_taken, v0_ones, v0_waitTaken, v0_waitOnes, v0_nodeCount, v0_lastModel, v0_modelCount, v0_modelIs, v0_gSet, v0_gateCount]))] s.heap.size = A at hD ⊢
  have hA : ∀ q : Nat, s.heap.size ≤ q → A q := fun q h => by rw [← hAe]; exact Or.inr h
  have hent : entryFrame m args 3 = entryFrame m ([.ref q0, .int x1, .int x2] : List Value).toArray 3 := by rw [hargs]
  rw [hent]
  refine kx_Q (fun Q hQ => ?_)
  refine kx_H (fun H hH => ?_)
  have hP : va_P D vwCl [(q0, .inr (8, [v0_thrown, v0_n, v0_equations, v0_eSet, v0_eRight, v0_clauses, v0_cYes, v0_cNo, v0_levels, v0_levelEquations, v0_levelClauses, v0_tape, v0_tapeSize, .int f0_faultIs, .int f0_faultAt, v0_at, v0_newEquations, v0_newClauses, v0_newSet, v0_newRight, v0_newYes, v0_newNo, v0_lineYes, v0_lineNo, v0_rowCount, v0_rSet, v0_rRight, v0_isImpossible, v0_sumSet, v0_sumOf, v0_sumRight, v0_empty, v0_empties, v0_taken, v0_ones, v0_waitTaken, v0_waitOnes, v0_nodeCount, v0_lastModel, v0_modelCount, v0_modelIs, v0_gSet, v0_gateCount]))] H := by rw [hH]; exact hP
  have hS : va_S A s.heap H [] := by rw [hH]; exact va_S.rf
  have hl := lv_entry ([.ref q0, .int x1, .int x2]) (n := 3) (Nat.le_of_ble_eq_true rfl)
  rw [lg_entry_eq]
  generalize (lg_sl ([.ref q0, .int x1, .int x2]) ++ List.replicate (3 - (lg_sl ([.ref q0, .int x1, .int x2])).length) Slot.unset).toArray = ls at hl ⊢
  have hl : lv_has ls 3 [(0, .ref q0), (1, .int x1), (2, .int x2)] := hl
  have h := hr0
  unfold D_X8_fail at h
  refine lv_aload_n hx hb dX8_fail_0 rfl (lv_at hl 0 rfl) ?_
  refine va_get (D := D) (ci := 8) (v := .int f0_faultIs) (C := RX8) (T := TX8) (N := 43) hx hb hts in_X8_fail_X8 hown hK hP 0 rfl rfl 13 (by decide) lk_0 (fun _ h9 => h9) rfl dX8_fail_1 ?_
  refine lv_if_ne (tgt := 17) hx hb dX8_fail_4 (by decide) (fun c_1 => ?_) (fun c_1 => ?_)
  · have k_2 : ¬ (f0_faultIs = 0) := c_1
    have h := co_f k_2 h
    have h := Option.some.inj h
    subst h
    subst hQ
    exact W.vret hx hb hr (fun t ht hW => ⟨⟨(), rfl, trivial, by rw [ht]; exact hP, hD⟩, hS.F ht⟩) hS.2.2 dX8_fail_17
  · have k_2 : f0_faultIs = 0 := c_1
    have h := co_t k_2 h
    refine lv_aload_n hx hb dX8_fail_7 rfl (lv_at hl 0 rfl) ?_
    refine lv_iload_n hx hb dX8_fail_8 rfl (lv_at hl 1 rfl) ?_
    refine va_put (D := D) (ci := 8) (v := .int x1) (ty := .int) (C := RX8) (T := TX8) (N := 43) hx hb hts in_X8_fail_X8 tyX8 tyX8_ok nmX8 hown hK hP hD hS 0 rfl rfl 13 (by decide) lk_0 (fun _ h9 => h9) rfl (by decide +kernel) rfl rfl (Nat.le_of_ble_eq_true rfl) dX8_fail_9 (fun H locs hP hD hS => ?_)
    have hP : va_P D vwCl [(q0, .inr (8, [v0_thrown, v0_n, v0_equations, v0_eSet, v0_eRight, v0_clauses, v0_cYes, v0_cNo, v0_levels, v0_levelEquations, v0_levelClauses, v0_tape, v0_tapeSize, .int x1, .int f0_faultAt, v0_at, v0_newEquations, v0_newClauses, v0_newSet, v0_newRight, v0_newYes, v0_newNo, v0_lineYes, v0_lineNo, v0_rowCount, v0_rSet, v0_rRight, v0_isImpossible, v0_sumSet, v0_sumOf, v0_sumRight, v0_empty, v0_empties, v0_taken, v0_ones, v0_waitTaken, v0_waitOnes, v0_nodeCount, v0_lastModel, v0_modelCount, v0_modelIs, v0_gSet, v0_gateCount]))] H := hP
    have hD : va_D A [(q0, .inr (8, [v0_thrown, v0_n, v0_equations, v0_eSet, v0_eRight, v0_clauses, v0_cYes, v0_cNo, v0_levels, v0_levelEquations, v0_levelClauses, v0_tape, v0_tapeSize, .int x1, .int f0_faultAt, v0_at, v0_newEquations, v0_newClauses, v0_newSet, v0_newRight, v0_newYes, v0_newNo, v0_lineYes, v0_lineNo, v0_rowCount, v0_rSet, v0_rRight, v0_isImpossible, v0_sumSet, v0_sumOf, v0_sumRight, v0_empty, v0_empties, v0_taken, v0_ones, v0_waitTaken, v0_waitOnes, v0_nodeCount, v0_lastModel, v0_modelCount, v0_modelIs, v0_gSet, v0_gateCount]))] := hD
    refine lv_aload_n hx hb dX8_fail_12 rfl (lv_at hl 0 rfl) ?_
    refine lv_iload_n hx hb dX8_fail_13 rfl (lv_at hl 2 rfl) ?_
    refine va_put (D := D) (ci := 8) (v := .int x2) (ty := .int) (C := RX8) (T := TX8) (N := 43) hx hb hts in_X8_fail_X8 tyX8 tyX8_ok nmX8 hown hK hP hD hS 0 rfl rfl 14 (by decide) lk_1 (fun _ h9 => h9) rfl (by decide +kernel) rfl rfl (Nat.le_of_ble_eq_true rfl) dX8_fail_14 (fun H locs hP hD hS => ?_)
    have hP : va_P D vwCl [(q0, .inr (8, [v0_thrown, v0_n, v0_equations, v0_eSet, v0_eRight, v0_clauses, v0_cYes, v0_cNo, v0_levels, v0_levelEquations, v0_levelClauses, v0_tape, v0_tapeSize, .int x1, .int x2, v0_at, v0_newEquations, v0_newClauses, v0_newSet, v0_newRight, v0_newYes, v0_newNo, v0_lineYes, v0_lineNo, v0_rowCount, v0_rSet, v0_rRight, v0_isImpossible, v0_sumSet, v0_sumOf, v0_sumRight, v0_empty, v0_empties, v0_taken, v0_ones, v0_waitTaken, v0_waitOnes, v0_nodeCount, v0_lastModel, v0_modelCount, v0_modelIs, v0_gSet, v0_gateCount]))] H := hP
    have hD : va_D A [(q0, .inr (8, [v0_thrown, v0_n, v0_equations, v0_eSet, v0_eRight, v0_clauses, v0_cYes, v0_cNo, v0_levels, v0_levelEquations, v0_levelClauses, v0_tape, v0_tapeSize, .int x1, .int x2, v0_at, v0_newEquations, v0_newClauses, v0_newSet, v0_newRight, v0_newYes, v0_newNo, v0_lineYes, v0_lineNo, v0_rowCount, v0_rSet, v0_rRight, v0_isImpossible, v0_sumSet, v0_sumOf, v0_sumRight, v0_empty, v0_empties, v0_taken, v0_ones, v0_waitTaken, v0_waitOnes, v0_nodeCount, v0_lastModel, v0_modelCount, v0_modelIs, v0_gSet, v0_gateCount]))] := hD
    have h := Option.some.inj h
    subst h
    subst hQ
    exact W.vret hx hb hr (fun t ht hW => ⟨⟨(), rfl, trivial, by rw [ht]; exact hP, hD⟩, hS.F ht⟩) hS.2.2 dX8_fail_17
abbrev rm_X8_isBlank : Room := { frames := 0, cells := 0, slots := 0, locals := 0 }
set_option maxHeartbeats 4000000 in
set_option maxRecDepth 100000 in
theorem cm_X8_isBlank (l : Launch) (D : va_G) (cI cL : ClassId) (x0 : Int32) (r0 : Bool) (hr0 : D_X8_isBlank x0 = some r0) (sz : Nat) : Met l yX8_isBlank wsX8_isBlank rm_X8_isBlank (PcW D cI cL [.int x0] [] sz) (QiW D [] (bI r0) (fun _ : Unit => []) tU sz) 0 0 (va_A [] sz) := by
  refine Met.ofW (cc := cX8_isBlank) (maxL := 1) (ret := (some .boolean)) (by decide) rfl ?_
  intro p e s m args below meth c s₁ B hml hv
  obtain ⟨hargs, hsz, hP, hEV, hD0⟩ := hv
  have hx := B.exec
  have hb := B.bytes
  have hr := B.returns
  have hts := atoms_spec (ws := wsX8_isBlank) B.pre
  have hown : s.vm.findClass RX8 = some m.cls := findClass_of_methodNamed B.named
  have hlocks := B.notSynchronized
  have hK := hEV.K
  subst hsz
  unfold QiW PoW
  have hD := hD0.self (sz := s.heap.size)
  generalize hAe : va_A [] s.heap.size = A at hD ⊢
  have hA : ∀ q : Nat, s.heap.size ≤ q → A q := fun q h => by rw [← hAe]; exact Or.inr h
  have hent : entryFrame m args 1 = entryFrame m ([.int x0] : List Value).toArray 1 := by rw [hargs]
  rw [hent]
  refine kx_Q (fun Q hQ => ?_)
  refine kx_H (fun H hH => ?_)
  have hP : va_P D vwCl [] H := by rw [hH]; exact hP
  have hS : va_S A s.heap H [] := by rw [hH]; exact va_S.rf
  have hl := lv_entry ([.int x0]) (n := 1) (Nat.le_of_ble_eq_true rfl)
  rw [lg_entry_eq]
  generalize (lg_sl ([.int x0]) ++ List.replicate (1 - (lg_sl ([.int x0])).length) Slot.unset).toArray = ls at hl ⊢
  have hl : lv_has ls 1 [(0, .int x0)] := hl
  have h := hr0
  unfold D_X8_isBlank at h
  refine lv_iload_n hx hb dX8_isBlank_0 rfl (lv_at hl 0 rfl) ?_
  refine lv_bipush (v := (32 : Int32)) hx hb dX8_isBlank_1 (by decide) ?_
  refine lv_icmp_eq (tgt := 12) hx hb dX8_isBlank_3 (by decide) (fun c_1 => ?_) (fun c_1 => ?_)
  · have k_2 : x0 = (32 : Int32) := c_1
    have h := co_t k_2 h
    refine lv_iconst (v := (1 : Int32)) hx hb dX8_isBlank_12 (by decide) ?_
    refine lv_goto (tgt := 17) hx hb dX8_isBlank_13 (by decide) ?_
    have h := Option.some.inj h
    subst h
    subst hQ
    exact W.zret (v := bI true) hx hb hr (bI_n true) (fun t ht hW => ⟨⟨bI true, (), rfl, ⟨rfl, trivial⟩, by rw [ht]; exact hP, hD⟩, hS.F ht⟩) hS.2.2 dX8_isBlank_17
  · have k_2 : ¬ (x0 = (32 : Int32)) := c_1
    have h := co_f k_2 h
    refine lv_iload_n hx hb dX8_isBlank_6 rfl (lv_at hl 0 rfl) ?_
    refine lv_bipush (v := (10 : Int32)) hx hb dX8_isBlank_7 (by decide) ?_
    refine lv_icmp_ne (tgt := 16) hx hb dX8_isBlank_9 (by decide) (fun c_3 => ?_) (fun c_3 => ?_)
    · have k_4 : ¬ (x0 = (10 : Int32)) := c_3
      have h := co_f k_4 h
      refine lv_iconst (v := (0 : Int32)) hx hb dX8_isBlank_16 (by decide) ?_
      have h := Option.some.inj h
      subst h
      subst hQ
      exact W.zret (v := bI false) hx hb hr (bI_n false) (fun t ht hW => ⟨⟨bI false, (), rfl, ⟨rfl, trivial⟩, by rw [ht]; exact hP, hD⟩, hS.F ht⟩) hS.2.2 dX8_isBlank_17
    · have k_4 : x0 = (10 : Int32) := c_3
      have h := co_t k_4 h
      refine lv_iconst (v := (1 : Int32)) hx hb dX8_isBlank_12 (by decide) ?_
      refine lv_goto (tgt := 17) hx hb dX8_isBlank_13 (by decide) ?_
      have h := Option.some.inj h
      subst h
      subst hQ
      exact W.zret (v := bI true) hx hb hr (bI_n true) (fun t ht hW => ⟨⟨bI true, (), rfl, ⟨rfl, trivial⟩, by rw [ht]; exact hP, hD⟩, hS.F ht⟩) hS.2.2 dX8_isBlank_17
theorem in_X8_here_X8 : ∀ w ∈ wsX80, w ∈ wsX8_here := by decide +kernel
theorem lk_0_X8_here : Cond.fieldLink RX8 126 "ParityClausesModel" "at" "I" ∈ wsX8_here := by decide +kernel
theorem lk_1_X8_here : Cond.fieldLink RX8 115 "ParityClausesModel" "tapeSize" "I" ∈ wsX8_here := by decide +kernel
theorem lk_2_X8_here : Cond.fieldLink RX8 29 "ParityClausesModel" "tape" "[I" ∈ wsX8_here := by decide +kernel
abbrev rm_X8_here : Room := { frames := 0, cells := 0, slots := 0, locals := 0 }
set_option maxHeartbeats 4000000 in
set_option maxRecDepth 100000 in
theorem cm_X8_here (l : Launch) (D : va_G) (cI cL : ClassId) (q0 q0_tape : Nat) (n0_tape : Nat) (f0_tapeSize : Int32) (f0_at : Int32) (h0_tape : Nat → Int32) (v0_thrown v0_n v0_equations v0_eSet v0_eRight v0_clauses v0_cYes v0_cNo v0_levels v0_levelEquations v0_levelClauses v0_faultIs v0_faultAt v0_newEquations v0_newClauses v0_newSet v0_newRight v0_newYes v0_newNo v0_lineYes v0_lineNo v0_rowCount v0_rSet v0_rRight v0_isImpossible v0_sumSet v0_sumOf v0_sumRight v0_empty v0_empties v0_taken v0_ones v0_waitTaken v0_waitOnes v0_nodeCount v0_lastModel v0_modelCount v0_modelIs v0_gSet v0_gateCount : Value) (r0 : Int32) (hr0 : D_X8_here f0_tapeSize f0_at n0_tape h0_tape = some r0) (sz : Nat) : Met l yX8_here wsX8_here rm_X8_here (PcW D cI cL [.ref q0] [(q0, .inr (8, [v0_thrown, v0_n, v0_equations, v0_eSet, v0_eRight, v0_clauses, v0_cYes, v0_cNo, v0_levels, v0_levelEquations, v0_levelClauses, .ref q0_tape, .int f0_tapeSize, v0_faultIs, v0_faultAt, .int f0_at, v0_newEquations, v0_newClauses, v0_newSet, v0_newRight, v0_newYes, v0_newNo, v0_lineYes, v0_lineNo, v0_rowCount, v0_rSet, v0_rRight, v0_isImpossible, v0_sumSet, v0_sumOf, v0_sumRight, v0_empty, v0_empties, v0_taken, v0_ones, v0_waitTaken, v0_waitOnes, v0_nodeCount, v0_lastModel, v0_modelCount, v0_modelIs, v0_gSet, v0_gateCount])), (q0_tape, .inl (cI, n0_tape, .inl h0_tape))] sz) (QiW D [(q0, .inr (8, [v0_thrown, v0_n, v0_equations, v0_eSet, v0_eRight, v0_clauses, v0_cYes, v0_cNo, v0_levels, v0_levelEquations, v0_levelClauses, .ref q0_tape, .int f0_tapeSize, v0_faultIs, v0_faultAt, .int f0_at, v0_newEquations, v0_newClauses, v0_newSet, v0_newRight, v0_newYes, v0_newNo, v0_lineYes, v0_lineNo, v0_rowCount, v0_rSet, v0_rRight, v0_isImpossible, v0_sumSet, v0_sumOf, v0_sumRight, v0_empty, v0_empties, v0_taken, v0_ones, v0_waitTaken, v0_waitOnes, v0_nodeCount, v0_lastModel, v0_modelCount, v0_modelIs, v0_gSet, v0_gateCount])), (q0_tape, .inl (cI, n0_tape, .inl h0_tape))] r0 (fun _ : Unit => [(q0, .inr (8, [v0_thrown, v0_n, v0_equations, v0_eSet, v0_eRight, v0_clauses, v0_cYes, v0_cNo, v0_levels, v0_levelEquations, v0_levelClauses, .ref q0_tape, .int f0_tapeSize, v0_faultIs, v0_faultAt, .int f0_at, v0_newEquations, v0_newClauses, v0_newSet, v0_newRight, v0_newYes, v0_newNo, v0_lineYes, v0_lineNo, v0_rowCount, v0_rSet, v0_rRight, v0_isImpossible, v0_sumSet, v0_sumOf, v0_sumRight, v0_empty, v0_empties, v0_taken, v0_ones, v0_waitTaken, v0_waitOnes, v0_nodeCount, v0_lastModel, v0_modelCount, v0_modelIs, v0_gSet, v0_gateCount])), (q0_tape, .inl (cI, n0_tape, .inl h0_tape))]) tU sz) 0 0 (va_A [(q0, .inr (8, [v0_thrown, v0_n, v0_equations, v0_eSet, v0_eRight, v0_clauses, v0_cYes, v0_cNo, v0_levels, v0_levelEquations, v0_levelClauses, .ref q0_tape, .int f0_tapeSize, v0_faultIs, v0_faultAt, .int f0_at, v0_newEquations, v0_newClauses, v0_newSet, v0_newRight, v0_newYes, v0_newNo, v0_lineYes, v0_lineNo, v0_rowCount, v0_rSet, v0_rRight, v0_isImpossible, v0_sumSet, v0_sumOf, v0_sumRight, v0_empty, v0_empties, v0_taken, v0_ones, v0_waitTaken, v0_waitOnes, v0_nodeCount, v0_lastModel, v0_modelCount, v0_modelIs, v0_gSet, v0_gateCount])), (q0_tape, .inl (cI, n0_tape, .inl h0_tape))] sz) := by
  refine Met.ofW (cc := cX8_here) (maxL := 1) (ret := (some .int)) (by decide) rfl ?_
  intro p e s m args below meth c s₁ B hml hv
  obtain ⟨hargs, hsz, hP, hEV, hD0⟩ := hv
  have hx := B.exec
  have hb := B.bytes
  have hr := B.returns
  have hts := atoms_spec (ws := wsX8_here) B.pre
  have hown : s.vm.findClass RX8 = some m.cls := findClass_of_methodNamed B.named
  have hlocks := B.notSynchronized
  have hK := hEV.K
  have lk_0 := hts _ lk_0_X8_here
  have lk_1 := hts _ lk_1_X8_here
  have lk_2 := hts _ lk_2_X8_here
  subst hsz
  unfold QiW PoW
  have hD := hD0.self (sz := s.heap.size)
  generalize hAe : va_A [(q0, .inr (8, [v0_thrown, v0_n, v0_equations, v0_eSet, v0_eRight, v0_clauses, v0_cYes, v0_cNo, v0_levels, v0_levelEquations, v0_levelClauses, .ref q0_tape, .int f0_tapeSize, v0_faultIs, v0_faultAt, .int f0_at, v0_newEquations, v0_newClauses, v0_newSet, v0_newRight, v0_newYes, v0_newNo, v0_lineYes, v0_lineNo, v0_rowCount, v0_rSet, v0_rRight, v0_isImpossible, v0_sumSet, v0_sumOf, v0_sumRight, v0_empty, v0_empties, v0_taken, v0_ones, v0_waitTaken, v0_waitOnes, v0_nodeCount, v0_lastModel, v0_modelCount, v0_modelIs, v0_gSet, v0_gateCount])), (q0_tape, .inl (cI, n0_tape, .inl h0_tape))] s.heap.size = A at hD ⊢
  have hA : ∀ q : Nat, s.heap.size ≤ q → A q := fun q h => by rw [← hAe]; exact Or.inr h
  have hent : entryFrame m args 1 = entryFrame m ([.ref q0] : List Value).toArray 1 := by rw [hargs]
  rw [hent]
  refine kx_Q (fun Q hQ => ?_)
  refine kx_H (fun H hH => ?_)
  have hP : va_P D vwCl [(q0, .inr (8, [v0_thrown, v0_n, v0_equations, v0_eSet, v0_eRight, v0_clauses, v0_cYes, v0_cNo, v0_levels, v0_levelEquations, v0_levelClauses, .ref q0_tape, .int f0_tapeSize, v0_faultIs, v0_faultAt, .int f0_at, v0_newEquations, v0_newClauses, v0_newSet, v0_newRight, v0_newYes, v0_newNo, v0_lineYes, v0_lineNo, v0_rowCount, v0_rSet, v0_rRight, v0_isImpossible, v0_sumSet, v0_sumOf, v0_sumRight, v0_empty, v0_empties, v0_taken, v0_ones, v0_waitTaken, v0_waitOnes, v0_nodeCount, v0_lastModel, v0_modelCount, v0_modelIs, v0_gSet, v0_gateCount])), (q0_tape, .inl (cI, n0_tape, .inl h0_tape))] H := by rw [hH]; exact hP
  have hS : va_S A s.heap H [] := by rw [hH]; exact va_S.rf
  have hl := lv_entry ([.ref q0]) (n := 1) (Nat.le_of_ble_eq_true rfl)
  rw [lg_entry_eq]
  generalize (lg_sl ([.ref q0]) ++ List.replicate (1 - (lg_sl ([.ref q0])).length) Slot.unset).toArray = ls at hl ⊢
  have hl : lv_has ls 1 [(0, .ref q0)] := hl
  have h := hr0
  unfold D_X8_here at h
  refine lv_aload_n hx hb dX8_here_0 rfl (lv_at hl 0 rfl) ?_
  refine va_get (D := D) (ci := 8) (v := .int f0_at) (C := RX8) (T := TX8) (N := 43) hx hb hts in_X8_here_X8 hown hK hP 0 rfl rfl 15 (by decide) lk_0 (fun _ h9 => h9) rfl dX8_here_1 ?_
  refine lv_aload_n hx hb dX8_here_4 rfl (lv_at hl 0 rfl) ?_
  refine va_get (D := D) (ci := 8) (v := .int f0_tapeSize) (C := RX8) (T := TX8) (N := 43) hx hb hts in_X8_here_X8 hown hK hP 0 rfl rfl 12 (by decide) lk_1 (fun _ h9 => h9) rfl dX8_here_5 ?_
  refine lv_icmp_ge (tgt := 23) hx hb dX8_here_8 (by decide) (fun c_1 => ?_) (fun c_1 => ?_)
  · have k_2 : f0_tapeSize ≤ f0_at := c_1
    have h := co_t k_2 h
    refine lv_iconst (v := (-1 : Int32)) hx hb dX8_here_23 (by decide) ?_
    have h := Option.some.inj h
    subst h
    subst hQ
    exact W.iret (v := (-1 : Int32)) hx hb hr (fun t ht hW => ⟨⟨(-1 : Int32), (), rfl, ⟨rfl, trivial⟩, by rw [ht]; exact hP, hD⟩, hS.F ht⟩) hS.2.2 dX8_here_24
  · have k_2 : ¬ (f0_tapeSize ≤ f0_at) := c_1
    have h := co_f k_2 h
    refine lv_aload_n hx hb dX8_here_11 rfl (lv_at hl 0 rfl) ?_
    refine va_get (D := D) (ci := 8) (v := .ref q0_tape) (C := RX8) (T := TX8) (N := 43) hx hb hts in_X8_here_X8 hown hK hP 0 rfl rfl 11 (by decide) lk_2 (fun _ h9 => h9) rfl dX8_here_12 ?_
    refine lv_aload_n hx hb dX8_here_15 rfl (lv_at hl 0 rfl) ?_
    refine va_get (D := D) (ci := 8) (v := .int f0_at) (C := RX8) (T := TX8) (N := 43) hx hb hts in_X8_here_X8 hown hK hP 0 rfl rfl 15 (by decide) lk_0 (fun _ h9 => h9) rfl dX8_here_16 ?_
    obtain ⟨b_3, h⟩ := co_i h
    refine va_iald hx hb hK hP 1 0 rfl rfl b_3 dX8_here_19 ?_
    refine lv_goto (tgt := 24) hx hb dX8_here_20 (by decide) ?_
    have h := Option.some.inj h
    subst h
    subst hQ
    exact W.iret (v := h0_tape f0_at.toNatClampNeg) hx hb hr (fun t ht hW => ⟨⟨h0_tape f0_at.toNatClampNeg, (), rfl, ⟨rfl, trivial⟩, by rw [ht]; exact hP, hD⟩, hS.F ht⟩) hS.2.2 dX8_here_24
theorem in_X8_skip_X8 : ∀ w ∈ wsX80, w ∈ wsX8_skip := by decide +kernel
theorem lk_0_X8_skip : Cond.fieldLink RX8 126 "ParityClausesModel" "at" "I" ∈ wsX8_skip := by decide +kernel
abbrev rm_X8_skip : Room := { frames := 1, cells := 0, slots := 0, locals := 20 }
set_option maxHeartbeats 4000000 in
set_option maxRecDepth 100000 in
theorem cm_X8_skip (l : Launch) (D : va_G) (cI cL : ClassId) (q0 q0_tape : Nat) (n0_tape : Nat) (f0_tapeSize : Int32) (f0_at : Int32) (h0_tape : Nat → Int32) (v0_thrown v0_n v0_equations v0_eSet v0_eRight v0_clauses v0_cYes v0_cNo v0_levels v0_levelEquations v0_levelClauses v0_faultIs v0_faultAt v0_newEquations v0_newClauses v0_newSet v0_newRight v0_newYes v0_newNo v0_lineYes v0_lineNo v0_rowCount v0_rSet v0_rRight v0_isImpossible v0_sumSet v0_sumOf v0_sumRight v0_empty v0_empties v0_taken v0_ones v0_waitTaken v0_waitOnes v0_nodeCount v0_lastModel v0_modelCount v0_modelIs v0_gSet v0_gateCount : Value) (r0 : Int32) (hr0 : D_X8_skip f0_tapeSize f0_at n0_tape h0_tape = some r0) (sz : Nat) : Met l yX8_skip wsX8_skip rm_X8_skip (PcW D cI cL [.ref q0] [(q0, .inr (8, [v0_thrown, v0_n, v0_equations, v0_eSet, v0_eRight, v0_clauses, v0_cYes, v0_cNo, v0_levels, v0_levelEquations, v0_levelClauses, .ref q0_tape, .int f0_tapeSize, v0_faultIs, v0_faultAt, .int f0_at, v0_newEquations, v0_newClauses, v0_newSet, v0_newRight, v0_newYes, v0_newNo, v0_lineYes, v0_lineNo, v0_rowCount, v0_rSet, v0_rRight, v0_isImpossible, v0_sumSet, v0_sumOf, v0_sumRight, v0_empty, v0_empties, v0_taken, v0_ones, v0_waitTaken, v0_waitOnes, v0_nodeCount, v0_lastModel, v0_modelCount, v0_modelIs, v0_gSet, v0_gateCount])), (q0_tape, .inl (cI, n0_tape, .inl h0_tape))] sz) (QvW D [(q0, .inr (8, [v0_thrown, v0_n, v0_equations, v0_eSet, v0_eRight, v0_clauses, v0_cYes, v0_cNo, v0_levels, v0_levelEquations, v0_levelClauses, .ref q0_tape, .int f0_tapeSize, v0_faultIs, v0_faultAt, .int f0_at, v0_newEquations, v0_newClauses, v0_newSet, v0_newRight, v0_newYes, v0_newNo, v0_lineYes, v0_lineNo, v0_rowCount, v0_rSet, v0_rRight, v0_isImpossible, v0_sumSet, v0_sumOf, v0_sumRight, v0_empty, v0_empties, v0_taken, v0_ones, v0_waitTaken, v0_waitOnes, v0_nodeCount, v0_lastModel, v0_modelCount, v0_modelIs, v0_gSet, v0_gateCount])), (q0_tape, .inl (cI, n0_tape, .inl h0_tape))] (fun _ : Unit => [(q0, .inr (8, [v0_thrown, v0_n, v0_equations, v0_eSet, v0_eRight, v0_clauses, v0_cYes, v0_cNo, v0_levels, v0_levelEquations, v0_levelClauses, .ref q0_tape, .int f0_tapeSize, v0_faultIs, v0_faultAt, .int r0, v0_newEquations, v0_newClauses, v0_newSet, v0_newRight, v0_newYes, v0_newNo, v0_lineYes, v0_lineNo, v0_rowCount, v0_rSet, v0_rRight, v0_isImpossible, v0_sumSet, v0_sumOf, v0_sumRight, v0_empty, v0_empties, v0_taken, v0_ones, v0_waitTaken, v0_waitOnes, v0_nodeCount, v0_lastModel, v0_modelCount, v0_modelIs, v0_gSet, v0_gateCount])), (q0_tape, .inl (cI, n0_tape, .inl h0_tape))]) tU sz) 0 0 (va_A [(q0, .inr (8, [v0_thrown, v0_n, v0_equations, v0_eSet, v0_eRight, v0_clauses, v0_cYes, v0_cNo, v0_levels, v0_levelEquations, v0_levelClauses, .ref q0_tape, .int f0_tapeSize, v0_faultIs, v0_faultAt, .int f0_at, v0_newEquations, v0_newClauses, v0_newSet, v0_newRight, v0_newYes, v0_newNo, v0_lineYes, v0_lineNo, v0_rowCount, v0_rSet, v0_rRight, v0_isImpossible, v0_sumSet, v0_sumOf, v0_sumRight, v0_empty, v0_empties, v0_taken, v0_ones, v0_waitTaken, v0_waitOnes, v0_nodeCount, v0_lastModel, v0_modelCount, v0_modelIs, v0_gSet, v0_gateCount])), (q0_tape, .inl (cI, n0_tape, .inl h0_tape))] sz) := by
  refine Met.ofW (cc := cX8_skip) (maxL := 1) (ret := none) (by decide) rfl ?_
  intro p e s m args below meth c s₁ B hml hv
  obtain ⟨hargs, hsz, hP, hEV, hD0⟩ := hv
  have hx := B.exec
  have hb := B.bytes
  have hr := B.returns
  have hts := atoms_spec (ws := wsX8_skip) B.pre
  have hown : s.vm.findClass RX8 = some m.cls := findClass_of_methodNamed B.named
  have hlocks := B.notSynchronized
  have hK := hEV.K
  have lk_0 := hts _ lk_0_X8_skip
  subst hsz
  unfold QvW PoW
  have hD := hD0.self (sz := s.heap.size)
  generalize hAe : va_A [(q0, .inr (8, [v0_thrown, v0_n, v0_equations, v0_eSet, v0_eRight, v0_clauses, v0_cYes, v0_cNo, v0_levels, v0_levelEquations, v0_levelClauses, .ref q0_tape, .int f0_tapeSize, v0_faultIs, v0_faultAt, .int f0_at, v0_newEquations, v0_newClauses, v0_newSet, v0_newRight, v0_newYes, v0_newNo, v0_lineYes, v0_lineNo, v0_rowCount, v0_rSet, v0_rRight, v0_isImpossible, v0_sumSet, v0_sumOf, v0_sumRight, v0_empty, v0_empties, v0_taken, v0_ones, v0_waitTaken, v0_waitOnes, v0_nodeCount, v0_lastModel, v0_modelCount, v0_modelIs, v0_gSet, v0_gateCount])), (q0_tape, .inl (cI, n0_tape, .inl h0_tape))] s.heap.size = A at hD ⊢
  have hA : ∀ q : Nat, s.heap.size ≤ q → A q := fun q h => by rw [← hAe]; exact Or.inr h
  have hent : entryFrame m args 1 = entryFrame m ([.ref q0] : List Value).toArray 1 := by rw [hargs]
  rw [hent]
  refine kx_Q (fun Q hQ => ?_)
  refine kx_H (fun H hH => ?_)
  have hP : va_P D vwCl [(q0, .inr (8, [v0_thrown, v0_n, v0_equations, v0_eSet, v0_eRight, v0_clauses, v0_cYes, v0_cNo, v0_levels, v0_levelEquations, v0_levelClauses, .ref q0_tape, .int f0_tapeSize, v0_faultIs, v0_faultAt, .int f0_at, v0_newEquations, v0_newClauses, v0_newSet, v0_newRight, v0_newYes, v0_newNo, v0_lineYes, v0_lineNo, v0_rowCount, v0_rSet, v0_rRight, v0_isImpossible, v0_sumSet, v0_sumOf, v0_sumRight, v0_empty, v0_empties, v0_taken, v0_ones, v0_waitTaken, v0_waitOnes, v0_nodeCount, v0_lastModel, v0_modelCount, v0_modelIs, v0_gSet, v0_gateCount])), (q0_tape, .inl (cI, n0_tape, .inl h0_tape))] H := by rw [hH]; exact hP
  have hS : va_S A s.heap H [] := by rw [hH]; exact va_S.rf
  have hl := lv_entry ([.ref q0]) (n := 1) (Nat.le_of_ble_eq_true rfl)
  rw [lg_entry_eq]
  generalize (lg_sl ([.ref q0]) ++ List.replicate (1 - (lg_sl ([.ref q0])).length) Slot.unset).toArray = ls at hl ⊢
  have hl : lv_has ls 1 [(0, .ref q0)] := hl
  have hloop : ∀ n9 : Nat, (∀ (f0_at : Int32), iter (st_X8_skip f0_tapeSize n0_tape h0_tape) n9 f0_at = some r0 → ∀ (H : Heap) (locs : List Loc) (ls : Array Slot), va_P D vwCl [(q0, .inr (8, [v0_thrown, v0_n, v0_equations, v0_eSet, v0_eRight, v0_clauses, v0_cYes, v0_cNo, v0_levels, v0_levelEquations, v0_levelClauses, .ref q0_tape, .int f0_tapeSize, v0_faultIs, v0_faultAt, .int f0_at, v0_newEquations, v0_newClauses, v0_newSet, v0_newRight, v0_newYes, v0_newNo, v0_lineYes, v0_lineNo, v0_rowCount, v0_rSet, v0_rRight, v0_isImpossible, v0_sumSet, v0_sumOf, v0_sumRight, v0_empty, v0_empties, v0_taken, v0_ones, v0_waitTaken, v0_waitOnes, v0_nodeCount, v0_lastModel, v0_modelCount, v0_modelIs, v0_gSet, v0_gateCount])), (q0_tape, .inl (cI, n0_tape, .inl h0_tape))] H → va_D A [(q0, .inr (8, [v0_thrown, v0_n, v0_equations, v0_eSet, v0_eRight, v0_clauses, v0_cYes, v0_cNo, v0_levels, v0_levelEquations, v0_levelClauses, .ref q0_tape, .int f0_tapeSize, v0_faultIs, v0_faultAt, .int f0_at, v0_newEquations, v0_newClauses, v0_newSet, v0_newRight, v0_newYes, v0_newNo, v0_lineYes, v0_lineNo, v0_rowCount, v0_rSet, v0_rRight, v0_isImpossible, v0_sumSet, v0_sumOf, v0_sumRight, v0_empty, v0_empties, v0_taken, v0_ones, v0_waitTaken, v0_waitOnes, v0_nodeCount, v0_lastModel, v0_modelCount, v0_modelIs, v0_gSet, v0_gateCount])), (q0_tape, .inl (cI, n0_tape, .inl h0_tape))] → va_S A s.heap H locs → lv_has ls 1 [(0, .ref q0)] → W p l e (headSpec wsX8_skip rm_X8_skip).room s m args below meth c H locs 0 0 Q (F0 m 0 ls [])) := by
    intro n9
    induction n9 with
    | zero => exact (fun _ h => nomatch h)
    | succ n9 ih =>
      intro f0_at h H locs ls hP hD hS hl
      have h : run1 (iter (st_X8_skip f0_tapeSize n0_tape h0_tape) n9) (b_X8_skip_0 f0_tapeSize n0_tape h0_tape f0_at) = some r0 := h
      unfold b_X8_skip_0 at h
      refine lv_aload_n hx hb dX8_skip_0 rfl (lv_at hl 0 rfl) ?_
      obtain ⟨u_1, hu_2, h⟩ := cw_b h
      refine kx_i (ws' := fun _ => [(q0, .inr (8, [v0_thrown, v0_n, v0_equations, v0_eSet, v0_eRight, v0_clauses, v0_cYes, v0_cNo, v0_levels, v0_levelEquations, v0_levelClauses, .ref q0_tape, .int f0_tapeSize, v0_faultIs, v0_faultAt, .int f0_at, v0_newEquations, v0_newClauses, v0_newSet, v0_newRight, v0_newYes, v0_newNo, v0_lineYes, v0_lineNo, v0_rowCount, v0_rSet, v0_rRight, v0_isImpossible, v0_sumSet, v0_sumOf, v0_sumRight, v0_empty, v0_empties, v0_taken, v0_ones, v0_waitTaken, v0_waitOnes, v0_nodeCount, v0_lastModel, v0_modelCount, v0_modelIs, v0_gSet, v0_gateCount])), (q0_tape, .inl (cI, n0_tape, .inl h0_tape))]) hP hD hS hA [0, 1] [] [0, 1] rfl rfl (by decide) (by decide) (fun _ => rfl) (by decide) (va_runV (As := []) (rest := []) ⟨hx, hb, hml, hown, hts⟩ (cm_X8_here l D cI cL (q0 := q0) (q0_tape := q0_tape) (n0_tape := n0_tape) (f0_tapeSize := f0_tapeSize) (f0_at := f0_at) (h0_tape := h0_tape) (v0_thrown := v0_thrown) (v0_n := v0_n) (v0_equations := v0_equations) (v0_eSet := v0_eSet) (v0_eRight := v0_eRight) (v0_clauses := v0_clauses) (v0_cYes := v0_cYes) (v0_cNo := v0_cNo) (v0_levels := v0_levels) (v0_levelEquations := v0_levelEquations) (v0_levelClauses := v0_levelClauses) (v0_faultIs := v0_faultIs) (v0_faultAt := v0_faultAt) (v0_newEquations := v0_newEquations) (v0_newClauses := v0_newClauses) (v0_newSet := v0_newSet) (v0_newRight := v0_newRight) (v0_newYes := v0_newYes) (v0_newNo := v0_newNo) (v0_lineYes := v0_lineYes) (v0_lineNo := v0_lineNo) (v0_rowCount := v0_rowCount) (v0_rSet := v0_rSet) (v0_rRight := v0_rRight) (v0_isImpossible := v0_isImpossible) (v0_sumSet := v0_sumSet) (v0_sumOf := v0_sumOf) (v0_sumRight := v0_sumRight) (v0_empty := v0_empty) (v0_empties := v0_empties) (v0_taken := v0_taken) (v0_ones := v0_ones) (v0_waitTaken := v0_waitTaken) (v0_waitOnes := v0_waitOnes) (v0_nodeCount := v0_nodeCount) (v0_lastModel := v0_lastModel) (v0_modelCount := v0_modelCount) (v0_modelIs := v0_modelIs) (v0_gSet := v0_gSet) (v0_gateCount := v0_gateCount) (r0 := u_1) (hr0 := hu_2) (sz := H.size)) (cwV 0 hts gX8_skip_X8_here rfl rfl rfl (by decide +kernel) ⟨Nat.le_of_ble_eq_true rfl, Nat.le_of_ble_eq_true rfl⟩) (kx_preV hEV hP hD [0, 1] rfl (by decide) (k0 := 0) (ci := 8) rfl rfl rfl) rfl rfl hl.1 rfl (lv_room (Nat.le_of_ble_eq_true rfl)) dX8_skip_1 ⟨Nat.le_of_ble_eq_true rfl, Nat.le_of_ble_eq_true rfl⟩) (fun _ H locs _ hP hD hS => ?_)
      obtain ⟨u_3, hu_4, h⟩ := cw_b h
      refine kx_i (ws' := fun _ => [(q0, .inr (8, [v0_thrown, v0_n, v0_equations, v0_eSet, v0_eRight, v0_clauses, v0_cYes, v0_cNo, v0_levels, v0_levelEquations, v0_levelClauses, .ref q0_tape, .int f0_tapeSize, v0_faultIs, v0_faultAt, .int f0_at, v0_newEquations, v0_newClauses, v0_newSet, v0_newRight, v0_newYes, v0_newNo, v0_lineYes, v0_lineNo, v0_rowCount, v0_rSet, v0_rRight, v0_isImpossible, v0_sumSet, v0_sumOf, v0_sumRight, v0_empty, v0_empties, v0_taken, v0_ones, v0_waitTaken, v0_waitOnes, v0_nodeCount, v0_lastModel, v0_modelCount, v0_modelIs, v0_gSet, v0_gateCount])), (q0_tape, .inl (cI, n0_tape, .inl h0_tape))]) hP hD hS hA [] [0, 1] [0, 1] rfl rfl (by decide) (by decide) (fun _ => rfl) (by decide) (va_runS (As := [.int u_1]) (rest := []) ⟨hx, hb, hml, hown, hts⟩ (cm_X8_isBlank l D cI cL (x0 := u_1) (r0 := u_3) (hr0 := hu_4) (sz := H.size)) (va_cwS 1 hts gX8_skip_X8_isBlank rfl rfl rfl (by decide +kernel) ⟨Nat.le_of_ble_eq_true rfl, Nat.le_of_ble_eq_true rfl⟩) (kx_preS hEV hP hD [] rfl (by decide)) rfl rfl hl.1 rfl (lv_room (Nat.le_of_ble_eq_true rfl)) dX8_skip_4 ⟨Nat.le_of_ble_eq_true rfl, Nat.le_of_ble_eq_true rfl⟩) (fun _ H locs _ hP hD hS => ?_)
      refine lv_if_eq (tgt := 23) hx hb dX8_skip_7 (by decide) (fun c_5 => ?_) (fun c_5 => ?_)
      · have k_6 : ¬ (u_3 = true) := (kx_z c_5)
        have h := cw_f k_6 h
        have h := Option.some.inj h
        subst h
        subst hQ
        exact W.vret hx hb hr (fun t ht hW => ⟨⟨(), rfl, trivial, by rw [ht]; exact hP, hD⟩, hS.F ht⟩) hS.2.2 dX8_skip_23
      · have k_6 : u_3 = true := (kx_nz c_5)
        have h := cw_t k_6 h
        refine lv_aload_n hx hb dX8_skip_10 rfl (lv_at hl 0 rfl) ?_
        refine lv_dup hx hb dX8_skip_11 rfl ?_
        refine va_get (D := D) (ci := 8) (v := .int f0_at) (C := RX8) (T := TX8) (N := 43) hx hb hts in_X8_skip_X8 hown hK hP 0 rfl rfl 15 (by decide) lk_0 (fun _ h9 => h9) rfl dX8_skip_12 ?_
        refine lv_iconst (v := (1 : Int32)) hx hb dX8_skip_15 (by decide) ?_
        refine lv_iadd hx hb dX8_skip_16 ?_
        refine va_put (D := D) (ci := 8) (v := .int (f0_at + (1 : Int32))) (ty := .int) (C := RX8) (T := TX8) (N := 43) hx hb hts in_X8_skip_X8 tyX8 tyX8_ok nmX8 hown hK hP hD hS 0 rfl rfl 15 (by decide) lk_0 (fun _ h9 => h9) rfl (by decide +kernel) rfl rfl (Nat.le_of_ble_eq_true rfl) dX8_skip_17 (fun H locs hP hD hS => ?_)
        have hP : va_P D vwCl [(q0, .inr (8, [v0_thrown, v0_n, v0_equations, v0_eSet, v0_eRight, v0_clauses, v0_cYes, v0_cNo, v0_levels, v0_levelEquations, v0_levelClauses, .ref q0_tape, .int f0_tapeSize, v0_faultIs, v0_faultAt, .int (f0_at + (1 : Int32)), v0_newEquations, v0_newClauses, v0_newSet, v0_newRight, v0_newYes, v0_newNo, v0_lineYes, v0_lineNo, v0_rowCount, v0_rSet, v0_rRight, v0_isImpossible, v0_sumSet, v0_sumOf, v0_sumRight, v0_empty, v0_empties, v0_taken, v0_ones, v0_waitTaken, v0_waitOnes, v0_nodeCount, v0_lastModel, v0_modelCount, v0_modelIs, v0_gSet, v0_gateCount])), (q0_tape, .inl (cI, n0_tape, .inl h0_tape))] H := hP
        have hD : va_D A [(q0, .inr (8, [v0_thrown, v0_n, v0_equations, v0_eSet, v0_eRight, v0_clauses, v0_cYes, v0_cNo, v0_levels, v0_levelEquations, v0_levelClauses, .ref q0_tape, .int f0_tapeSize, v0_faultIs, v0_faultAt, .int (f0_at + (1 : Int32)), v0_newEquations, v0_newClauses, v0_newSet, v0_newRight, v0_newYes, v0_newNo, v0_lineYes, v0_lineNo, v0_rowCount, v0_rSet, v0_rRight, v0_isImpossible, v0_sumSet, v0_sumOf, v0_sumRight, v0_empty, v0_empties, v0_taken, v0_ones, v0_waitTaken, v0_waitOnes, v0_nodeCount, v0_lastModel, v0_modelCount, v0_modelIs, v0_gSet, v0_gateCount])), (q0_tape, .inl (cI, n0_tape, .inl h0_tape))] := hD
        refine lv_goto (tgt := 0) hx hb dX8_skip_20 (by decide) ?_
        exact ih _ h _ _ _ hP hD hS (lv_sub hl [0] rfl)
  have h := hr0
  unfold D_X8_skip at h
  obtain ⟨n9, hn9⟩ := runw_some h
  exact (hloop n9) _ hn9 _ _ _ hP hD hS (lv_sub hl [0] rfl)
abbrev rm_X8_isFigure : Room := { frames := 0, cells := 0, slots := 0, locals := 0 }
set_option maxHeartbeats 4000000 in
set_option maxRecDepth 100000 in
theorem cm_X8_isFigure (l : Launch) (D : va_G) (cI cL : ClassId) (x0 : Int32) (r0 : Bool) (hr0 : D_X8_isFigure x0 = some r0) (sz : Nat) : Met l yX8_isFigure wsX8_isFigure rm_X8_isFigure (PcW D cI cL [.int x0] [] sz) (QiW D [] (bI r0) (fun _ : Unit => []) tU sz) 0 0 (va_A [] sz) := by
  refine Met.ofW (cc := cX8_isFigure) (maxL := 1) (ret := (some .boolean)) (by decide) rfl ?_
  intro p e s m args below meth c s₁ B hml hv
  obtain ⟨hargs, hsz, hP, hEV, hD0⟩ := hv
  have hx := B.exec
  have hb := B.bytes
  have hr := B.returns
  have hts := atoms_spec (ws := wsX8_isFigure) B.pre
  have hown : s.vm.findClass RX8 = some m.cls := findClass_of_methodNamed B.named
  have hlocks := B.notSynchronized
  have hK := hEV.K
  subst hsz
  unfold QiW PoW
  have hD := hD0.self (sz := s.heap.size)
  generalize hAe : va_A [] s.heap.size = A at hD ⊢
  have hA : ∀ q : Nat, s.heap.size ≤ q → A q := fun q h => by rw [← hAe]; exact Or.inr h
  have hent : entryFrame m args 1 = entryFrame m ([.int x0] : List Value).toArray 1 := by rw [hargs]
  rw [hent]
  refine kx_Q (fun Q hQ => ?_)
  refine kx_H (fun H hH => ?_)
  have hP : va_P D vwCl [] H := by rw [hH]; exact hP
  have hS : va_S A s.heap H [] := by rw [hH]; exact va_S.rf
  have hl := lv_entry ([.int x0]) (n := 1) (Nat.le_of_ble_eq_true rfl)
  rw [lg_entry_eq]
  generalize (lg_sl ([.int x0]) ++ List.replicate (1 - (lg_sl ([.int x0])).length) Slot.unset).toArray = ls at hl ⊢
  have hl : lv_has ls 1 [(0, .int x0)] := hl
  have h := hr0
  unfold D_X8_isFigure at h
  refine lv_iload_n hx hb dX8_isFigure_0 rfl (lv_at hl 0 rfl) ?_
  refine lv_bipush (v := (48 : Int32)) hx hb dX8_isFigure_1 (by decide) ?_
  refine lv_icmp_lt (tgt := 16) hx hb dX8_isFigure_3 (by decide) (fun c_1 => ?_) (fun c_1 => ?_)
  · have k_2 : x0 < (48 : Int32) := c_1
    have h := co_t k_2 h
    refine lv_iconst (v := (0 : Int32)) hx hb dX8_isFigure_16 (by decide) ?_
    have h := Option.some.inj h
    subst h
    subst hQ
    exact W.zret (v := bI false) hx hb hr (bI_n false) (fun t ht hW => ⟨⟨bI false, (), rfl, ⟨rfl, trivial⟩, by rw [ht]; exact hP, hD⟩, hS.F ht⟩) hS.2.2 dX8_isFigure_17
  · have k_2 : ¬ (x0 < (48 : Int32)) := c_1
    have h := co_f k_2 h
    refine lv_iload_n hx hb dX8_isFigure_6 rfl (lv_at hl 0 rfl) ?_
    refine lv_bipush (v := (57 : Int32)) hx hb dX8_isFigure_7 (by decide) ?_
    refine lv_icmp_gt (tgt := 16) hx hb dX8_isFigure_9 (by decide) (fun c_3 => ?_) (fun c_3 => ?_)
    · have k_4 : (57 : Int32) < x0 := c_3
      have h := co_t k_4 h
      refine lv_iconst (v := (0 : Int32)) hx hb dX8_isFigure_16 (by decide) ?_
      have h := Option.some.inj h
      subst h
      subst hQ
      exact W.zret (v := bI false) hx hb hr (bI_n false) (fun t ht hW => ⟨⟨bI false, (), rfl, ⟨rfl, trivial⟩, by rw [ht]; exact hP, hD⟩, hS.F ht⟩) hS.2.2 dX8_isFigure_17
    · have k_4 : ¬ ((57 : Int32) < x0) := c_3
      have h := co_f k_4 h
      refine lv_iconst (v := (1 : Int32)) hx hb dX8_isFigure_12 (by decide) ?_
      refine lv_goto (tgt := 17) hx hb dX8_isFigure_13 (by decide) ?_
      have h := Option.some.inj h
      subst h
      subst hQ
      exact W.zret (v := bI true) hx hb hr (bI_n true) (fun t ht hW => ⟨⟨bI true, (), rfl, ⟨rfl, trivial⟩, by rw [ht]; exact hP, hD⟩, hS.F ht⟩) hS.2.2 dX8_isFigure_17
