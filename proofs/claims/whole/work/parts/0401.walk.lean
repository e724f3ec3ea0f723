noncomputable def D_X8_clause (f0_thrown : Int32) (f0_n : Int32) (f0_clauses : Int32) (n0_cYes : Nat) (h0_cYes : Nat → Int64) (n0_cNo : Nat) (h0_cNo : Nat → Int64) (x1 : Int64) (x3 : Int64) : Option (Int32 × Int32 × Int32 × (Nat → Int64) × (Nat → Int64)) :=
  Option.bind (D_X8_areThere f0_n x1) (fun u_1 =>
    cif (u_1 = true)
      (Option.bind (D_X8_areThere f0_n x3) (fun u_19 =>
        cif (u_19 = true)
          (cif ((x1 &&& x3) = (0 : Int64))
            (cif ((60 : Int32) ≤ f0_clauses)
              (Option.bind (D_X8_may f0_thrown true false) (fun u_55 =>
                cif (u_55.1 = true)
                  (cif (vp_in f0_clauses n0_cYes)
                    (cif (vp_in f0_clauses n0_cNo)
                      (some ((f0_clauses + (1 : Int32)) - (1 : Int32), u_55.2, f0_clauses + (1 : Int32), vp_updL h0_cYes f0_clauses.toNatClampNeg x1, vp_updL h0_cNo f0_clauses.toNatClampNeg x3))
                      (none))
                    (none))
                  (some ((0 : Int32), u_55.2, f0_clauses, h0_cYes, h0_cNo))))
              (Option.bind (D_X8_may f0_thrown true true) (fun u_61 =>
                cif (u_61.1 = true)
                  (cif (vp_in f0_clauses n0_cYes)
                    (cif (vp_in f0_clauses n0_cNo)
                      (some ((f0_clauses + (1 : Int32)) - (1 : Int32), u_61.2, f0_clauses + (1 : Int32), vp_updL h0_cYes f0_clauses.toNatClampNeg x1, vp_updL h0_cNo f0_clauses.toNatClampNeg x3))
                      (none))
                    (none))
                  (some ((0 : Int32), u_61.2, f0_clauses, h0_cYes, h0_cNo)))))
            (cif ((60 : Int32) ≤ f0_clauses)
              (Option.bind (D_X8_may f0_thrown false false) (fun u_41 =>
                cif (u_41.1 = true)
                  (cif (vp_in f0_clauses n0_cYes)
                    (cif (vp_in f0_clauses n0_cNo)
                      (some ((f0_clauses + (1 : Int32)) - (1 : Int32), u_41.2, f0_clauses + (1 : Int32), vp_updL h0_cYes f0_clauses.toNatClampNeg x1, vp_updL h0_cNo f0_clauses.toNatClampNeg x3))
                      (none))
                    (none))
                  (some ((0 : Int32), u_41.2, f0_clauses, h0_cYes, h0_cNo))))
              (Option.bind (D_X8_may f0_thrown false true) (fun u_47 =>
                cif (u_47.1 = true)
                  (cif (vp_in f0_clauses n0_cYes)
                    (cif (vp_in f0_clauses n0_cNo)
                      (some ((f0_clauses + (1 : Int32)) - (1 : Int32), u_47.2, f0_clauses + (1 : Int32), vp_updL h0_cYes f0_clauses.toNatClampNeg x1, vp_updL h0_cNo f0_clauses.toNatClampNeg x3))
                      (none))
                    (none))
                  (some ((0 : Int32), u_47.2, f0_clauses, h0_cYes, h0_cNo))))))
          (cif ((60 : Int32) ≤ f0_clauses)
            (Option.bind (D_X8_may f0_thrown false false) (fun u_25 =>
              cif (u_25.1 = true)
                (cif (vp_in f0_clauses n0_cYes)
                  (cif (vp_in f0_clauses n0_cNo)
                    (some ((f0_clauses + (1 : Int32)) - (1 : Int32), u_25.2, f0_clauses + (1 : Int32), vp_updL h0_cYes f0_clauses.toNatClampNeg x1, vp_updL h0_cNo f0_clauses.toNatClampNeg x3))
                    (none))
                  (none))
                (some ((0 : Int32), u_25.2, f0_clauses, h0_cYes, h0_cNo))))
            (Option.bind (D_X8_may f0_thrown false true) (fun u_31 =>
              cif (u_31.1 = true)
                (cif (vp_in f0_clauses n0_cYes)
                  (cif (vp_in f0_clauses n0_cNo)
                    (some ((f0_clauses + (1 : Int32)) - (1 : Int32), u_31.2, f0_clauses + (1 : Int32), vp_updL h0_cYes f0_clauses.toNatClampNeg x1, vp_updL h0_cNo f0_clauses.toNatClampNeg x3))
                    (none))
                  (none))
                (some ((0 : Int32), u_31.2, f0_clauses, h0_cYes, h0_cNo)))))))
      (cif ((60 : Int32) ≤ f0_clauses)
        (Option.bind (D_X8_may f0_thrown false false) (fun u_7 =>
          cif (u_7.1 = true)
            (cif (vp_in f0_clauses n0_cYes)
              (cif (vp_in f0_clauses n0_cNo)
                (some ((f0_clauses + (1 : Int32)) - (1 : Int32), u_7.2, f0_clauses + (1 : Int32), vp_updL h0_cYes f0_clauses.toNatClampNeg x1, vp_updL h0_cNo f0_clauses.toNatClampNeg x3))
                (none))
              (none))
            (some ((0 : Int32), u_7.2, f0_clauses, h0_cYes, h0_cNo))))
        (Option.bind (D_X8_may f0_thrown false true) (fun u_13 =>
          cif (u_13.1 = true)
            (cif (vp_in f0_clauses n0_cYes)
              (cif (vp_in f0_clauses n0_cNo)
                (some ((f0_clauses + (1 : Int32)) - (1 : Int32), u_13.2, f0_clauses + (1 : Int32), vp_updL h0_cYes f0_clauses.toNatClampNeg x1, vp_updL h0_cNo f0_clauses.toNatClampNeg x3))
                (none))
              (none))
            (some ((0 : Int32), u_13.2, f0_clauses, h0_cYes, h0_cNo))))))
theorem in_X8_clause_X8 : ∀ w ∈ wsX80, w ∈ wsX8_clause := by decide +kernel
theorem lk_0_X8_clause : Cond.fieldLink RX8 105 "ParityClausesModel" "clauses" "I" ∈ wsX8_clause := by decide +kernel
theorem lk_1_X8_clause : Cond.fieldLink RX8 17 "ParityClausesModel" "cYes" "[J" ∈ wsX8_clause := by decide +kernel
theorem lk_2_X8_clause : Cond.fieldLink RX8 20 "ParityClausesModel" "cNo" "[J" ∈ wsX8_clause := by decide +kernel
abbrev rm_X8_clause : Room := { frames := 1, cells := 0, slots := 0, locals := 22 }
set_option maxHeartbeats 4000000 in
set_option maxRecDepth 100000 in
theorem cm_X8_clause (l : Launch) (D : va_G) (cI cL : ClassId) (q0 q0_cYes q0_cNo : Nat) (n0_cYes n0_cNo : Nat) (f0_thrown : Int32) (f0_n : Int32) (f0_clauses : Int32) (h0_cYes : Nat → Int64) (h0_cNo : Nat → Int64) (v0_equations v0_eSet v0_eRight v0_levels v0_levelEquations v0_levelClauses v0_tape v0_tapeSize v0_faultIs v0_faultAt v0_at v0_newEquations v0_newClauses v0_newSet v0_newRight v0_newYes v0_newNo v0_lineYes v0_lineNo v0_rowCount v0_rSet v0_rRight v0_isImpossible v0_sumSet v0_sumOf v0_sumRight v0_empty v0_empties v0_taken v0_ones v0_waitTaken v0_waitOnes v0_nodeCount v0_lastModel v0_modelCount v0_modelIs v0_gSet v0_gateCount : Value) (x1 : Int64) (x3 : Int64) (r0 : Int32 × Int32 × Int32 × (Nat → Int64) × (Nat → Int64)) (h0 : D_X8_clause f0_thrown f0_n f0_clauses n0_cYes h0_cYes n0_cNo h0_cNo x1 x3 = some r0) (sz : Nat) : Met l yX8_clause wsX8_clause rm_X8_clause (PcW D cI cL [.ref q0, .long x1, .long x3] [(q0, .inr (8, [.int f0_thrown, .int f0_n, v0_equations, v0_eSet, v0_eRight, .int f0_clauses, .ref q0_cYes, .ref q0_cNo, v0_levels, v0_levelEquations, v0_levelClauses, v0_tape, v0_tapeSize, v0_faultIs, v0_faultAt, v0_at, v0_newEquations, v0_newClauses, v0_newSet, v0_newRight, v0_newYes, v0_newNo, v0_lineYes, v0_lineNo, v0_rowCount, v0_rSet, v0_rRight, v0_isImpossible, v0_sumSet, v0_sumOf, v0_sumRight, v0_empty, v0_empties, v0_taken, v0_ones, v0_waitTaken, v0_waitOnes, v0_nodeCount, v0_lastModel, v0_modelCount, v0_modelIs, v0_gSet, v0_gateCount])), (q0_cYes, .inl (cL, n0_cYes, .inr (.inl h0_cYes))), (q0_cNo, .inl (cL, n0_cNo, .inr (.inl h0_cNo)))] sz) (QiW D [(q0, .inr (8, [.int f0_thrown, .int f0_n, v0_equations, v0_eSet, v0_eRight, .int f0_clauses, .ref q0_cYes, .ref q0_cNo, v0_levels, v0_levelEquations, v0_levelClauses, v0_tape, v0_tapeSize, v0_faultIs, v0_faultAt, v0_at, v0_newEquations, v0_newClauses, v0_newSet, v0_newRight, v0_newYes, v0_newNo, v0_lineYes, v0_lineNo, v0_rowCount, v0_rSet, v0_rRight, v0_isImpossible, v0_sumSet, v0_sumOf, v0_sumRight, v0_empty, v0_empties, v0_taken, v0_ones, v0_waitTaken, v0_waitOnes, v0_nodeCount, v0_lastModel, v0_modelCount, v0_modelIs, v0_gSet, v0_gateCount])), (q0_cYes, .inl (cL, n0_cYes, .inr (.inl h0_cYes))), (q0_cNo, .inl (cL, n0_cNo, .inr (.inl h0_cNo)))] r0.1 (fun _ : Unit => [(q0, .inr (8, [.int r0.2.1, .int f0_n, v0_equations, v0_eSet, v0_eRight, .int r0.2.2.1, .ref q0_cYes, .ref q0_cNo, v0_levels, v0_levelEquations, v0_levelClauses, v0_tape, v0_tapeSize, v0_faultIs, v0_faultAt, v0_at, v0_newEquations, v0_newClauses, v0_newSet, v0_newRight, v0_newYes, v0_newNo, v0_lineYes, v0_lineNo, v0_rowCount, v0_rSet, v0_rRight, v0_isImpossible, v0_sumSet, v0_sumOf, v0_sumRight, v0_empty, v0_empties, v0_taken, v0_ones, v0_waitTaken, v0_waitOnes, v0_nodeCount, v0_lastModel, v0_modelCount, v0_modelIs, v0_gSet, v0_gateCount])), (q0_cYes, .inl (cL, n0_cYes, .inr (.inl r0.2.2.2.1))), (q0_cNo, .inl (cL, n0_cNo, .inr (.inl r0.2.2.2.2)))]) tU sz) 0 0 (va_A [(q0, .inr (8, [.int f0_thrown, .int f0_n, v0_equations, v0_eSet, v0_eRight, .int f0_clauses, .ref q0_cYes, .ref q0_cNo, v0_levels, v0_levelEquations, v0_levelClauses, v0_tape, v0_tapeSize, v0_faultIs, v0_faultAt, v0_at, v0_newEquations, v0_newClauses, v0_newSet, v0_newRight, v0_newYes, v0_newNo, v0_lineYes, v0_lineNo, v0_rowCount, v0_rSet, v0_rRight, v0_isImpossible, v0_sumSet, v0_sumOf, v0_sumRight, v0_empty, v0_empties, v0_taken, v0_ones, v0_waitTaken, v0_waitOnes, v0_nodeCount, v0_lastModel, v0_modelCount, v0_modelIs, v0_gSet, v0_gateCount])), (q0_cYes, .inl (cL, n0_cYes, .inr (.inl h0_cYes))), (q0_cNo, .inl (cL, n0_cNo, .inr (.inl h0_cNo)))] sz) := by
  refine Met.ofW (cc := cX8_clause) (maxL := 5) (ret := (some .int)) (by decide) rfl ?_
  intro p e s m args below meth c s₁ B hml hv
  obtain ⟨hargs, hsz, hP, hEV, hD0⟩ := hv
  have hx := B.exec
  have hb := B.bytes
  have hr := B.returns
  have hts := atoms_spec (ws := wsX8_clause) B.pre
  have hown : s.vm.findClass RX8 = some m.cls := findClass_of_methodNamed B.named
  have hlocks := B.notSynchronized
  have hK := hEV.K
  have lk_0 := hts _ lk_0_X8_clause
  have lk_1 := hts _ lk_1_X8_clause
  have lk_2 := hts _ lk_2_X8_clause
  subst hsz
  unfold QiW PoW
  have hD := hD0.self (sz := s.heap.size)
  generalize hAe : va_A [(q0, .inr (8, [.int f0_thrown, .int f0_n, v0_equations, v0_eSet, v0_eRight, .int f0_clauses, .ref q0_cYes, .ref q0_cNo, v0_levels, v0_levelEquations, v0_levelClauses, v0_tape, v0_tapeSize, v0_faultIs, v0_faultAt, v0_at, v0_newEquations, v0_newClauses, v0_newSet, v0_newRight, v0_newYes, v0_newNo, v0_lineYes, v0_lineNo, v0_rowCount, v0_rSet, v0_rRight, v0_isImpossible, v0_sumSet, v0_sumOf, v0_sumRight, v0_empty, v0_empties, v0_taken, v0_ones, v0_waitTaken, v0_waitOnes, v0_nodeCount, v0_lastModel, v0_modelCount, v0_modelIs, v0_gSet, v0_gateCount])), (q0_cYes, .inl (cL, n0_cYes, .inr (.inl h0_cYes))), (q0_cNo, .inl (cL, n0_cNo, .inr (.inl h0_cNo)))] s.heap.size = A at hD ⊢
  have hA : ∀ q : Nat, s.heap.size ≤ q → A q := fun q h => by rw [← hAe]; exact Or.inr h
  have hS : va_S A s.heap s.heap [] := va_S.rf
  have hent : entryFrame m args 5 = entryFrame m ([.ref q0, .long x1, .long x3] : List Value).toArray 5 := by rw [hargs]
  rw [hent]
  refine kx_Q (fun Q hQ => ?_)
  have hl := lv_entry ([.ref q0, .long x1, .long x3]) (n := 5) (Nat.le_of_ble_eq_true rfl)
  rw [lg_entry_eq]
  generalize (lg_sl ([.ref q0, .long x1, .long x3]) ++ List.replicate (5 - (lg_sl ([.ref q0, .long x1, .long x3])).length) Slot.unset).toArray = ls at hl ⊢
  have hl : lv_has ls 5 [(0, .ref q0), (1, .long x1), (3, .long x3)] := hl
  have h := h0
  unfold D_X8_clause at h
  refine lv_aload_n hx hb dX8_clause_0 rfl (lv_at hl 0 rfl) ?_
  refine lv_aload_n hx hb dX8_clause_1 rfl (lv_at hl 0 rfl) ?_
  refine lv_lload_n hx hb dX8_clause_2 rfl (lv_at hl 1 rfl) ?_
  obtain ⟨u_1, hu_2, h⟩ := co_b h
  refine kx_i (ws' := fun _ => [(q0, .inr (8, [.int f0_thrown, .int f0_n, v0_equations, v0_eSet, v0_eRight, .int f0_clauses, .ref q0_cYes, .ref q0_cNo, v0_levels, v0_levelEquations, v0_levelClauses, v0_tape, v0_tapeSize, v0_faultIs, v0_faultAt, v0_at, v0_newEquations, v0_newClauses, v0_newSet, v0_newRight, v0_newYes, v0_newNo, v0_lineYes, v0_lineNo, v0_rowCount, v0_rSet, v0_rRight, v0_isImpossible, v0_sumSet, v0_sumOf, v0_sumRight, v0_empty, v0_empties, v0_taken, v0_ones, v0_waitTaken, v0_waitOnes, v0_nodeCount, v0_lastModel, v0_modelCount, v0_modelIs, v0_gSet, v0_gateCount])), (q0_cYes, .inl (cL, n0_cYes, .inr (.inl h0_cYes))), (q0_cNo, .inl (cL, n0_cNo, .inr (.inl h0_cNo)))]) hP hD hS hA [0] [1, 2] [2, 0, 1] rfl (by decide) (by decide) (by decide) (fun _ => rfl) (by decide) (va_runV (As := [.long x1]) (rest := [.ref q0]) ⟨hx, hb, hml, hown, hts⟩ (cm_X8_areThere l D cI cL (q0 := q0) (f0_n := f0_n) (v0_thrown := .int f0_thrown) (v0_equations := v0_equations) (v0_eSet := v0_eSet) (v0_eRight := v0_eRight) (v0_clauses := .int f0_clauses) (v0_cYes := .ref q0_cYes) (v0_cNo := .ref q0_cNo) (v0_levels := v0_levels) (v0_levelEquations := v0_levelEquations) (v0_levelClauses := v0_levelClauses) (v0_tape := v0_tape) (v0_tapeSize := v0_tapeSize) (v0_faultIs := v0_faultIs) (v0_faultAt := v0_faultAt) (v0_at := v0_at) (v0_newEquations := v0_newEquations) (v0_newClauses := v0_newClauses) (v0_newSet := v0_newSet) (v0_newRight := v0_newRight) (v0_newYes := v0_newYes) (v0_newNo := v0_newNo) (v0_lineYes := v0_lineYes) (v0_lineNo := v0_lineNo) (v0_rowCount := v0_rowCount) (v0_rSet := v0_rSet) (v0_rRight := v0_rRight) (v0_isImpossible := v0_isImpossible) (v0_sumSet := v0_sumSet) (v0_sumOf := v0_sumOf) (v0_sumRight := v0_sumRight) (v0_empty := v0_empty) (v0_empties := v0_empties) (v0_taken := v0_taken) (v0_ones := v0_ones) (v0_waitTaken := v0_waitTaken) (v0_waitOnes := v0_waitOnes) (v0_nodeCount := v0_nodeCount) (v0_lastModel := v0_lastModel) (v0_modelCount := v0_modelCount) (v0_modelIs := v0_modelIs) (v0_gSet := v0_gSet) (v0_gateCount := v0_gateCount) (x1 := x1) (r0 := u_1) (h0 := hu_2) (sz := H.size)) (cwV 1 hts gX8_clause_X8_areThere rfl rfl rfl (by decide +kernel) ⟨Nat.le_of_ble_eq_true rfl, Nat.le_of_ble_eq_true rfl⟩) (kx_preV hEV hP hD [0] rfl (by decide) (k0 := 0) (ci := 8) rfl rfl rfl) rfl rfl hl.1 rfl (lv_room (Nat.le_of_ble_eq_true rfl)) dX8_clause_3 ⟨Nat.le_refl _, Nat.le_refl _⟩) (fun _ H locs _ hP hD hS => ?_)
  refine lv_if_eq (tgt := 29) hx hb dX8_clause_6 (by decide) (fun c_3 => ?_) (fun c_3 => ?_)
  · have k_4 : ¬ (u_1 = true) := (kx_z c_3)
    have h := co_f k_4 h
    refine lv_iconst (v := (0 : Int32)) hx hb dX8_clause_29 (by decide) ?_
    refine lv_aload_n hx hb dX8_clause_30 rfl (lv_at hl 0 rfl) ?_
    refine va_get (D := D) (ci := 8) (v := .int f0_clauses) (C := RX8) (T := TX8) (N := 43) hx hb hts in_X8_clause_X8 hown hK hP 0 rfl rfl 5 (by decide) lk_0 (fun _ h9 => h9) rfl dX8_clause_31 ?_
    refine lv_bipush (v := (60 : Int32)) hx hb dX8_clause_34 (by decide) ?_
    refine lv_icmp_ge (tgt := 43) hx hb dX8_clause_36 (by decide) (fun c_5 => ?_) (fun c_5 => ?_)
    · have k_6 : (60 : Int32) ≤ f0_clauses := c_5
      have h := co_t k_6 h
      refine lv_iconst (v := (0 : Int32)) hx hb dX8_clause_43 (by decide) ?_
      obtain ⟨u_7, hu_8, h⟩ := co_b h
      refine kx_i (ws' := fun _ => [(q0, .inr (8, [.int u_7.2, .int f0_n, v0_equations, v0_eSet, v0_eRight, .int f0_clauses, .ref q0_cYes, .ref q0_cNo, v0_levels, v0_levelEquations, v0_levelClauses, v0_tape, v0_tapeSize, v0_faultIs, v0_faultAt, v0_at, v0_newEquations, v0_newClauses, v0_newSet, v0_newRight, v0_newYes, v0_newNo, v0_lineYes, v0_lineNo, v0_rowCount, v0_rSet, v0_rRight, v0_isImpossible, v0_sumSet, v0_sumOf, v0_sumRight, v0_empty, v0_empties, v0_taken, v0_ones, v0_waitTaken, v0_waitOnes, v0_nodeCount, v0_lastModel, v0_modelCount, v0_modelIs, v0_gSet, v0_gateCount])), (q0_cYes, .inl (cL, n0_cYes, .inr (.inl h0_cYes))), (q0_cNo, .inl (cL, n0_cNo, .inr (.inl h0_cNo)))]) hP hD hS hA [0] [1, 2] [2, 0, 1] rfl (by decide) (by decide) (by decide) (fun _ => rfl) (by decide) (va_runV (As := [.int (bI false), .int (bI false)]) (rest := []) ⟨hx, hb, hml, hown, hts⟩ (cm_X8_may l D cI cL (q0 := q0) (f0_thrown := f0_thrown) (v0_n := .int f0_n) (v0_equations := v0_equations) (v0_eSet := v0_eSet) (v0_eRight := v0_eRight) (v0_clauses := .int f0_clauses) (v0_cYes := .ref q0_cYes) (v0_cNo := .ref q0_cNo) (v0_levels := v0_levels) (v0_levelEquations := v0_levelEquations) (v0_levelClauses := v0_levelClauses) (v0_tape := v0_tape) (v0_tapeSize := v0_tapeSize) (v0_faultIs := v0_faultIs) (v0_faultAt := v0_faultAt) (v0_at := v0_at) (v0_newEquations := v0_newEquations) (v0_newClauses := v0_newClauses) (v0_newSet := v0_newSet) (v0_newRight := v0_newRight) (v0_newYes := v0_newYes) (v0_newNo := v0_newNo) (v0_lineYes := v0_lineYes) (v0_lineNo := v0_lineNo) (v0_rowCount := v0_rowCount) (v0_rSet := v0_rSet) (v0_rRight := v0_rRight) (v0_isImpossible := v0_isImpossible) (v0_sumSet := v0_sumSet) (v0_sumOf := v0_sumOf) (v0_sumRight := v0_sumRight) (v0_empty := v0_empty) (v0_empties := v0_empties) (v0_taken := v0_taken) (v0_ones := v0_ones) (v0_waitTaken := v0_waitTaken) (v0_waitOnes := v0_waitOnes) (v0_nodeCount := v0_nodeCount) (v0_lastModel := v0_lastModel) (v0_modelCount := v0_modelCount) (v0_modelIs := v0_modelIs) (v0_gSet := v0_gSet) (v0_gateCount := v0_gateCount) (x1 := false) (x2 := false) (r0 := u_7) (h0 := hu_8) (sz := H.size)) (cwV 2 hts gX8_clause_X8_may rfl rfl rfl (by decide +kernel) ⟨Nat.le_of_ble_eq_true rfl, Nat.le_of_ble_eq_true rfl⟩) (kx_preV hEV hP hD [0] rfl (by decide) (k0 := 0) (ci := 8) rfl rfl rfl) rfl rfl hl.1 rfl (lv_room (Nat.le_of_ble_eq_true rfl)) dX8_clause_44 ⟨Nat.le_refl _, Nat.le_refl _⟩) (fun _ H locs _ hP hD hS => ?_)
      refine lv_if_ne (tgt := 52) hx hb dX8_clause_47 (by decide) (fun c_9 => ?_) (fun c_9 => ?_)
      · have k_10 : u_7.1 = true := (kx_nz c_9)
        have h := co_t k_10 h
        refine lv_aload_n hx hb dX8_clause_52 rfl (lv_at hl 0 rfl) ?_
        refine va_get (D := D) (ci := 8) (v := .ref q0_cYes) (C := RX8) (T := TX8) (N := 43) hx hb hts in_X8_clause_X8 hown hK hP 0 rfl rfl 6 (by decide) lk_1 (fun _ h9 => h9) rfl dX8_clause_53 ?_
        refine lv_aload_n hx hb dX8_clause_56 rfl (lv_at hl 0 rfl) ?_
        refine va_get (D := D) (ci := 8) (v := .int f0_clauses) (C := RX8) (T := TX8) (N := 43) hx hb hts in_X8_clause_X8 hown hK hP 0 rfl rfl 5 (by decide) lk_0 (fun _ h9 => h9) rfl dX8_clause_57 ?_
        refine lv_lload_n hx hb dX8_clause_60 rfl (lv_at hl 1 rfl) ?_
        obtain ⟨b_11, h⟩ := co_i h
        refine va_last hx hb hK hP hD hS 1 1 rfl rfl b_11 dX8_clause_61 (fun H locs hP hD hS => ?_)
        have hP : va_P D vwCl [(q0, .inr (8, [.int u_7.2, .int f0_n, v0_equations, v0_eSet, v0_eRight, .int f0_clauses, .ref q0_cYes, .ref q0_cNo, v0_levels, v0_levelEquations, v0_levelClauses, v0_tape, v0_tapeSize, v0_faultIs, v0_faultAt, v0_at, v0_newEquations, v0_newClauses, v0_newSet, v0_newRight, v0_newYes, v0_newNo, v0_lineYes, v0_lineNo, v0_rowCount, v0_rSet, v0_rRight, v0_isImpossible, v0_sumSet, v0_sumOf, v0_sumRight, v0_empty, v0_empties, v0_taken, v0_ones, v0_waitTaken, v0_waitOnes, v0_nodeCount, v0_lastModel, v0_modelCount, v0_modelIs, v0_gSet, v0_gateCount])), (q0_cYes, .inl (cL, n0_cYes, .inr (.inl (vp_updL h0_cYes f0_clauses.toNatClampNeg x1)))), (q0_cNo, .inl (cL, n0_cNo, .inr (.inl h0_cNo)))] H := hP
        have hD : va_D A [(q0, .inr (8, [.int u_7.2, .int f0_n, v0_equations, v0_eSet, v0_eRight, .int f0_clauses, .ref q0_cYes, .ref q0_cNo, v0_levels, v0_levelEquations, v0_levelClauses, v0_tape, v0_tapeSize, v0_faultIs, v0_faultAt, v0_at, v0_newEquations, v0_newClauses, v0_newSet, v0_newRight, v0_newYes, v0_newNo, v0_lineYes, v0_lineNo, v0_rowCount, v0_rSet, v0_rRight, v0_isImpossible, v0_sumSet, v0_sumOf, v0_sumRight, v0_empty, v0_empties, v0_taken, v0_ones, v0_waitTaken, v0_waitOnes, v0_nodeCount, v0_lastModel, v0_modelCount, v0_modelIs, v0_gSet, v0_gateCount])), (q0_cYes, .inl (cL, n0_cYes, .inr (.inl (vp_updL h0_cYes f0_clauses.toNatClampNeg x1)))), (q0_cNo, .inl (cL, n0_cNo, .inr (.inl h0_cNo)))] := hD
        refine lv_aload_n hx hb dX8_clause_62 rfl (lv_at hl 0 rfl) ?_
        refine va_get (D := D) (ci := 8) (v := .ref q0_cNo) (C := RX8) (T := TX8) (N := 43) hx hb hts in_X8_clause_X8 hown hK hP 0 rfl rfl 7 (by decide) lk_2 (fun _ h9 => h9) rfl dX8_clause_63 ?_
        refine lv_aload_n hx hb dX8_clause_66 rfl (lv_at hl 0 rfl) ?_
        refine va_get (D := D) (ci := 8) (v := .int f0_clauses) (C := RX8) (T := TX8) (N := 43) hx hb hts in_X8_clause_X8 hown hK hP 0 rfl rfl 5 (by decide) lk_0 (fun _ h9 => h9) rfl dX8_clause_67 ?_
        refine lv_lload_n hx hb dX8_clause_70 rfl (lv_at hl 2 rfl) ?_
        obtain ⟨b_12, h⟩ := co_i h
        refine va_last hx hb hK hP hD hS 2 1 rfl rfl b_12 dX8_clause_71 (fun H locs hP hD hS => ?_)
        have hP : va_P D vwCl [(q0, .inr (8, [.int u_7.2, .int f0_n, v0_equations, v0_eSet, v0_eRight, .int f0_clauses, .ref q0_cYes, .ref q0_cNo, v0_levels, v0_levelEquations, v0_levelClauses, v0_tape, v0_tapeSize, v0_faultIs, v0_faultAt, v0_at, v0_newEquations, v0_newClauses, v0_newSet, v0_newRight, v0_newYes, v0_newNo, v0_lineYes, v0_lineNo, v0_rowCount, v0_rSet, v0_rRight, v0_isImpossible, v0_sumSet, v0_sumOf, v0_sumRight, v0_empty, v0_empties, v0_taken, v0_ones, v0_waitTaken, v0_waitOnes, v0_nodeCount, v0_lastModel, v0_modelCount, v0_modelIs, v0_gSet, v0_gateCount])), (q0_cYes, .inl (cL, n0_cYes, .inr (.inl (vp_updL h0_cYes f0_clauses.toNatClampNeg x1)))), (q0_cNo, .inl (cL, n0_cNo, .inr (.inl (vp_updL h0_cNo f0_clauses.toNatClampNeg x3))))] H := hP
        have hD : va_D A [(q0, .inr (8, [.int u_7.2, .int f0_n, v0_equations, v0_eSet, v0_eRight, .int f0_clauses, .ref q0_cYes, .ref q0_cNo, v0_levels, v0_levelEquations, v0_levelClauses, v0_tape, v0_tapeSize, v0_faultIs, v0_faultAt, v0_at, v0_newEquations, v0_newClauses, v0_newSet, v0_newRight, v0_newYes, v0_newNo, v0_lineYes, v0_lineNo, v0_rowCount, v0_rSet, v0_rRight, v0_isImpossible, v0_sumSet, v0_sumOf, v0_sumRight, v0_empty, v0_empties, v0_taken, v0_ones, v0_waitTaken, v0_waitOnes, v0_nodeCount, v0_lastModel, v0_modelCount, v0_modelIs, v0_gSet, v0_gateCount])), (q0_cYes, .inl (cL, n0_cYes, .inr (.inl (vp_updL h0_cYes f0_clauses.toNatClampNeg x1)))), (q0_cNo, .inl (cL, n0_cNo, .inr (.inl (vp_updL h0_cNo f0_clauses.toNatClampNeg x3))))] := hD
        refine lv_aload_n hx hb dX8_clause_72 rfl (lv_at hl 0 rfl) ?_
        refine lv_dup hx hb dX8_clause_73 rfl ?_
        refine va_get (D := D) (ci := 8) (v := .int f0_clauses) (C := RX8) (T := TX8) (N := 43) hx hb hts in_X8_clause_X8 hown hK hP 0 rfl rfl 5 (by decide) lk_0 (fun _ h9 => h9) rfl dX8_clause_74 ?_
        refine lv_iconst (v := (1 : Int32)) hx hb dX8_clause_77 (by decide) ?_
        refine lv_iadd hx hb dX8_clause_78 ?_
        refine va_put (D := D) (ci := 8) (v := .int (f0_clauses + (1 : Int32))) (ty := .int) (C := RX8) (T := TX8) (N := 43) hx hb hts in_X8_clause_X8 tyX8 tyX8_ok nmX8 hown hK hP hD hS 0 rfl rfl 5 (by decide) lk_0 (fun _ h9 => h9) rfl (by decide +kernel) rfl rfl (Nat.le_of_ble_eq_true rfl) dX8_clause_79 (fun H locs hP hD hS => ?_)
        have hP : va_P D vwCl [(q0, .inr (8, [.int u_7.2, .int f0_n, v0_equations, v0_eSet, v0_eRight, .int (f0_clauses + (1 : Int32)), .ref q0_cYes, .ref q0_cNo, v0_levels, v0_levelEquations, v0_levelClauses, v0_tape, v0_tapeSize, v0_faultIs, v0_faultAt, v0_at, v0_newEquations, v0_newClauses, v0_newSet, v0_newRight, v0_newYes, v0_newNo, v0_lineYes, v0_lineNo, v0_rowCount, v0_rSet, v0_rRight, v0_isImpossible, v0_sumSet, v0_sumOf, v0_sumRight, v0_empty, v0_empties, v0_taken, v0_ones, v0_waitTaken, v0_waitOnes, v0_nodeCount, v0_lastModel, v0_modelCount, v0_modelIs, v0_gSet, v0_gateCount])), (q0_cYes, .inl (cL, n0_cYes, .inr (.inl (vp_updL h0_cYes f0_clauses.toNatClampNeg x1)))), (q0_cNo, .inl (cL, n0_cNo, .inr (.inl (vp_updL h0_cNo f0_clauses.toNatClampNeg x3))))] H := hP
        have hD : va_D A [(q0, .inr (8, [.int u_7.2, .int f0_n, v0_equations, v0_eSet, v0_eRight, .int (f0_clauses + (1 : Int32)), .ref q0_cYes, .ref q0_cNo, v0_levels, v0_levelEquations, v0_levelClauses, v0_tape, v0_tapeSize, v0_faultIs, v0_faultAt, v0_at, v0_newEquations, v0_newClauses, v0_newSet, v0_newRight, v0_newYes, v0_newNo, v0_lineYes, v0_lineNo, v0_rowCount, v0_rSet, v0_rRight, v0_isImpossible, v0_sumSet, v0_sumOf, v0_sumRight, v0_empty, v0_empties, v0_taken, v0_ones, v0_waitTaken, v0_waitOnes, v0_nodeCount, v0_lastModel, v0_modelCount, v0_modelIs, v0_gSet, v0_gateCount])), (q0_cYes, .inl (cL, n0_cYes, .inr (.inl (vp_updL h0_cYes f0_clauses.toNatClampNeg x1)))), (q0_cNo, .inl (cL, n0_cNo, .inr (.inl (vp_updL h0_cNo f0_clauses.toNatClampNeg x3))))] := hD
        refine lv_aload_n hx hb dX8_clause_82 rfl (lv_at hl 0 rfl) ?_
        refine va_get (D := D) (ci := 8) (v := .int (f0_clauses + (1 : Int32))) (C := RX8) (T := TX8) (N := 43) hx hb hts in_X8_clause_X8 hown hK hP 0 rfl rfl 5 (by decide) lk_0 (fun _ h9 => h9) rfl dX8_clause_83 ?_
        refine lv_iconst (v := (1 : Int32)) hx hb dX8_clause_86 (by decide) ?_
        refine lv_isub hx hb dX8_clause_87 ?_
        have h := Option.some.inj h
        subst h
        subst hQ
        exact W.iret (v := (f0_clauses + (1 : Int32)) - (1 : Int32)) hx hb hr (fun t ht hW => ⟨⟨(f0_clauses + (1 : Int32)) - (1 : Int32), (), rfl, ⟨rfl, trivial⟩, by rw [ht]; exact hP, hD⟩, hS.F ht⟩) hS.2.2 dX8_clause_88
      · have k_10 : ¬ (u_7.1 = true) := (kx_z c_9)
        have h := co_f k_10 h
        refine lv_iconst (v := (0 : Int32)) hx hb dX8_clause_50 (by decide) ?_
        have h := Option.some.inj h
        subst h
        subst hQ
        exact W.iret (v := (0 : Int32)) hx hb hr (fun t ht hW => ⟨⟨(0 : Int32), (), rfl, ⟨rfl, trivial⟩, by rw [ht]; exact hP, hD⟩, hS.F ht⟩) hS.2.2 dX8_clause_51
    · have k_6 : ¬ ((60 : Int32) ≤ f0_clauses) := c_5
      have h := co_f k_6 h
      refine lv_iconst (v := (1 : Int32)) hx hb dX8_clause_39 (by decide) ?_
      refine lv_goto (tgt := 44) hx hb dX8_clause_40 (by decide) ?_
      obtain ⟨u_13, hu_14, h⟩ := co_b h
      refine kx_i (ws' := fun _ => [(q0, .inr (8, [.int u_13.2, .int f0_n, v0_equations, v0_eSet, v0_eRight, .int f0_clauses, .ref q0_cYes, .ref q0_cNo, v0_levels, v0_levelEquations, v0_levelClauses, v0_tape, v0_tapeSize, v0_faultIs, v0_faultAt, v0_at, v0_newEquations, v0_newClauses, v0_newSet, v0_newRight, v0_newYes, v0_newNo, v0_lineYes, v0_lineNo, v0_rowCount, v0_rSet, v0_rRight, v0_isImpossible, v0_sumSet, v0_sumOf, v0_sumRight, v0_empty, v0_empties, v0_taken, v0_ones, v0_waitTaken, v0_waitOnes, v0_nodeCount, v0_lastModel, v0_modelCount, v0_modelIs, v0_gSet, v0_gateCount])), (q0_cYes, .inl (cL, n0_cYes, .inr (.inl h0_cYes))), (q0_cNo, .inl (cL, n0_cNo, .inr (.inl h0_cNo)))]) hP hD hS hA [0] [1, 2] [2, 0, 1] rfl (by decide) (by decide) (by decide) (fun _ => rfl) (by decide) (va_runV (As := [.int (bI false), .int (bI true)]) (rest := []) ⟨hx, hb, hml, hown, hts⟩ (cm_X8_may l D cI cL (q0 := q0) (f0_thrown := f0_thrown) (v0_n := .int f0_n) (v0_equations := v0_equations) (v0_eSet := v0_eSet) (v0_eRight := v0_eRight) (v0_clauses := .int f0_clauses) (v0_cYes := .ref q0_cYes) (v0_cNo := .ref q0_cNo) (v0_levels := v0_levels) (v0_levelEquations := v0_levelEquations) (v0_levelClauses := v0_levelClauses) (v0_tape := v0_tape) (v0_tapeSize := v0_tapeSize) (v0_faultIs := v0_faultIs) (v0_faultAt := v0_faultAt) (v0_at := v0_at) (v0_newEquations := v0_newEquations) (v0_newClauses := v0_newClauses) (v0_newSet := v0_newSet) (v0_newRight := v0_newRight) (v0_newYes := v0_newYes) (v0_newNo := v0_newNo) (v0_lineYes := v0_lineYes) (v0_lineNo := v0_lineNo) (v0_rowCount := v0_rowCount) (v0_rSet := v0_rSet) (v0_rRight := v0_rRight) (v0_isImpossible := v0_isImpossible) (v0_sumSet := v0_sumSet) (v0_sumOf := v0_sumOf) (v0_sumRight := v0_sumRight) (v0_empty := v0_empty) (v0_empties := v0_empties) (v0_taken := v0_taken) (v0_ones := v0_ones) (v0_waitTaken := v0_waitTaken) (v0_waitOnes := v0_waitOnes) (v0_nodeCount := v0_nodeCount) (v0_lastModel := v0_lastModel) (v0_modelCount := v0_modelCount) (v0_modelIs := v0_modelIs) (v0_gSet := v0_gSet) (v0_gateCount := v0_gateCount) (x1 := false) (x2 := true) (r0 := u_13) (h0 := hu_14) (sz := H.size)) (cwV 2 hts gX8_clause_X8_may rfl rfl rfl (by decide +kernel) ⟨Nat.le_of_ble_eq_true rfl, Nat.le_of_ble_eq_true rfl⟩) (kx_preV hEV hP hD [0] rfl (by decide) (k0 := 0) (ci := 8) rfl rfl rfl) rfl rfl hl.1 rfl (lv_room (Nat.le_of_ble_eq_true rfl)) dX8_clause_44 ⟨Nat.le_refl _, Nat.le_refl _⟩) (fun _ H locs _ hP hD hS => ?_)
      refine lv_if_ne (tgt := 52) hx hb dX8_clause_47 (by decide) (fun c_15 => ?_) (fun c_15 => ?_)
      · have k_16 : u_13.1 = true := (kx_nz c_15)
        have h := co_t k_16 h
        refine lv_aload_n hx hb dX8_clause_52 rfl (lv_at hl 0 rfl) ?_
        refine va_get (D := D) (ci := 8) (v := .ref q0_cYes) (C := RX8) (T := TX8) (N := 43) hx hb hts in_X8_clause_X8 hown hK hP 0 rfl rfl 6 (by decide) lk_1 (fun _ h9 => h9) rfl dX8_clause_53 ?_
        refine lv_aload_n hx hb dX8_clause_56 rfl (lv_at hl 0 rfl) ?_
        refine va_get (D := D) (ci := 8) (v := .int f0_clauses) (C := RX8) (T := TX8) (N := 43) hx hb hts in_X8_clause_X8 hown hK hP 0 rfl rfl 5 (by decide) lk_0 (fun _ h9 => h9) rfl dX8_clause_57 ?_
        refine lv_lload_n hx hb dX8_clause_60 rfl (lv_at hl 1 rfl) ?_
        obtain ⟨b_17, h⟩ := co_i h
        refine va_last hx hb hK hP hD hS 1 1 rfl rfl b_17 dX8_clause_61 (fun H locs hP hD hS => ?_)
        have hP : va_P D vwCl [(q0, .inr (8, [.int u_13.2, .int f0_n, v0_equations, v0_eSet, v0_eRight, .int f0_clauses, .ref q0_cYes, .ref q0_cNo, v0_levels, v0_levelEquations, v0_levelClauses, v0_tape, v0_tapeSize, v0_faultIs, v0_faultAt, v0_at, v0_newEquations, v0_newClauses, v0_newSet, v0_newRight, v0_newYes, v0_newNo, v0_lineYes, v0_lineNo, v0_rowCount, v0_rSet, v0_rRight, v0_isImpossible, v0_sumSet, v0_sumOf, v0_sumRight, v0_empty, v0_empties, v0_taken, v0_ones, v0_waitTaken, v0_waitOnes, v0_nodeCount, v0_lastModel, v0_modelCount, v0_modelIs, v0_gSet, v0_gateCount])), (q0_cYes, .inl (cL, n0_cYes, .inr (.inl (vp_updL h0_cYes f0_clauses.toNatClampNeg x1)))), (q0_cNo, .inl (cL, n0_cNo, .inr (.inl h0_cNo)))] H := hP
        have hD : va_D A [(q0, .inr (8, [.int u_13.2, .int f0_n, v0_equations, v0_eSet, v0_eRight, .int f0_clauses, .ref q0_cYes, .ref q0_cNo, v0_levels, v0_levelEquations, v0_levelClauses, v0_tape, v0_tapeSize, v0_faultIs, v0_faultAt, v0_at, v0_newEquations, v0_newClauses, v0_newSet, v0_newRight, v0_newYes, v0_newNo, v0_lineYes, v0_lineNo, v0_rowCount, v0_rSet, v0_rRight, v0_isImpossible, v0_sumSet, v0_sumOf, v0_sumRight, v0_empty, v0_empties, v0_taken, v0_ones, v0_waitTaken, v0_waitOnes, v0_nodeCount, v0_lastModel, v0_modelCount, v0_modelIs, v0_gSet, v0_gateCount])), (q0_cYes, .inl (cL, n0_cYes, .inr (.inl (vp_updL h0_cYes f0_clauses.toNatClampNeg x1)))), (q0_cNo, .inl (cL, n0_cNo, .inr (.inl h0_cNo)))] := hD
        refine lv_aload_n hx hb dX8_clause_62 rfl (lv_at hl 0 rfl) ?_
        refine va_get (D := D) (ci := 8) (v := .ref q0_cNo) (C := RX8) (T := TX8) (N := 43) hx hb hts in_X8_clause_X8 hown hK hP 0 rfl rfl 7 (by decide) lk_2 (fun _ h9 => h9) rfl dX8_clause_63 ?_
        refine lv_aload_n hx hb dX8_clause_66 rfl (lv_at hl 0 rfl) ?_
        refine va_get (D := D) (ci := 8) (v := .int f0_clauses) (C := RX8) (T := TX8) (N := 43) hx hb hts in_X8_clause_X8 hown hK hP 0 rfl rfl 5 (by decide) lk_0 (fun _ h9 => h9) rfl dX8_clause_67 ?_
        refine lv_lload_n hx hb dX8_clause_70 rfl (lv_at hl 2 rfl) ?_
        obtain ⟨b_18, h⟩ := co_i h
        refine va_last hx hb hK hP hD hS 2 1 rfl rfl b_18 dX8_clause_71 (fun H locs hP hD hS => ?_)
        have hP : va_P D vwCl [(q0, .inr (8, [.int u_13.2, .int f0_n, v0_equations, v0_eSet, v0_eRight, .int f0_clauses, .ref q0_cYes, .ref q0_cNo, v0_levels, v0_levelEquations, v0_levelClauses, v0_tape, v0_tapeSize, v0_faultIs, v0_faultAt, v0_at, v0_newEquations, v0_newClauses, v0_newSet, v0_newRight, v0_newYes, v0_newNo, v0_lineYes, v0_lineNo, v0_rowCount, v0_rSet, v0_rRight, v0_isImpossible, v0_sumSet, v0_sumOf, v0_sumRight, v0_empty, v0_empties, v0_taken, v0_ones, v0_waitTaken, v0_waitOnes, v0_nodeCount, v0_lastModel, v0_modelCount, v0_modelIs, v0_gSet, v0_gateCount])), (q0_cYes, .inl (cL, n0_cYes, .inr (.inl (vp_updL h0_cYes f0_clauses.toNatClampNeg x1)))), (q0_cNo, .inl (cL, n0_cNo, .inr (.inl (vp_updL h0_cNo f0_clauses.toNatClampNeg x3))))] H := hP
        have hD : va_D A [(q0, .inr (8, [.int u_13.2, .int f0_n, v0_equations, v0_eSet, v0_eRight, .int f0_clauses, .ref q0_cYes, .ref q0_cNo, v0_levels, v0_levelEquations, v0_levelClauses, v0_tape, v0_tapeSize, v0_faultIs, v0_faultAt, v0_at, v0_newEquations, v0_newClauses, v0_newSet, v0_newRight, v0_newYes, v0_newNo, v0_lineYes, v0_lineNo, v0_rowCount, v0_rSet, v0_rRight, v0_isImpossible, v0_sumSet, v0_sumOf, v0_sumRight, v0_empty, v0_empties, v0_taken, v0_ones, v0_waitTaken, v0_waitOnes, v0_nodeCount, v0_lastModel, v0_modelCount, v0_modelIs, v0_gSet, v0_gateCount])), (q0_cYes, .inl (cL, n0_cYes, .inr (.inl (vp_updL h0_cYes f0_clauses.toNatClampNeg x1)))), (q0_cNo, .inl (cL, n0_cNo, .inr (.inl (vp_updL h0_cNo f0_clauses.toNatClampNeg x3))))] := hD
        refine lv_aload_n hx hb dX8_clause_72 rfl (lv_at hl 0 rfl) ?_
        refine lv_dup hx hb dX8_clause_73 rfl ?_
        refine va_get (D := D) (ci := 8) (v := .int f0_clauses) (C := RX8) (T := TX8) (N := 43) hx hb hts in_X8_clause_X8 hown hK hP 0 rfl rfl 5 (by decide) lk_0 (fun _ h9 => h9) rfl dX8_clause_74 ?_
        refine lv_iconst (v := (1 : Int32)) hx hb dX8_clause_77 (by decide) ?_
        refine lv_iadd hx hb dX8_clause_78 ?_
        refine va_put (D := D) (ci := 8) (v := .int (f0_clauses + (1 : Int32))) (ty := .int) (C := RX8) (T := TX8) (N := 43) hx hb hts in_X8_clause_X8 tyX8 tyX8_ok nmX8 hown hK hP hD hS 0 rfl rfl 5 (by decide) lk_0 (fun _ h9 => h9) rfl (by decide +kernel) rfl rfl (Nat.le_of_ble_eq_true rfl) dX8_clause_79 (fun H locs hP hD hS => ?_)
        have hP : va_P D vwCl [(q0, .inr (8, [.int u_13.2, .int f0_n, v0_equations, v0_eSet, v0_eRight, .int (f0_clauses + (1 : Int32)), .ref q0_cYes, .ref q0_cNo, v0_levels, v0_levelEquations, v0_levelClauses, v0_tape, v0_tapeSize, v0_faultIs, v0_faultAt, v0_at, v0_newEquations, v0_newClauses, v0_newSet, v0_newRight, v0_newYes, v0_newNo, v0_lineYes, v0_lineNo, v0_rowCount, v0_rSet, v0_rRight, v0_isImpossible, v0_sumSet, v0_sumOf, v0_sumRight, v0_empty, v0_empties, v0_taken, v0_ones, v0_waitTaken, v0_waitOnes, v0_nodeCount, v0_lastModel, v0_modelCount, v0_modelIs, v0_gSet, v0_gateCount])), (q0_cYes, .inl (cL, n0_cYes, .inr (.inl (vp_updL h0_cYes f0_clauses.toNatClampNeg x1)))), (q0_cNo, .inl (cL, n0_cNo, .inr (.inl (vp_updL h0_cNo f0_clauses.toNatClampNeg x3))))] H := hP
        have hD : va_D A [(q0, .inr (8, [.int u_13.2, .int f0_n, v0_equations, v0_eSet, v0_eRight, .int (f0_clauses + (1 : Int32)), .ref q0_cYes, .ref q0_cNo, v0_levels, v0_levelEquations, v0_levelClauses, v0_tape, v0_tapeSize, v0_faultIs, v0_faultAt, v0_at, v0_newEquations, v0_newClauses, v0_newSet, v0_newRight, v0_newYes, v0_newNo, v0_lineYes, v0_lineNo, v0_rowCount, v0_rSet, v0_rRight, v0_isImpossible, v0_sumSet, v0_sumOf, v0_sumRight, v0_empty, v0_empties, v0_taken, v0_ones, v0_waitTaken, v0_waitOnes, v0_nodeCount, v0_lastModel, v0_modelCount, v0_modelIs, v0_gSet, v0_gateCount])), (q0_cYes, .inl (cL, n0_cYes, .inr (.inl (vp_updL h0_cYes f0_clauses.toNatClampNeg x1)))), (q0_cNo, .inl (cL, n0_cNo, .inr (.inl (vp_updL h0_cNo f0_clauses.toNatClampNeg x3))))] := hD
        refine lv_aload_n hx hb dX8_clause_82 rfl (lv_at hl 0 rfl) ?_
        refine va_get (D := D) (ci := 8) (v := .int (f0_clauses + (1 : Int32))) (C := RX8) (T := TX8) (N := 43) hx hb hts in_X8_clause_X8 hown hK hP 0 rfl rfl 5 (by decide) lk_0 (fun _ h9 => h9) rfl dX8_clause_83 ?_
        refine lv_iconst (v := (1 : Int32)) hx hb dX8_clause_86 (by decide) ?_
        refine lv_isub hx hb dX8_clause_87 ?_
        have h := Option.some.inj h
        subst h
        subst hQ
        exact W.iret (v := (f0_clauses + (1 : Int32)) - (1 : Int32)) hx hb hr (fun t ht hW => ⟨⟨(f0_clauses + (1 : Int32)) - (1 : Int32), (), rfl, ⟨rfl, trivial⟩, by rw [ht]; exact hP, hD⟩, hS.F ht⟩) hS.2.2 dX8_clause_88
      · have k_16 : ¬ (u_13.1 = true) := (kx_z c_15)
        have h := co_f k_16 h
        refine lv_iconst (v := (0 : Int32)) hx hb dX8_clause_50 (by decide) ?_
        have h := Option.some.inj h
        subst h
        subst hQ
        exact W.iret (v := (0 : Int32)) hx hb hr (fun t ht hW => ⟨⟨(0 : Int32), (), rfl, ⟨rfl, trivial⟩, by rw [ht]; exact hP, hD⟩, hS.F ht⟩) hS.2.2 dX8_clause_51
  · have k_4 : u_1 = true := (kx_nz c_3)
    have h := co_t k_4 h
    refine lv_aload_n hx hb dX8_clause_9 rfl (lv_at hl 0 rfl) ?_
    refine lv_lload_n hx hb dX8_clause_10 rfl (lv_at hl 2 rfl) ?_
    obtain ⟨u_19, hu_20, h⟩ := co_b h
    refine kx_i (ws' := fun _ => [(q0, .inr (8, [.int f0_thrown, .int f0_n, v0_equations, v0_eSet, v0_eRight, .int f0_clauses, .ref q0_cYes, .ref q0_cNo, v0_levels, v0_levelEquations, v0_levelClauses, v0_tape, v0_tapeSize, v0_faultIs, v0_faultAt, v0_at, v0_newEquations, v0_newClauses, v0_newSet, v0_newRight, v0_newYes, v0_newNo, v0_lineYes, v0_lineNo, v0_rowCount, v0_rSet, v0_rRight, v0_isImpossible, v0_sumSet, v0_sumOf, v0_sumRight, v0_empty, v0_empties, v0_taken, v0_ones, v0_waitTaken, v0_waitOnes, v0_nodeCount, v0_lastModel, v0_modelCount, v0_modelIs, v0_gSet, v0_gateCount])), (q0_cYes, .inl (cL, n0_cYes, .inr (.inl h0_cYes))), (q0_cNo, .inl (cL, n0_cNo, .inr (.inl h0_cNo)))]) hP hD hS hA [0] [1, 2] [2, 0, 1] rfl (by decide) (by decide) (by decide) (fun _ => rfl) (by decide) (va_runV (As := [.long x3]) (rest := [.ref q0]) ⟨hx, hb, hml, hown, hts⟩ (cm_X8_areThere l D cI cL (q0 := q0) (f0_n := f0_n) (v0_thrown := .int f0_thrown) (v0_equations := v0_equations) (v0_eSet := v0_eSet) (v0_eRight := v0_eRight) (v0_clauses := .int f0_clauses) (v0_cYes := .ref q0_cYes) (v0_cNo := .ref q0_cNo) (v0_levels := v0_levels) (v0_levelEquations := v0_levelEquations) (v0_levelClauses := v0_levelClauses) (v0_tape := v0_tape) (v0_tapeSize := v0_tapeSize) (v0_faultIs := v0_faultIs) (v0_faultAt := v0_faultAt) (v0_at := v0_at) (v0_newEquations := v0_newEquations) (v0_newClauses := v0_newClauses) (v0_newSet := v0_newSet) (v0_newRight := v0_newRight) (v0_newYes := v0_newYes) (v0_newNo := v0_newNo) (v0_lineYes := v0_lineYes) (v0_lineNo := v0_lineNo) (v0_rowCount := v0_rowCount) (v0_rSet := v0_rSet) (v0_rRight := v0_rRight) (v0_isImpossible := v0_isImpossible) (v0_sumSet := v0_sumSet) (v0_sumOf := v0_sumOf) (v0_sumRight := v0_sumRight) (v0_empty := v0_empty) (v0_empties := v0_empties) (v0_taken := v0_taken) (v0_ones := v0_ones) (v0_waitTaken := v0_waitTaken) (v0_waitOnes := v0_waitOnes) (v0_nodeCount := v0_nodeCount) (v0_lastModel := v0_lastModel) (v0_modelCount := v0_modelCount) (v0_modelIs := v0_modelIs) (v0_gSet := v0_gSet) (v0_gateCount := v0_gateCount) (x1 := x3) (r0 := u_19) (h0 := hu_20) (sz := H.size)) (cwV 1 hts gX8_clause_X8_areThere rfl rfl rfl (by decide +kernel) ⟨Nat.le_of_ble_eq_true rfl, Nat.le_of_ble_eq_true rfl⟩) (kx_preV hEV hP hD [0] rfl (by decide) (k0 := 0) (ci := 8) rfl rfl rfl) rfl rfl hl.1 rfl (lv_room (Nat.le_of_ble_eq_true rfl)) dX8_clause_11 ⟨Nat.le_refl _, Nat.le_refl _⟩) (fun _ H locs _ hP hD hS => ?_)
    refine lv_if_eq (tgt := 29) hx hb dX8_clause_14 (by decide) (fun c_21 => ?_) (fun c_21 => ?_)
    · have k_22 : ¬ (u_19 = true) := (kx_z c_21)
      have h := co_f k_22 h
      refine lv_iconst (v := (0 : Int32)) hx hb dX8_clause_29 (by decide) ?_
      refine lv_aload_n hx hb dX8_clause_30 rfl (lv_at hl 0 rfl) ?_
      refine va_get (D := D) (ci := 8) (v := .int f0_clauses) (C := RX8) (T := TX8) (N := 43) hx hb hts in_X8_clause_X8 hown hK hP 0 rfl rfl 5 (by decide) lk_0 (fun _ h9 => h9) rfl dX8_clause_31 ?_
      refine lv_bipush (v := (60 : Int32)) hx hb dX8_clause_34 (by decide) ?_
      refine lv_icmp_ge (tgt := 43) hx hb dX8_clause_36 (by decide) (fun c_23 => ?_) (fun c_23 => ?_)
      · have k_24 : (60 : Int32) ≤ f0_clauses := c_23
        have h := co_t k_24 h
        refine lv_iconst (v := (0 : Int32)) hx hb dX8_clause_43 (by decide) ?_
        obtain ⟨u_25, hu_26, h⟩ := co_b h
        refine kx_i (ws' := fun _ => [(q0, .inr (8, [.int u_25.2, .int f0_n, v0_equations, v0_eSet, v0_eRight, .int f0_clauses, .ref q0_cYes, .ref q0_cNo, v0_levels, v0_levelEquations, v0_levelClauses, v0_tape, v0_tapeSize, v0_faultIs, v0_faultAt, v0_at, v0_newEquations, v0_newClauses, v0_newSet, v0_newRight, v0_newYes, v0_newNo, v0_lineYes, v0_lineNo, v0_rowCount, v0_rSet, v0_rRight, v0_isImpossible, v0_sumSet, v0_sumOf, v0_sumRight, v0_empty, v0_empties, v0_taken, v0_ones, v0_waitTaken, v0_waitOnes, v0_nodeCount, v0_lastModel, v0_modelCount, v0_modelIs, v0_gSet, v0_gateCount])), (q0_cYes, .inl (cL, n0_cYes, .inr (.inl h0_cYes))), (q0_cNo, .inl (cL, n0_cNo, .inr (.inl h0_cNo)))]) hP hD hS hA [0] [1, 2] [2, 0, 1] rfl (by decide) (by decide) (by decide) (fun _ => rfl) (by decide) (va_runV (As := [.int (bI false), .int (bI false)]) (rest := []) ⟨hx, hb, hml, hown, hts⟩ (cm_X8_may l D cI cL (q0 := q0) (f0_thrown := f0_thrown) (v0_n := .int f0_n) (v0_equations := v0_equations) (v0_eSet := v0_eSet) (v0_eRight := v0_eRight) (v0_clauses := .int f0_clauses) (v0_cYes := .ref q0_cYes) (v0_cNo := .ref q0_cNo) (v0_levels := v0_levels) (v0_levelEquations := v0_levelEquations) (v0_levelClauses := v0_levelClauses) (v0_tape := v0_tape) (v0_tapeSize := v0_tapeSize) (v0_faultIs := v0_faultIs) (v0_faultAt := v0_faultAt) (v0_at := v0_at) (v0_newEquations := v0_newEquations) (v0_newClauses := v0_newClauses) (v0_newSet := v0_newSet) (v0_newRight := v0_newRight) (v0_newYes := v0_newYes) (v0_newNo := v0_newNo) (v0_lineYes := v0_lineYes) (v0_lineNo := v0_lineNo) (v0_rowCount := v0_rowCount) (v0_rSet := v0_rSet) (v0_rRight := v0_rRight) (v0_isImpossible := v0_isImpossible) (v0_sumSet := v0_sumSet) (v0_sumOf := v0_sumOf) (v0_sumRight := v0_sumRight) (v0_empty := v0_empty) (v0_empties := v0_empties) (v0_taken := v0_taken) (v0_ones := v0_ones) (v0_waitTaken := v0_waitTaken) (v0_waitOnes := v0_waitOnes) (v0_nodeCount := v0_nodeCount) (v0_lastModel := v0_lastModel) (v0_modelCount := v0_modelCount) (v0_modelIs := v0_modelIs) (v0_gSet := v0_gSet) (v0_gateCount := v0_gateCount) (x1 := false) (x2 := false) (r0 := u_25) (h0 := hu_26) (sz := H.size)) (cwV 2 hts gX8_clause_X8_may rfl rfl rfl (by decide +kernel) ⟨Nat.le_of_ble_eq_true rfl, Nat.le_of_ble_eq_true rfl⟩) (kx_preV hEV hP hD [0] rfl (by decide) (k0 := 0) (ci := 8) rfl rfl rfl) rfl rfl hl.1 rfl (lv_room (Nat.le_of_ble_eq_true rfl)) dX8_clause_44 ⟨Nat.le_refl _, Nat.le_refl _⟩) (fun _ H locs _ hP hD hS => ?_)
        refine lv_if_ne (tgt := 52) hx hb dX8_clause_47 (by decide) (fun c_27 => ?_) (fun c_27 => ?_)
        · have k_28 : u_25.1 = true := (kx_nz c_27)
          have h := co_t k_28 h
          refine lv_aload_n hx hb dX8_clause_52 rfl (lv_at hl 0 rfl) ?_
          refine va_get (D := D) (ci := 8) (v := .ref q0_cYes) (C := RX8) (T := TX8) (N := 43) hx hb hts in_X8_clause_X8 hown hK hP 0 rfl rfl 6 (by decide) lk_1 (fun _ h9 => h9) rfl dX8_clause_53 ?_
          refine lv_aload_n hx hb dX8_clause_56 rfl (lv_at hl 0 rfl) ?_
          refine va_get (D := D) (ci := 8) (v := .int f0_clauses) (C := RX8) (T := TX8) (N := 43) hx hb hts in_X8_clause_X8 hown hK hP 0 rfl rfl 5 (by decide) lk_0 (fun _ h9 => h9) rfl dX8_clause_57 ?_
          refine lv_lload_n hx hb dX8_clause_60 rfl (lv_at hl 1 rfl) ?_
          obtain ⟨b_29, h⟩ := co_i h
          refine va_last hx hb hK hP hD hS 1 1 rfl rfl b_29 dX8_clause_61 (fun H locs hP hD hS => ?_)
          have hP : va_P D vwCl [(q0, .inr (8, [.int u_25.2, .int f0_n, v0_equations, v0_eSet, v0_eRight, .int f0_clauses, .ref q0_cYes, .ref q0_cNo, v0_levels, v0_levelEquations, v0_levelClauses, v0_tape, v0_tapeSize, v0_faultIs, v0_faultAt, v0_at, v0_newEquations, v0_newClauses, v0_newSet, v0_newRight, v0_newYes, v0_newNo, v0_lineYes, v0_lineNo, v0_rowCount, v0_rSet, v0_rRight, v0_isImpossible, v0_sumSet, v0_sumOf, v0_sumRight, v0_empty, v0_empties, v0_taken, v0_ones, v0_waitTaken, v0_waitOnes, v0_nodeCount, v0_lastModel, v0_modelCount, v0_modelIs, v0_gSet, v0_gateCount])), (q0_cYes, .inl (cL, n0_cYes, .inr (.inl (vp_updL h0_cYes f0_clauses.toNatClampNeg x1)))), (q0_cNo, .inl (cL, n0_cNo, .inr (.inl h0_cNo)))] H := hP
          have hD : va_D A [(q0, .inr (8, [.int u_25.2, .int f0_n, v0_equations, v0_eSet, v0_eRight, .int f0_clauses, .ref q0_cYes, .ref q0_cNo, v0_levels, v0_levelEquations, v0_levelClauses, v0_tape, v0_tapeSize, v0_faultIs, v0_faultAt, v0_at, v0_newEquations, v0_newClauses, v0_newSet, v0_newRight, v0_newYes, v0_newNo, v0_lineYes, v0_lineNo, v0_rowCount, v0_rSet, v0_rRight, v0_isImpossible, v0_sumSet, v0_sumOf, v0_sumRight, v0_empty, v0_empties, v0_taken, v0_ones, v0_waitTaken, v0_waitOnes, v0_nodeCount, v0_lastModel, v0_modelCount, v0_modelIs, v0_gSet, v0_gateCount])), (q0_cYes, .inl (cL, n0_cYes, .inr (.inl (vp_updL h0_cYes f0_clauses.toNatClampNeg x1)))), (q0_cNo, .inl (cL, n0_cNo, .inr (.inl h0_cNo)))] := hD
          refine lv_aload_n hx hb dX8_clause_62 rfl (lv_at hl 0 rfl) ?_
          refine va_get (D := D) (ci := 8) (v := .ref q0_cNo) (C := RX8) (T := TX8) (N := 43) hx hb hts in_X8_clause_X8 hown hK hP 0 rfl rfl 7 (by decide) lk_2 (fun _ h9 => h9) rfl dX8_clause_63 ?_
          refine lv_aload_n hx hb dX8_clause_66 rfl (lv_at hl 0 rfl) ?_
          refine va_get (D := D) (ci := 8) (v := .int f0_clauses) (C := RX8) (T := TX8) (N := 43) hx hb hts in_X8_clause_X8 hown hK hP 0 rfl rfl 5 (by decide) lk_0 (fun _ h9 => h9) rfl dX8_clause_67 ?_
          refine lv_lload_n hx hb dX8_clause_70 rfl (lv_at hl 2 rfl) ?_
          obtain ⟨b_30, h⟩ := co_i h
          refine va_last hx hb hK hP hD hS 2 1 rfl rfl b_30 dX8_clause_71 (fun H locs hP hD hS => ?_)
          have hP : va_P D vwCl [(q0, .inr (8, [.int u_25.2, .int f0_n, v0_equations, v0_eSet, v0_eRight, .int f0_clauses, .ref q0_cYes, .ref q0_cNo, v0_levels, v0_levelEquations, v0_levelClauses, v0_tape, v0_tapeSize, v0_faultIs, v0_faultAt, v0_at, v0_newEquations, v0_newClauses, v0_newSet, v0_newRight, v0_newYes, v0_newNo, v0_lineYes, v0_lineNo, v0_rowCount, v0_rSet, v0_rRight, v0_isImpossible, v0_sumSet, v0_sumOf, v0_sumRight, v0_empty, v0_empties, v0_taken, v0_ones, v0_waitTaken, v0_waitOnes, v0_nodeCount, v0_lastModel, v0_modelCount, v0_modelIs, v0_gSet, v0_gateCount])), (q0_cYes, .inl (cL, n0_cYes, .inr (.inl (vp_updL h0_cYes f0_clauses.toNatClampNeg x1)))), (q0_cNo, .inl (cL, n0_cNo, .inr (.inl (vp_updL h0_cNo f0_clauses.toNatClampNeg x3))))] H := hP
          have hD : va_D A [(q0, .inr (8, [.int u_25.2, .int f0_n, v0_equations, v0_eSet, v0_eRight, .int f0_clauses, .ref q0_cYes, .ref q0_cNo, v0_levels, v0_levelEquations, v0_levelClauses, v0_tape, v0_tapeSize, v0_faultIs, v0_faultAt, v0_at, v0_newEquations, v0_newClauses, v0_newSet, v0_newRight, v0_newYes, v0_newNo, v0_lineYes, v0_lineNo, v0_rowCount, v0_rSet, v0_rRight, v0_isImpossible, v0_sumSet, v0_sumOf, v0_sumRight, v0_empty, v0_empties, v0_taken, v0_ones, v0_waitTaken, v0_waitOnes, v0_nodeCount, v0_lastModel, v0_modelCount, v0_modelIs, v0_gSet, v0_gateCount])), (q0_cYes, .inl (cL, n0_cYes, .inr (.inl (vp_updL h0_cYes f0_clauses.toNatClampNeg x1)))), (q0_cNo, .inl (cL, n0_cNo, .inr (.inl (vp_updL h0_cNo f0_clauses.toNatClampNeg x3))))] := hD
          refine lv_aload_n hx hb dX8_clause_72 rfl (lv_at hl 0 rfl) ?_
          refine lv_dup hx hb dX8_clause_73 rfl ?_
          refine va_get (D := D) (ci := 8) (v := .int f0_clauses) (C := RX8) (T := TX8) (N := 43) hx hb hts in_X8_clause_X8 hown hK hP 0 rfl rfl 5 (by decide) lk_0 (fun _ h9 => h9) rfl dX8_clause_74 ?_
          refine lv_iconst (v := (1 : Int32)) hx hb dX8_clause_77 (by decide) ?_
          refine lv_iadd hx hb dX8_clause_78 ?_
          refine va_put (D := D) (ci := 8) (v := .int (f0_clauses + (1 : Int32))) (ty := .int) (C := RX8) (T := TX8) (N := 43) hx hb hts in_X8_clause_X8 tyX8 tyX8_ok nmX8 hown hK hP hD hS 0 rfl rfl 5 (by decide) lk_0 (fun _ h9 => h9) rfl (by decide +kernel) rfl rfl (Nat.le_of_ble_eq_true rfl) dX8_clause_79 (fun H locs hP hD hS => ?_)
          have hP : va_P D vwCl [(q0, .inr (8, [.int u_25.2, .int f0_n, v0_equations, v0_eSet, v0_eRight, .int (f0_clauses + (1 : Int32)), .ref q0_cYes, .ref q0_cNo, v0_levels, v0_levelEquations, v0_levelClauses, v0_tape, v0_tapeSize, v0_faultIs, v0_faultAt, v0_at, v0_newEquations, v0_newClauses, v0_newSet, v0_newRight, v0_newYes, v0_newNo, v0_lineYes, v0_lineNo, v0_rowCount, v0_rSet, v0_rRight, v0_isImpossible, v0_sumSet, v0_sumOf, v0_sumRight, v0_empty, v0_empties, v0_taken, v0_ones, v0_waitTaken, v0_waitOnes, v0_nodeCount, v0_lastModel, v0_modelCount, v0_modelIs, v0_gSet, v0_gateCount])), (q0_cYes, .inl (cL, n0_cYes, .inr (.inl (vp_updL h0_cYes f0_clauses.toNatClampNeg x1)))), (q0_cNo, .inl (cL, n0_cNo, .inr (.inl (vp_updL h0_cNo f0_clauses.toNatClampNeg x3))))] H := hP
          have hD : va_D A [(q0, .inr (8, [.int u_25.2, .int f0_n, v0_equations, v0_eSet, v0_eRight, .int (f0_clauses + (1 : Int32)), .ref q0_cYes, .ref q0_cNo, v0_levels, v0_levelEquations, v0_levelClauses, v0_tape, v0_tapeSize, v0_faultIs, v0_faultAt, v0_at, v0_newEquations, v0_newClauses, v0_newSet, v0_newRight, v0_newYes, v0_newNo, v0_lineYes, v0_lineNo, v0_rowCount, v0_rSet, v0_rRight, v0_isImpossible, v0_sumSet, v0_sumOf, v0_sumRight, v0_empty, v0_empties, v0_taken, v0_ones, v0_waitTaken, v0_waitOnes, v0_nodeCount, v0_lastModel, v0_modelCount, v0_modelIs, v0_gSet, v0_gateCount])), (q0_cYes, .inl (cL, n0_cYes, .inr (.inl (vp_updL h0_cYes f0_clauses.toNatClampNeg x1)))), (q0_cNo, .inl (cL, n0_cNo, .inr (.inl (vp_updL h0_cNo f0_clauses.toNatClampNeg x3))))] := hD
          refine lv_aload_n hx hb dX8_clause_82 rfl (lv_at hl 0 rfl) ?_
          refine va_get (D := D) (ci := 8) (v := .int (f0_clauses + (1 : Int32))) (C := RX8) (T := TX8) (N := 43) hx hb hts in_X8_clause_X8 hown hK hP 0 rfl rfl 5 (by decide) lk_0 (fun _ h9 => h9) rfl dX8_clause_83 ?_
          refine lv_iconst (v := (1 : Int32)) hx hb dX8_clause_86 (by decide) ?_
          refine lv_isub hx hb dX8_clause_87 ?_
          have h := Option.some.inj h
          subst h
          subst hQ
          exact W.iret (v := (f0_clauses + (1 : Int32)) - (1 : Int32)) hx hb hr (fun t ht hW => ⟨⟨(f0_clauses + (1 : Int32)) - (1 : Int32), (), rfl, ⟨rfl, trivial⟩, by rw [ht]; exact hP, hD⟩, hS.F ht⟩) hS.2.2 dX8_clause_88
        · have k_28 : ¬ (u_25.1 = true) := (kx_z c_27)
          have h := co_f k_28 h
          refine lv_iconst (v := (0 : Int32)) hx hb dX8_clause_50 (by decide) ?_
          have h := Option.some.inj h
          subst h
          subst hQ
          exact W.iret (v := (0 : Int32)) hx hb hr (fun t ht hW => ⟨⟨(0 : Int32), (), rfl, ⟨rfl, trivial⟩, by rw [ht]; exact hP, hD⟩, hS.F ht⟩) hS.2.2 dX8_clause_51
      · have k_24 : ¬ ((60 : Int32) ≤ f0_clauses) := c_23
        have h := co_f k_24 h
        refine lv_iconst (v := (1 : Int32)) hx hb dX8_clause_39 (by decide) ?_
        refine lv_goto (tgt := 44) hx hb dX8_clause_40 (by decide) ?_
        obtain ⟨u_31, hu_32, h⟩ := co_b h
        refine kx_i (ws' := fun _ => [(q0, .inr (8, [.int u_31.2, .int f0_n, v0_equations, v0_eSet, v0_eRight, .int f0_clauses, .ref q0_cYes, .ref q0_cNo, v0_levels, v0_levelEquations, v0_levelClauses, v0_tape, v0_tapeSize, v0_faultIs, v0_faultAt, v0_at, v0_newEquations, v0_newClauses, v0_newSet, v0_newRight, v0_newYes, v0_newNo, v0_lineYes, v0_lineNo, v0_rowCount, v0_rSet, v0_rRight, v0_isImpossible, v0_sumSet, v0_sumOf, v0_sumRight, v0_empty, v0_empties, v0_taken, v0_ones, v0_waitTaken, v0_waitOnes, v0_nodeCount, v0_lastModel, v0_modelCount, v0_modelIs, v0_gSet, v0_gateCount])), (q0_cYes, .inl (cL, n0_cYes, .inr (.inl h0_cYes))), (q0_cNo, .inl (cL, n0_cNo, .inr (.inl h0_cNo)))]) hP hD hS hA [0] [1, 2] [2, 0, 1] rfl (by decide) (by decide) (by decide) (fun _ => rfl) (by decide) (va_runV (As := [.int (bI false), .int (bI true)]) (rest := []) ⟨hx, hb, hml, hown, hts⟩ (cm_X8_may l D cI cL (q0 := q0) (f0_thrown := f0_thrown) (v0_n := .int f0_n) (v0_equations := v0_equations) (v0_eSet := v0_eSet) (v0_eRight := v0_eRight) (v0_clauses := .int f0_clauses) (v0_cYes := .ref q0_cYes) (v0_cNo := .ref q0_cNo) (v0_levels := v0_levels) (v0_levelEquations := v0_levelEquations) (v0_levelClauses := v0_levelClauses) (v0_tape := v0_tape) (v0_tapeSize := v0_tapeSize) (v0_faultIs := v0_faultIs) (v0_faultAt := v0_faultAt) (v0_at := v0_at) (v0_newEquations := v0_newEquations) (v0_newClauses := v0_newClauses) (v0_newSet := v0_newSet) (v0_newRight := v0_newRight) (v0_newYes := v0_newYes) (v0_newNo := v0_newNo) (v0_lineYes := v0_lineYes) (v0_lineNo := v0_lineNo) (v0_rowCount := v0_rowCount) (v0_rSet := v0_rSet) (v0_rRight := v0_rRight) (v0_isImpossible := v0_isImpossible) (v0_sumSet := v0_sumSet) (v0_sumOf := v0_sumOf) (v0_sumRight := v0_sumRight) (v0_empty := v0_empty) (v0_empties := v0_empties) (v0_taken := v0_taken) (v0_ones := v0_ones) (v0_waitTaken := v0_waitTaken) (v0_waitOnes := v0_waitOnes) (v0_nodeCount := v0_nodeCount) (v0_lastModel := v0_lastModel) (v0_modelCount := v0_modelCount) (v0_modelIs := v0_modelIs) (v0_gSet := v0_gSet) (v0_gateCount := v0_gateCount) (x1 := false) (x2 := true) (r0 := u_31) (h0 := hu_32) (sz := H.size)) (cwV 2 hts gX8_clause_X8_may rfl rfl rfl (by decide +kernel) ⟨Nat.le_of_ble_eq_true rfl, Nat.le_of_ble_eq_true rfl⟩) (kx_preV hEV hP hD [0] rfl (by decide) (k0 := 0) (ci := 8) rfl rfl rfl) rfl rfl hl.1 rfl (lv_room (Nat.le_of_ble_eq_true rfl)) dX8_clause_44 ⟨Nat.le_refl _, Nat.le_refl _⟩) (fun _ H locs _ hP hD hS => ?_)
        refine lv_if_ne (tgt := 52) hx hb dX8_clause_47 (by decide) (fun c_33 => ?_) (fun c_33 => ?_)
        · have k_34 : u_31.1 = true := (kx_nz c_33)
          have h := co_t k_34 h
          refine lv_aload_n hx hb dX8_clause_52 rfl (lv_at hl 0 rfl) ?_
          refine va_get (D := D) (ci := 8) (v := .ref q0_cYes) (C := RX8) (T := TX8) (N := 43) hx hb hts in_X8_clause_X8 hown hK hP 0 rfl rfl 6 (by decide) lk_1 (fun _ h9 => h9) rfl dX8_clause_53 ?_
          refine lv_aload_n hx hb dX8_clause_56 rfl (lv_at hl 0 rfl) ?_
          refine va_get (D := D) (ci := 8) (v := .int f0_clauses) (C := RX8) (T := TX8) (N := 43) hx hb hts in_X8_clause_X8 hown hK hP 0 rfl rfl 5 (by decide) lk_0 (fun _ h9 => h9) rfl dX8_clause_57 ?_
          refine lv_lload_n hx hb dX8_clause_60 rfl (lv_at hl 1 rfl) ?_
          obtain ⟨b_35, h⟩ := co_i h
          refine va_last hx hb hK hP hD hS 1 1 rfl rfl b_35 dX8_clause_61 (fun H locs hP hD hS => ?_)
          have hP : va_P D vwCl [(q0, .inr (8, [.int u_31.2, .int f0_n, v0_equations, v0_eSet, v0_eRight, .int f0_clauses, .ref q0_cYes, .ref q0_cNo, v0_levels, v0_levelEquations, v0_levelClauses, v0_tape, v0_tapeSize, v0_faultIs, v0_faultAt, v0_at, v0_newEquations, v0_newClauses, v0_newSet, v0_newRight, v0_newYes, v0_newNo, v0_lineYes, v0_lineNo, v0_rowCount, v0_rSet, v0_rRight, v0_isImpossible, v0_sumSet, v0_sumOf, v0_sumRight, v0_empty, v0_empties, v0_taken, v0_ones, v0_waitTaken, v0_waitOnes, v0_nodeCount, v0_lastModel, v0_modelCount, v0_modelIs, v0_gSet, v0_gateCount])), (q0_cYes, .inl (cL, n0_cYes, .inr (.inl (vp_updL h0_cYes f0_clauses.toNatClampNeg x1)))), (q0_cNo, .inl (cL, n0_cNo, .inr (.inl h0_cNo)))] H := hP
          have hD : va_D A [(q0, .inr (8, [.int u_31.2, .int f0_n, v0_equations, v0_eSet, v0_eRight, .int f0_clauses, .ref q0_cYes, .ref q0_cNo, v0_levels, v0_levelEquations, v0_levelClauses, v0_tape, v0_tapeSize, v0_faultIs, v0_faultAt, v0_at, v0_newEquations, v0_newClauses, v0_newSet, v0_newRight, v0_newYes, v0_newNo, v0_lineYes, v0_lineNo, v0_rowCount, v0_rSet, v0_rRight, v0_isImpossible, v0_sumSet, v0_sumOf, v0_sumRight, v0_empty, v0_empties, v0_taken, v0_ones, v0_waitTaken, v0_waitOnes, v0_nodeCount, v0_lastModel, v0_modelCount, v0_modelIs, v0_gSet, v0_gateCount])), (q0_cYes, .inl (cL, n0_cYes, .inr (.inl (vp_updL h0_cYes f0_clauses.toNatClampNeg x1)))), (q0_cNo, .inl (cL, n0_cNo, .inr (.inl h0_cNo)))] := hD
          refine lv_aload_n hx hb dX8_clause_62 rfl (lv_at hl 0 rfl) ?_
          refine va_get (D := D) (ci := 8) (v := .ref q0_cNo) (C := RX8) (T := TX8) (N := 43) hx hb hts in_X8_clause_X8 hown hK hP 0 rfl rfl 7 (by decide) lk_2 (fun _ h9 => h9) rfl dX8_clause_63 ?_
          refine lv_aload_n hx hb dX8_clause_66 rfl (lv_at hl 0 rfl) ?_
          refine va_get (D := D) (ci := 8) (v := .int f0_clauses) (C := RX8) (T := TX8) (N := 43) hx hb hts in_X8_clause_X8 hown hK hP 0 rfl rfl 5 (by decide) lk_0 (fun _ h9 => h9) rfl dX8_clause_67 ?_
          refine lv_lload_n hx hb dX8_clause_70 rfl (lv_at hl 2 rfl) ?_
          obtain ⟨b_36, h⟩ := co_i h
          refine va_last hx hb hK hP hD hS 2 1 rfl rfl b_36 dX8_clause_71 (fun H locs hP hD hS => ?_)
          have hP : va_P D vwCl [(q0, .inr (8, [.int u_31.2, .int f0_n, v0_equations, v0_eSet, v0_eRight, .int f0_clauses, .ref q0_cYes, .ref q0_cNo, v0_levels, v0_levelEquations, v0_levelClauses, v0_tape, v0_tapeSize, v0_faultIs, v0_faultAt, v0_at, v0_newEquations, v0_newClauses, v0_newSet, v0_newRight, v0_newYes, v0_newNo, v0_lineYes, v0_lineNo, v0_rowCount, v0_rSet, v0_rRight, v0_isImpossible, v0_sumSet, v0_sumOf, v0_sumRight, v0_empty, v0_empties, v0_taken, v0_ones, v0_waitTaken, v0_waitOnes, v0_nodeCount, v0_lastModel, v0_modelCount, v0_modelIs, v0_gSet, v0_gateCount])), (q0_cYes, .inl (cL, n0_cYes, .inr (.inl (vp_updL h0_cYes f0_clauses.toNatClampNeg x1)))), (q0_cNo, .inl (cL, n0_cNo, .inr (.inl (vp_updL h0_cNo f0_clauses.toNatClampNeg x3))))] H := hP
          have hD : va_D A [(q0, .inr (8, [.int u_31.2, .int f0_n, v0_equations, v0_eSet, v0_eRight, .int f0_clauses, .ref q0_cYes, .ref q0_cNo, v0_levels, v0_levelEquations, v0_levelClauses, v0_tape, v0_tapeSize, v0_faultIs, v0_faultAt, v0_at, v0_newEquations, v0_newClauses, v0_newSet, v0_newRight, v0_newYes, v0_newNo, v0_lineYes, v0_lineNo, v0_rowCount, v0_rSet, v0_rRight, v0_isImpossible, v0_sumSet, v0_sumOf, v0_sumRight, v0_empty, v0_empties, v0_taken, v0_ones, v0_waitTaken, v0_waitOnes, v0_nodeCount, v0_lastModel, v0_modelCount, v0_modelIs, v0_gSet, v0_gateCount])), (q0_cYes, .inl (cL, n0_cYes, .inr (.inl (vp_updL h0_cYes f0_clauses.toNatClampNeg x1)))), (q0_cNo, .inl (cL, n0_cNo, .inr (.inl (vp_updL h0_cNo f0_clauses.toNatClampNeg x3))))] := hD
          refine lv_aload_n hx hb dX8_clause_72 rfl (lv_at hl 0 rfl) ?_
          refine lv_dup hx hb dX8_clause_73 rfl ?_
          refine va_get (D := D) (ci := 8) (v := .int f0_clauses) (C := RX8) (T := TX8) (N := 43) hx hb hts in_X8_clause_X8 hown hK hP 0 rfl rfl 5 (by decide) lk_0 (fun _ h9 => h9) rfl dX8_clause_74 ?_
          refine lv_iconst (v := (1 : Int32)) hx hb dX8_clause_77 (by decide) ?_
          refine lv_iadd hx hb dX8_clause_78 ?_
          refine va_put (D := D) (ci := 8) (v := .int (f0_clauses + (1 : Int32))) (ty := .int) (C := RX8) (T := TX8) (N := 43) hx hb hts in_X8_clause_X8 tyX8 tyX8_ok nmX8 hown hK hP hD hS 0 rfl rfl 5 (by decide) lk_0 (fun _ h9 => h9) rfl (by decide +kernel) rfl rfl (Nat.le_of_ble_eq_true rfl) dX8_clause_79 (fun H locs hP hD hS => ?_)
          have hP : va_P D vwCl [(q0, .inr (8, [.int u_31.2, .int f0_n, v0_equations, v0_eSet, v0_eRight, .int (f0_clauses + (1 : Int32)), .ref q0_cYes, .ref q0_cNo, v0_levels, v0_levelEquations, v0_levelClauses, v0_tape, v0_tapeSize, v0_faultIs, v0_faultAt, v0_at, v0_newEquations, v0_newClauses, v0_newSet, v0_newRight, v0_newYes, v0_newNo, v0_lineYes, v0_lineNo, v0_rowCount, v0_rSet, v0_rRight, v0_isImpossible, v0_sumSet, v0_sumOf, v0_sumRight, v0_empty, v0_empties, v0_taken, v0_ones, v0_waitTaken, v0_waitOnes, v0_nodeCount, v0_lastModel, v0_modelCount, v0_modelIs, v0_gSet, v0_gateCount])), (q0_cYes, .inl (cL, n0_cYes, .inr (.inl (vp_updL h0_cYes f0_clauses.toNatClampNeg x1)))), (q0_cNo, .inl (cL, n0_cNo, .inr (.inl (vp_updL h0_cNo f0_clauses.toNatClampNeg x3))))] H := hP
          have hD : va_D A [(q0, .inr (8, [.int u_31.2, .int f0_n, v0_equations, v0_eSet, v0_eRight, .int (f0_clauses + (1 : Int32)), .ref q0_cYes, .ref q0_cNo, v0_levels, v0_levelEquations, v0_levelClauses, v0_tape, v0_tapeSize, v0_faultIs, v0_faultAt, v0_at, v0_newEquations, v0_newClauses, v0_newSet, v0_newRight, v0_newYes, v0_newNo, v0_lineYes, v0_lineNo, v0_rowCount, v0_rSet, v0_rRight, v0_isImpossible, v0_sumSet, v0_sumOf, v0_sumRight, v0_empty, v0_empties, v0_taken, v0_ones, v0_waitTaken, v0_waitOnes, v0_nodeCount, v0_lastModel, v0_modelCount, v0_modelIs, v0_gSet, v0_gateCount])), (q0_cYes, .inl (cL, n0_cYes, .inr (.inl (vp_updL h0_cYes f0_clauses.toNatClampNeg x1)))), (q0_cNo, .inl (cL, n0_cNo, .inr (.inl (vp_updL h0_cNo f0_clauses.toNatClampNeg x3))))] := hD
          refine lv_aload_n hx hb dX8_clause_82 rfl (lv_at hl 0 rfl) ?_
          refine va_get (D := D) (ci := 8) (v := .int (f0_clauses + (1 : Int32))) (C := RX8) (T := TX8) (N := 43) hx hb hts in_X8_clause_X8 hown hK hP 0 rfl rfl 5 (by decide) lk_0 (fun _ h9 => h9) rfl dX8_clause_83 ?_
          refine lv_iconst (v := (1 : Int32)) hx hb dX8_clause_86 (by decide) ?_
          refine lv_isub hx hb dX8_clause_87 ?_
          have h := Option.some.inj h
          subst h
          subst hQ
          exact W.iret (v := (f0_clauses + (1 : Int32)) - (1 : Int32)) hx hb hr (fun t ht hW => ⟨⟨(f0_clauses + (1 : Int32)) - (1 : Int32), (), rfl, ⟨rfl, trivial⟩, by rw [ht]; exact hP, hD⟩, hS.F ht⟩) hS.2.2 dX8_clause_88
        · have k_34 : ¬ (u_31.1 = true) := (kx_z c_33)
          have h := co_f k_34 h
          refine lv_iconst (v := (0 : Int32)) hx hb dX8_clause_50 (by decide) ?_
          have h := Option.some.inj h
          subst h
          subst hQ
          exact W.iret (v := (0 : Int32)) hx hb hr (fun t ht hW => ⟨⟨(0 : Int32), (), rfl, ⟨rfl, trivial⟩, by rw [ht]; exact hP, hD⟩, hS.F ht⟩) hS.2.2 dX8_clause_51
    · have k_22 : u_19 = true := (kx_nz c_21)
      have h := co_t k_22 h
      refine lv_lload_n hx hb dX8_clause_17 rfl (lv_at hl 1 rfl) ?_
      refine lv_lload_n hx hb dX8_clause_18 rfl (lv_at hl 2 rfl) ?_
      refine lv_land hx hb dX8_clause_19 ?_
      refine lv_lconst (v := (0 : Int64)) hx hb dX8_clause_20 (by decide) ?_
      refine W.lcmp hx hb dX8_clause_21 ?_
      refine lv_if_ne (tgt := 29) hx hb dX8_clause_22 (by decide) (fun c_37 => ?_) (fun c_37 => ?_)
      · have k_38 : ¬ ((x1 &&& x3) = (0 : Int64)) := (fun z9 => c_37 ((lg_cmp_eq _ _).mpr z9))
        have h := co_f k_38 h
        refine lv_iconst (v := (0 : Int32)) hx hb dX8_clause_29 (by decide) ?_
        refine lv_aload_n hx hb dX8_clause_30 rfl (lv_at hl 0 rfl) ?_
        refine va_get (D := D) (ci := 8) (v := .int f0_clauses) (C := RX8) (T := TX8) (N := 43) hx hb hts in_X8_clause_X8 hown hK hP 0 rfl rfl 5 (by decide) lk_0 (fun _ h9 => h9) rfl dX8_clause_31 ?_
        refine lv_bipush (v := (60 : Int32)) hx hb dX8_clause_34 (by decide) ?_
        refine lv_icmp_ge (tgt := 43) hx hb dX8_clause_36 (by decide) (fun c_39 => ?_) (fun c_39 => ?_)
        · have k_40 : (60 : Int32) ≤ f0_clauses := c_39
          have h := co_t k_40 h
          refine lv_iconst (v := (0 : Int32)) hx hb dX8_clause_43 (by decide) ?_
          obtain ⟨u_41, hu_42, h⟩ := co_b h
          refine kx_i (ws' := fun _ => [(q0, .inr (8, [.int u_41.2, .int f0_n, v0_equations, v0_eSet, v0_eRight, .int f0_clauses, .ref q0_cYes, .ref q0_cNo, v0_levels, v0_levelEquations, v0_levelClauses, v0_tape, v0_tapeSize, v0_faultIs, v0_faultAt, v0_at, v0_newEquations, v0_newClauses, v0_newSet, v0_newRight, v0_newYes, v0_newNo, v0_lineYes, v0_lineNo, v0_rowCount, v0_rSet, v0_rRight, v0_isImpossible, v0_sumSet, v0_sumOf, v0_sumRight, v0_empty, v0_empties, v0_taken, v0_ones, v0_waitTaken, v0_waitOnes, v0_nodeCount, v0_lastModel, v0_modelCount, v0_modelIs, v0_gSet, v0_gateCount])), (q0_cYes, .inl (cL, n0_cYes, .inr (.inl h0_cYes))), (q0_cNo, .inl (cL, n0_cNo, .inr (.inl h0_cNo)))]) hP hD hS hA [0] [1, 2] [2, 0, 1] rfl (by decide) (by decide) (by decide) (fun _ => rfl) (by decide) (va_runV (As := [.int (bI false), .int (bI false)]) (rest := []) ⟨hx, hb, hml, hown, hts⟩ (cm_X8_may l D cI cL (q0 := q0) (f0_thrown := f0_thrown) (v0_n := .int f0_n) (v0_equations := v0_equations) (v0_eSet := v0_eSet) (v0_eRight := v0_eRight) (v0_clauses := .int f0_clauses) (v0_cYes := .ref q0_cYes) (v0_cNo := .ref q0_cNo) (v0_levels := v0_levels) (v0_levelEquations := v0_levelEquations) (v0_levelClauses := v0_levelClauses) (v0_tape := v0_tape) (v0_tapeSize := v0_tapeSize) (v0_faultIs := v0_faultIs) (v0_faultAt := v0_faultAt) (v0_at := v0_at) (v0_newEquations := v0_newEquations) (v0_newClauses := v0_newClauses) (v0_newSet := v0_newSet) (v0_newRight := v0_newRight) (v0_newYes := v0_newYes) (v0_newNo := v0_newNo) (v0_lineYes := v0_lineYes) (v0_lineNo := v0_lineNo) (v0_rowCount := v0_rowCount) (v0_rSet := v0_rSet) (v0_rRight := v0_rRight) (v0_isImpossible := v0_isImpossible) (v0_sumSet := v0_sumSet) (v0_sumOf := v0_sumOf) (v0_sumRight := v0_sumRight) (v0_empty := v0_empty) (v0_empties := v0_empties) (v0_taken := v0_taken) (v0_ones := v0_ones) (v0_waitTaken := v0_waitTaken) (v0_waitOnes := v0_waitOnes) (v0_nodeCount := v0_nodeCount) (v0_lastModel := v0_lastModel) (v0_modelCount := v0_modelCount) (v0_modelIs := v0_modelIs) (v0_gSet := v0_gSet) (v0_gateCount := v0_gateCount) (x1 := false) (x2 := false) (r0 := u_41) (h0 := hu_42) (sz := H.size)) (cwV 2 hts gX8_clause_X8_may rfl rfl rfl (by decide +kernel) ⟨Nat.le_of_ble_eq_true rfl, Nat.le_of_ble_eq_true rfl⟩) (kx_preV hEV hP hD [0] rfl (by decide) (k0 := 0) (ci := 8) rfl rfl rfl) rfl rfl hl.1 rfl (lv_room (Nat.le_of_ble_eq_true rfl)) dX8_clause_44 ⟨Nat.le_refl _, Nat.le_refl _⟩) (fun _ H locs _ hP hD hS => ?_)
          refine lv_if_ne (tgt := 52) hx hb dX8_clause_47 (by decide) (fun c_43 => ?_) (fun c_43 => ?_)
          · have k_44 : u_41.1 = true := (kx_nz c_43)
            have h := co_t k_44 h
            refine lv_aload_n hx hb dX8_clause_52 rfl (lv_at hl 0 rfl) ?_
            refine va_get (D := D) (ci := 8) (v := .ref q0_cYes) (C := RX8) (T := TX8) (N := 43) hx hb hts in_X8_clause_X8 hown hK hP 0 rfl rfl 6 (by decide) lk_1 (fun _ h9 => h9) rfl dX8_clause_53 ?_
            refine lv_aload_n hx hb dX8_clause_56 rfl (lv_at hl 0 rfl) ?_
            refine va_get (D := D) (ci := 8) (v := .int f0_clauses) (C := RX8) (T := TX8) (N := 43) hx hb hts in_X8_clause_X8 hown hK hP 0 rfl rfl 5 (by decide) lk_0 (fun _ h9 => h9) rfl dX8_clause_57 ?_
            refine lv_lload_n hx hb dX8_clause_60 rfl (lv_at hl 1 rfl) ?_
            obtain ⟨b_45, h⟩ := co_i h
            refine va_last hx hb hK hP hD hS 1 1 rfl rfl b_45 dX8_clause_61 (fun H locs hP hD hS => ?_)
            have hP : va_P D vwCl [(q0, .inr (8, [.int u_41.2, .int f0_n, v0_equations, v0_eSet, v0_eRight, .int f0_clauses, .ref q0_cYes, .ref q0_cNo, v0_levels, v0_levelEquations, v0_levelClauses, v0_tape, v0_tapeSize, v0_faultIs, v0_faultAt, v0_at, v0_newEquations, v0_newClauses, v0_newSet, v0_newRight, v0_newYes, v0_newNo, v0_lineYes, v0_lineNo, v0_rowCount, v0_rSet, v0_rRight, v0_isImpossible, v0_sumSet, v0_sumOf, v0_sumRight, v0_empty, v0_empties, v0_taken, v0_ones, v0_waitTaken, v0_waitOnes, v0_nodeCount, v0_lastModel, v0_modelCount, v0_modelIs, v0_gSet, v0_gateCount])), (q0_cYes, .inl (cL, n0_cYes, .inr (.inl (vp_updL h0_cYes f0_clauses.toNatClampNeg x1)))), (q0_cNo, .inl (cL, n0_cNo, .inr (.inl h0_cNo)))] H := hP
            have hD : va_D A [(q0, .inr (8, [.int u_41.2, .int f0_n, v0_equations, v0_eSet, v0_eRight, .int f0_clauses, .ref q0_cYes, .ref q0_cNo, v0_levels, v0_levelEquations, v0_levelClauses, v0_tape, v0_tapeSize, v0_faultIs, v0_faultAt, v0_at, v0_newEquations, v0_newClauses, v0_newSet, v0_newRight, v0_newYes, v0_newNo, v0_lineYes, v0_lineNo, v0_rowCount, v0_rSet, v0_rRight, v0_isImpossible, v0_sumSet, v0_sumOf, v0_sumRight, v0_empty, v0_empties, v0_taken, v0_ones, v0_waitTaken, v0_waitOnes, v0_nodeCount, v0_lastModel, v0_modelCount, v0_modelIs, v0_gSet, v0_gateCount])), (q0_cYes, .inl (cL, n0_cYes, .inr (.inl (vp_updL h0_cYes f0_clauses.toNatClampNeg x1)))), (q0_cNo, .inl (cL, n0_cNo, .inr (.inl h0_cNo)))] := hD
            refine lv_aload_n hx hb dX8_clause_62 rfl (lv_at hl 0 rfl) ?_
            refine va_get (D := D) (ci := 8) (v := .ref q0_cNo) (C := RX8) (T := TX8) (N := 43) hx hb hts in_X8_clause_X8 hown hK hP 0 rfl rfl 7 (by decide) lk_2 (fun _ h9 => h9) rfl dX8_clause_63 ?_
            refine lv_aload_n hx hb dX8_clause_66 rfl (lv_at hl 0 rfl) ?_
            refine va_get (D := D) (ci := 8) (v := .int f0_clauses) (C := RX8) (T := TX8) (N := 43) hx hb hts in_X8_clause_X8 hown hK hP 0 rfl rfl 5 (by decide) lk_0 (fun _ h9 => h9) rfl dX8_clause_67 ?_
            refine lv_lload_n hx hb dX8_clause_70 rfl (lv_at hl 2 rfl) ?_
            obtain ⟨b_46, h⟩ := co_i h
            refine va_last hx hb hK hP hD hS 2 1 rfl rfl b_46 dX8_clause_71 (fun H locs hP hD hS => ?_)
            have hP : va_P D vwCl [(q0, .inr (8, [.int u_41.2, .int f0_n, v0_equations, v0_eSet, v0_eRight, .int f0_clauses, .ref q0_cYes, .ref q0_cNo, v0_levels, v0_levelEquations, v0_levelClauses, v0_tape, v0_tapeSize, v0_faultIs, v0_faultAt, v0_at, v0_newEquations, v0_newClauses, v0_newSet, v0_newRight, v0_newYes, v0_newNo, v0_lineYes, v0_lineNo, v0_rowCount, v0_rSet, v0_rRight, v0_isImpossible, v0_sumSet, v0_sumOf, v0_sumRight, v0_empty, v0_empties, v0_taken, v0_ones, v0_waitTaken, v0_waitOnes, v0_nodeCount, v0_lastModel, v0_modelCount, v0_modelIs, v0_gSet, v0_gateCount])), (q0_cYes, .inl (cL, n0_cYes, .inr (.inl (vp_updL h0_cYes f0_clauses.toNatClampNeg x1)))), (q0_cNo, .inl (cL, n0_cNo, .inr (.inl (vp_updL h0_cNo f0_clauses.toNatClampNeg x3))))] H := hP
            have hD : va_D A [(q0, .inr (8, [.int u_41.2, .int f0_n, v0_equations, v0_eSet, v0_eRight, .int f0_clauses, .ref q0_cYes, .ref q0_cNo, v0_levels, v0_levelEquations, v0_levelClauses, v0_tape, v0_tapeSize, v0_faultIs, v0_faultAt, v0_at, v0_newEquations, v0_newClauses, v0_newSet, v0_newRight, v0_newYes, v0_newNo, v0_lineYes, v0_lineNo, v0_rowCount, v0_rSet, v0_rRight, v0_isImpossible, v0_sumSet, v0_sumOf, v0_sumRight, v0_empty, v0_empties, v0_taken, v0_ones, v0_waitTaken, v0_waitOnes, v0_nodeCount, v0_lastModel, v0_modelCount, v0_modelIs, v0_gSet, v0_gateCount])), (q0_cYes, .inl (cL, n0_cYes, .inr (.inl (vp_updL h0_cYes f0_clauses.toNatClampNeg x1)))), (q0_cNo, .inl (cL, n0_cNo, .inr (.inl (vp_updL h0_cNo f0_clauses.toNatClampNeg x3))))] := hD
            refine lv_aload_n hx hb dX8_clause_72 rfl (lv_at hl 0 rfl) ?_
            refine lv_dup hx hb dX8_clause_73 rfl ?_
            refine va_get (D := D) (ci := 8) (v := .int f0_clauses) (C := RX8) (T := TX8) (N := 43) hx hb hts in_X8_clause_X8 hown hK hP 0 rfl rfl 5 (by decide) lk_0 (fun _ h9 => h9) rfl dX8_clause_74 ?_
            refine lv_iconst (v := (1 : Int32)) hx hb dX8_clause_77 (by decide) ?_
            refine lv_iadd hx hb dX8_clause_78 ?_
            refine va_put (D := D) (ci := 8) (v := .int (f0_clauses + (1 : Int32))) (ty := .int) (C := RX8) (T := TX8) (N := 43) hx hb hts in_X8_clause_X8 tyX8 tyX8_ok nmX8 hown hK hP hD hS 0 rfl rfl 5 (by decide) lk_0 (fun _ h9 => h9) rfl (by decide +kernel) rfl rfl (Nat.le_of_ble_eq_true rfl) dX8_clause_79 (fun H locs hP hD hS => ?_)
            have hP : va_P D vwCl [(q0, .inr (8, [.int u_41.2, .int f0_n, v0_equations, v0_eSet, v0_eRight, .int (f0_clauses + (1 : Int32)), .ref q0_cYes, .ref q0_cNo, v0_levels, v0_levelEquations, v0_levelClauses, v0_tape, v0_tapeSize, v0_faultIs, v0_faultAt, v0_at, v0_newEquations, v0_newClauses, v0_newSet, v0_newRight, v0_newYes, v0_newNo, v0_lineYes, v0_lineNo, v0_rowCount, v0_rSet, v0_rRight, v0_isImpossible, v0_sumSet, v0_sumOf, v0_sumRight, v0_empty, v0_empties, v0_taken, v0_ones, v0_waitTaken, v0_waitOnes, v0_nodeCount, v0_lastModel, v0_modelCount, v0_modelIs, v0_gSet, v0_gateCount])), (q0_cYes, .inl (cL, n0_cYes, .inr (.inl (vp_updL h0_cYes f0_clauses.toNatClampNeg x1)))), (q0_cNo, .inl (cL, n0_cNo, .inr (.inl (vp_updL h0_cNo f0_clauses.toNatClampNeg x3))))] H := hP
            have hD : va_D A [(q0, .inr (8, [.int u_41.2, .int f0_n, v0_equations, v0_eSet, v0_eRight, .int (f0_clauses + (1 : Int32)), .ref q0_cYes, .ref q0_cNo, v0_levels, v0_levelEquations, v0_levelClauses, v0_tape, v0_tapeSize, v0_faultIs, v0_faultAt, v0_at, v0_newEquations, v0_newClauses, v0_newSet, v0_newRight, v0_newYes, v0_newNo, v0_lineYes, v0_lineNo, v0_rowCount, v0_rSet, v0_rRight, v0_isImpossible, v0_sumSet, v0_sumOf, v0_sumRight, v0_empty, v0_empties, v0_taken, v0_ones, v0_waitTaken, v0_waitOnes, v0_nodeCount, v0_lastModel, v0_modelCount, v0_modelIs, v0_gSet, v0_gateCount])), (q0_cYes, .inl (cL, n0_cYes, .inr (.inl (vp_updL h0_cYes f0_clauses.toNatClampNeg x1)))), (q0_cNo, .inl (cL, n0_cNo, .inr (.inl (vp_updL h0_cNo f0_clauses.toNatClampNeg x3))))] := hD
            refine lv_aload_n hx hb dX8_clause_82 rfl (lv_at hl 0 rfl) ?_
            refine va_get (D := D) (ci := 8) (v := .int (f0_clauses + (1 : Int32))) (C := RX8) (T := TX8) (N := 43) hx hb hts in_X8_clause_X8 hown hK hP 0 rfl rfl 5 (by decide) lk_0 (fun _ h9 => h9) rfl dX8_clause_83 ?_
            refine lv_iconst (v := (1 : Int32)) hx hb dX8_clause_86 (by decide) ?_
            refine lv_isub hx hb dX8_clause_87 ?_
            have h := Option.some.inj h
            subst h
            subst hQ
            exact W.iret (v := (f0_clauses + (1 : Int32)) - (1 : Int32)) hx hb hr (fun t ht hW => ⟨⟨(f0_clauses + (1 : Int32)) - (1 : Int32), (), rfl, ⟨rfl, trivial⟩, by rw [ht]; exact hP, hD⟩, hS.F ht⟩) hS.2.2 dX8_clause_88
          · have k_44 : ¬ (u_41.1 = true) := (kx_z c_43)
            have h := co_f k_44 h
            refine lv_iconst (v := (0 : Int32)) hx hb dX8_clause_50 (by decide) ?_
            have h := Option.some.inj h
            subst h
            subst hQ
            exact W.iret (v := (0 : Int32)) hx hb hr (fun t ht hW => ⟨⟨(0 : Int32), (), rfl, ⟨rfl, trivial⟩, by rw [ht]; exact hP, hD⟩, hS.F ht⟩) hS.2.2 dX8_clause_51
        · have k_40 : ¬ ((60 : Int32) ≤ f0_clauses) := c_39
          have h := co_f k_40 h
          refine lv_iconst (v := (1 : Int32)) hx hb dX8_clause_39 (by decide) ?_
          refine lv_goto (tgt := 44) hx hb dX8_clause_40 (by decide) ?_
          obtain ⟨u_47, hu_48, h⟩ := co_b h
          refine kx_i (ws' := fun _ => [(q0, .inr (8, [.int u_47.2, .int f0_n, v0_equations, v0_eSet, v0_eRight, .int f0_clauses, .ref q0_cYes, .ref q0_cNo, v0_levels, v0_levelEquations, v0_levelClauses, v0_tape, v0_tapeSize, v0_faultIs, v0_faultAt, v0_at, v0_newEquations, v0_newClauses, v0_newSet, v0_newRight, v0_newYes, v0_newNo, v0_lineYes, v0_lineNo, v0_rowCount, v0_rSet, v0_rRight, v0_isImpossible, v0_sumSet, v0_sumOf, v0_sumRight, v0_empty, v0_empties, v0_taken, v0_ones, v0_waitTaken, v0_waitOnes, v0_nodeCount, v0_lastModel, v0_modelCount, v0_modelIs, v0_gSet, v0_gateCount])), (q0_cYes, .inl (cL, n0_cYes, .inr (.inl h0_cYes))), (q0_cNo, .inl (cL, n0_cNo, .inr (.inl h0_cNo)))]) hP hD hS hA [0] [1, 2] [2, 0, 1] rfl (by decide) (by decide) (by decide) (fun _ => rfl) (by decide) (va_runV (As := [.int (bI false), .int (bI true)]) (rest := []) ⟨hx, hb, hml, hown, hts⟩ (cm_X8_may l D cI cL (q0 := q0) (f0_thrown := f0_thrown) (v0_n := .int f0_n) (v0_equations := v0_equations) (v0_eSet := v0_eSet) (v0_eRight := v0_eRight) (v0_clauses := .int f0_clauses) (v0_cYes := .ref q0_cYes) (v0_cNo := .ref q0_cNo) (v0_levels := v0_levels) (v0_levelEquations := v0_levelEquations) (v0_levelClauses := v0_levelClauses) (v0_tape := v0_tape) (v0_tapeSize := v0_tapeSize) (v0_faultIs := v0_faultIs) (v0_faultAt := v0_faultAt) (v0_at := v0_at) (v0_newEquations := v0_newEquations) (v0_newClauses := v0_newClauses) (v0_newSet := v0_newSet) (v0_newRight := v0_newRight) (v0_newYes := v0_newYes) (v0_newNo := v0_newNo) (v0_lineYes := v0_lineYes) (v0_lineNo := v0_lineNo) (v0_rowCount := v0_rowCount) (v0_rSet := v0_rSet) (v0_rRight := v0_rRight) (v0_isImpossible := v0_isImpossible) (v0_sumSet := v0_sumSet) (v0_sumOf := v0_sumOf) (v0_sumRight := v0_sumRight) (v0_empty := v0_empty) (v0_empties := v0_empties) (v0_taken := v0_taken) (v0_ones := v0_ones) (v0_waitTaken := v0_waitTaken) (v0_waitOnes := v0_waitOnes) (v0_nodeCount := v0_nodeCount) (v0_lastModel := v0_lastModel) (v0_modelCount := v0_modelCount) (v0_modelIs := v0_modelIs) (v0_gSet := v0_gSet) (v0_gateCount := v0_gateCount) (x1 := false) (x2 := true) (r0 := u_47) (h0 := hu_48) (sz := H.size)) (cwV 2 hts gX8_clause_X8_may rfl rfl rfl (by decide +kernel) ⟨Nat.le_of_ble_eq_true rfl, Nat.le_of_ble_eq_true rfl⟩) (kx_preV hEV hP hD [0] rfl (by decide) (k0 := 0) (ci := 8) rfl rfl rfl) rfl rfl hl.1 rfl (lv_room (Nat.le_of_ble_eq_true rfl)) dX8_clause_44 ⟨Nat.le_refl _, Nat.le_refl _⟩) (fun _ H locs _ hP hD hS => ?_)
          refine lv_if_ne (tgt := 52) hx hb dX8_clause_47 (by decide) (fun c_49 => ?_) (fun c_49 => ?_)
          · have k_50 : u_47.1 = true := (kx_nz c_49)
            have h := co_t k_50 h
            refine lv_aload_n hx hb dX8_clause_52 rfl (lv_at hl 0 rfl) ?_
            refine va_get (D := D) (ci := 8) (v := .ref q0_cYes) (C := RX8) (T := TX8) (N := 43) hx hb hts in_X8_clause_X8 hown hK hP 0 rfl rfl 6 (by decide) lk_1 (fun _ h9 => h9) rfl dX8_clause_53 ?_
            refine lv_aload_n hx hb dX8_clause_56 rfl (lv_at hl 0 rfl) ?_
            refine va_get (D := D) (ci := 8) (v := .int f0_clauses) (C := RX8) (T := TX8) (N := 43) hx hb hts in_X8_clause_X8 hown hK hP 0 rfl rfl 5 (by decide) lk_0 (fun _ h9 => h9) rfl dX8_clause_57 ?_
            refine lv_lload_n hx hb dX8_clause_60 rfl (lv_at hl 1 rfl) ?_
            obtain ⟨b_51, h⟩ := co_i h
            refine va_last hx hb hK hP hD hS 1 1 rfl rfl b_51 dX8_clause_61 (fun H locs hP hD hS => ?_)
            have hP : va_P D vwCl [(q0, .inr (8, [.int u_47.2, .int f0_n, v0_equations, v0_eSet, v0_eRight, .int f0_clauses, .ref q0_cYes, .ref q0_cNo, v0_levels, v0_levelEquations, v0_levelClauses, v0_tape, v0_tapeSize, v0_faultIs, v0_faultAt, v0_at, v0_newEquations, v0_newClauses, v0_newSet, v0_newRight, v0_newYes, v0_newNo, v0_lineYes, v0_lineNo, v0_rowCount, v0_rSet, v0_rRight, v0_isImpossible, v0_sumSet, v0_sumOf, v0_sumRight, v0_empty, v0_empties, v0_taken, v0_ones, v0_waitTaken, v0_waitOnes, v0_nodeCount, v0_lastModel, v0_modelCount, v0_modelIs, v0_gSet, v0_gateCount])), (q0_cYes, .inl (cL, n0_cYes, .inr (.inl (vp_updL h0_cYes f0_clauses.toNatClampNeg x1)))), (q0_cNo, .inl (cL, n0_cNo, .inr (.inl h0_cNo)))] H := hP
            have hD : va_D A [(q0, .inr (8, [.int u_47.2, .int f0_n, v0_equations, v0_eSet, v0_eRight, .int f0_clauses, .ref q0_cYes, .ref q0_cNo, v0_levels, v0_levelEquations, v0_levelClauses, v0_tape, v0_tapeSize, v0_faultIs, v0_faultAt, v0_at, v0_newEquations, v0_newClauses, v0_newSet, v0_newRight, v0_newYes, v0_newNo, v0_lineYes, v0_lineNo, v0_rowCount, v0_rSet, v0_rRight, v0_isImpossible, v0_sumSet, v0_sumOf, v0_sumRight, v0_empty, v0_empties, v0_taken, v0_ones, v0_waitTaken, v0_waitOnes, v0_nodeCount, v0_lastModel, v0_modelCount, v0_modelIs, v0_gSet, v0_gateCount])), (q0_cYes, .inl (cL, n0_cYes, .inr (.inl (vp_updL h0_cYes f0_clauses.toNatClampNeg x1)))), (q0_cNo, .inl (cL, n0_cNo, .inr (.inl h0_cNo)))] := hD
            refine lv_aload_n hx hb dX8_clause_62 rfl (lv_at hl 0 rfl) ?_
            refine va_get (D := D) (ci := 8) (v := .ref q0_cNo) (C := RX8) (T := TX8) (N := 43) hx hb hts in_X8_clause_X8 hown hK hP 0 rfl rfl 7 (by decide) lk_2 (fun _ h9 => h9) rfl dX8_clause_63 ?_
            refine lv_aload_n hx hb dX8_clause_66 rfl (lv_at hl 0 rfl) ?_
            refine va_get (D := D) (ci := 8) (v := .int f0_clauses) (C := RX8) (T := TX8) (N := 43) hx hb hts in_X8_clause_X8 hown hK hP 0 rfl rfl 5 (by decide) lk_0 (fun _ h9 => h9) rfl dX8_clause_67 ?_
            refine lv_lload_n hx hb dX8_clause_70 rfl (lv_at hl 2 rfl) ?_
            obtain ⟨b_52, h⟩ := co_i h
            refine va_last hx hb hK hP hD hS 2 1 rfl rfl b_52 dX8_clause_71 (fun H locs hP hD hS => ?_)
            have hP : va_P D vwCl [(q0, .inr (8, [.int u_47.2, .int f0_n, v0_equations, v0_eSet, v0_eRight, .int f0_clauses, .ref q0_cYes, .ref q0_cNo, v0_levels, v0_levelEquations, v0_levelClauses, v0_tape, v0_tapeSize, v0_faultIs, v0_faultAt, v0_at, v0_newEquations, v0_newClauses, v0_newSet, v0_newRight, v0_newYes, v0_newNo, v0_lineYes, v0_lineNo, v0_rowCount, v0_rSet, v0_rRight, v0_isImpossible, v0_sumSet, v0_sumOf, v0_sumRight, v0_empty, v0_empties, v0_taken, v0_ones, v0_waitTaken, v0_waitOnes, v0_nodeCount, v0_lastModel, v0_modelCount, v0_modelIs, v0_gSet, v0_gateCount])), (q0_cYes, .inl (cL, n0_cYes, .inr (.inl (vp_updL h0_cYes f0_clauses.toNatClampNeg x1)))), (q0_cNo, .inl (cL, n0_cNo, .inr (.inl (vp_updL h0_cNo f0_clauses.toNatClampNeg x3))))] H := hP
            have hD : va_D A [(q0, .inr (8, [.int u_47.2, .int f0_n, v0_equations, v0_eSet, v0_eRight, .int f0_clauses, .ref q0_cYes, .ref q0_cNo, v0_levels, v0_levelEquations, v0_levelClauses, v0_tape, v0_tapeSize, v0_faultIs, v0_faultAt, v0_at, v0_newEquations, v0_newClauses, v0_newSet, v0_newRight, v0_newYes, v0_newNo, v0_lineYes, v0_lineNo, v0_rowCount, v0_rSet, v0_rRight, v0_isImpossible, v0_sumSet, v0_sumOf, v0_sumRight, v0_empty, v0_empties, v0_taken, v0_ones, v0_waitTaken, v0_waitOnes, v0_nodeCount, v0_lastModel, v0_modelCount, v0_modelIs, v0_gSet, v0_gateCount])), (q0_cYes, .inl (cL, n0_cYes, .inr (.inl (vp_updL h0_cYes f0_clauses.toNatClampNeg x1)))), (q0_cNo, .inl (cL, n0_cNo, .inr (.inl (vp_updL h0_cNo f0_clauses.toNatClampNeg x3))))] := hD
            refine lv_aload_n hx hb dX8_clause_72 rfl (lv_at hl 0 rfl) ?_
            refine lv_dup hx hb dX8_clause_73 rfl ?_
            refine va_get (D := D) (ci := 8) (v := .int f0_clauses) (C := RX8) (T := TX8) (N := 43) hx hb hts in_X8_clause_X8 hown hK hP 0 rfl rfl 5 (by decide) lk_0 (fun _ h9 => h9) rfl dX8_clause_74 ?_
            refine lv_iconst (v := (1 : Int32)) hx hb dX8_clause_77 (by decide) ?_
            refine lv_iadd hx hb dX8_clause_78 ?_
            refine va_put (D := D) (ci := 8) (v := .int (f0_clauses + (1 : Int32))) (ty := .int) (C := RX8) (T := TX8) (N := 43) hx hb hts in_X8_clause_X8 tyX8 tyX8_ok nmX8 hown hK hP hD hS 0 rfl rfl 5 (by decide) lk_0 (fun _ h9 => h9) rfl (by decide +kernel) rfl rfl (Nat.le_of_ble_eq_true rfl) dX8_clause_79 (fun H locs hP hD hS => ?_)
            have hP : va_P D vwCl [(q0, .inr (8, [.int u_47.2, .int f0_n, v0_equations, v0_eSet, v0_eRight, .int (f0_clauses + (1 : Int32)), .ref q0_cYes, .ref q0_cNo, v0_levels, v0_levelEquations, v0_levelClauses, v0_tape, v0_tapeSize, v0_faultIs, v0_faultAt, v0_at, v0_newEquations, v0_newClauses, v0_newSet, v0_newRight, v0_newYes, v0_newNo, v0_lineYes, v0_lineNo, v0_rowCount, v0_rSet, v0_rRight, v0_isImpossible, v0_sumSet, v0_sumOf, v0_sumRight, v0_empty, v0_empties, v0_taken, v0_ones, v0_waitTaken, v0_waitOnes, v0_nodeCount, v0_lastModel, v0_modelCount, v0_modelIs, v0_gSet, v0_gateCount])), (q0_cYes, .inl (cL, n0_cYes, .inr (.inl (vp_updL h0_cYes f0_clauses.toNatClampNeg x1)))), (q0_cNo, .inl (cL, n0_cNo, .inr (.inl (vp_updL h0_cNo f0_clauses.toNatClampNeg x3))))] H := hP
            have hD : va_D A [(q0, .inr (8, [.int u_47.2, .int f0_n, v0_equations, v0_eSet, v0_eRight, .int (f0_clauses + (1 : Int32)), .ref q0_cYes, .ref q0_cNo, v0_levels, v0_levelEquations, v0_levelClauses, v0_tape, v0_tapeSize, v0_faultIs, v0_faultAt, v0_at, v0_newEquations, v0_newClauses, v0_newSet, v0_newRight, v0_newYes, v0_newNo, v0_lineYes, v0_lineNo, v0_rowCount, v0_rSet, v0_rRight, v0_isImpossible, v0_sumSet, v0_sumOf, v0_sumRight, v0_empty, v0_empties, v0_taken, v0_ones, v0_waitTaken, v0_waitOnes, v0_nodeCount, v0_lastModel, v0_modelCount, v0_modelIs, v0_gSet, v0_gateCount])), (q0_cYes, .inl (cL, n0_cYes, .inr (.inl (vp_updL h0_cYes f0_clauses.toNatClampNeg x1)))), (q0_cNo, .inl (cL, n0_cNo, .inr (.inl (vp_updL h0_cNo f0_clauses.toNatClampNeg x3))))] := hD
            refine lv_aload_n hx hb dX8_clause_82 rfl (lv_at hl 0 rfl) ?_
            refine va_get (D := D) (ci := 8) (v := .int (f0_clauses + (1 : Int32))) (C := RX8) (T := TX8) (N := 43) hx hb hts in_X8_clause_X8 hown hK hP 0 rfl rfl 5 (by decide) lk_0 (fun _ h9 => h9) rfl dX8_clause_83 ?_
            refine lv_iconst (v := (1 : Int32)) hx hb dX8_clause_86 (by decide) ?_
            refine lv_isub hx hb dX8_clause_87 ?_
            have h := Option.some.inj h
            subst h
            subst hQ
            exact W.iret (v := (f0_clauses + (1 : Int32)) - (1 : Int32)) hx hb hr (fun t ht hW => ⟨⟨(f0_clauses + (1 : Int32)) - (1 : Int32), (), rfl, ⟨rfl, trivial⟩, by rw [ht]; exact hP, hD⟩, hS.F ht⟩) hS.2.2 dX8_clause_88
          · have k_50 : ¬ (u_47.1 = true) := (kx_z c_49)
            have h := co_f k_50 h
            refine lv_iconst (v := (0 : Int32)) hx hb dX8_clause_50 (by decide) ?_
            have h := Option.some.inj h
            subst h
            subst hQ
            exact W.iret (v := (0 : Int32)) hx hb hr (fun t ht hW => ⟨⟨(0 : Int32), (), rfl, ⟨rfl, trivial⟩, by rw [ht]; exact hP, hD⟩, hS.F ht⟩) hS.2.2 dX8_clause_51
      · have k_38 : (x1 &&& x3) = (0 : Int64) := ((lg_cmp_eq _ _).mp c_37)
        have h := co_t k_38 h
        refine lv_iconst (v := (1 : Int32)) hx hb dX8_clause_25 (by decide) ?_
        refine lv_goto (tgt := 30) hx hb dX8_clause_26 (by decide) ?_
        refine lv_aload_n hx hb dX8_clause_30 rfl (lv_at hl 0 rfl) ?_
        refine va_get (D := D) (ci := 8) (v := .int f0_clauses) (C := RX8) (T := TX8) (N := 43) hx hb hts in_X8_clause_X8 hown hK hP 0 rfl rfl 5 (by decide) lk_0 (fun _ h9 => h9) rfl dX8_clause_31 ?_
        refine lv_bipush (v := (60 : Int32)) hx hb dX8_clause_34 (by decide) ?_
        refine lv_icmp_ge (tgt := 43) hx hb dX8_clause_36 (by decide) (fun c_53 => ?_) (fun c_53 => ?_)
        · have k_54 : (60 : Int32) ≤ f0_clauses := c_53
          have h := co_t k_54 h
          refine lv_iconst (v := (0 : Int32)) hx hb dX8_clause_43 (by decide) ?_
          obtain ⟨u_55, hu_56, h⟩ := co_b h
          refine kx_i (ws' := fun _ => [(q0, .inr (8, [.int u_55.2, .int f0_n, v0_equations, v0_eSet, v0_eRight, .int f0_clauses, .ref q0_cYes, .ref q0_cNo, v0_levels, v0_levelEquations, v0_levelClauses, v0_tape, v0_tapeSize, v0_faultIs, v0_faultAt, v0_at, v0_newEquations, v0_newClauses, v0_newSet, v0_newRight, v0_newYes, v0_newNo, v0_lineYes, v0_lineNo, v0_rowCount, v0_rSet, v0_rRight, v0_isImpossible, v0_sumSet, v0_sumOf, v0_sumRight, v0_empty, v0_empties, v0_taken, v0_ones, v0_waitTaken, v0_waitOnes, v0_nodeCount, v0_lastModel, v0_modelCount, v0_modelIs, v0_gSet, v0_gateCount])), (q0_cYes, .inl (cL, n0_cYes, .inr (.inl h0_cYes))), (q0_cNo, .inl (cL, n0_cNo, .inr (.inl h0_cNo)))]) hP hD hS hA [0] [1, 2] [2, 0, 1] rfl (by decide) (by decide) (by decide) (fun _ => rfl) (by decide) (va_runV (As := [.int (bI true), .int (bI false)]) (rest := []) ⟨hx, hb, hml, hown, hts⟩ (cm_X8_may l D cI cL (q0 := q0) (f0_thrown := f0_thrown) (v0_n := .int f0_n) (v0_equations := v0_equations) (v0_eSet := v0_eSet) (v0_eRight := v0_eRight) (v0_clauses := .int f0_clauses) (v0_cYes := .ref q0_cYes) (v0_cNo := .ref q0_cNo) (v0_levels := v0_levels) (v0_levelEquations := v0_levelEquations) (v0_levelClauses := v0_levelClauses) (v0_tape := v0_tape) (v0_tapeSize := v0_tapeSize) (v0_faultIs := v0_faultIs) (v0_faultAt := v0_faultAt) (v0_at := v0_at) (v0_newEquations := v0_newEquations) (v0_newClauses := v0_newClauses) (v0_newSet := v0_newSet) (v0_newRight := v0_newRight) (v0_newYes := v0_newYes) (v0_newNo := v0_newNo) (v0_lineYes := v0_lineYes) (v0_lineNo := v0_lineNo) (v0_rowCount := v0_rowCount) (v0_rSet := v0_rSet) (v0_rRight := v0_rRight) (v0_isImpossible := v0_isImpossible) (v0_sumSet := v0_sumSet) (v0_sumOf := v0_sumOf) (v0_sumRight := v0_sumRight) (v0_empty := v0_empty) (v0_empties := v0_empties) (v0_taken := v0_taken) (v0_ones := v0_ones) (v0_waitTaken := v0_waitTaken) (v0_waitOnes := v0_waitOnes) (v0_nodeCount := v0_nodeCount) (v0_lastModel := v0_lastModel) (v0_modelCount := v0_modelCount) (v0_modelIs := v0_modelIs) (v0_gSet := v0_gSet) (v0_gateCount := v0_gateCount) (x1 := true) (x2 := false) (r0 := u_55) (h0 := hu_56) (sz := H.size)) (cwV 2 hts gX8_clause_X8_may rfl rfl rfl (by decide +kernel) ⟨Nat.le_of_ble_eq_true rfl, Nat.le_of_ble_eq_true rfl⟩) (kx_preV hEV hP hD [0] rfl (by decide) (k0 := 0) (ci := 8) rfl rfl rfl) rfl rfl hl.1 rfl (lv_room (Nat.le_of_ble_eq_true rfl)) dX8_clause_44 ⟨Nat.le_refl _, Nat.le_refl _⟩) (fun _ H locs _ hP hD hS => ?_)
          refine lv_if_ne (tgt := 52) hx hb dX8_clause_47 (by decide) (fun c_57 => ?_) (fun c_57 => ?_)
          · have k_58 : u_55.1 = true := (kx_nz c_57)
            have h := co_t k_58 h
            refine lv_aload_n hx hb dX8_clause_52 rfl (lv_at hl 0 rfl) ?_
            refine va_get (D := D) (ci := 8) (v := .ref q0_cYes) (C := RX8) (T := TX8) (N := 43) hx hb hts in_X8_clause_X8 hown hK hP 0 rfl rfl 6 (by decide) lk_1 (fun _ h9 => h9) rfl dX8_clause_53 ?_
            refine lv_aload_n hx hb dX8_clause_56 rfl (lv_at hl 0 rfl) ?_
            refine va_get (D := D) (ci := 8) (v := .int f0_clauses) (C := RX8) (T := TX8) (N := 43) hx hb hts in_X8_clause_X8 hown hK hP 0 rfl rfl 5 (by decide) lk_0 (fun _ h9 => h9) rfl dX8_clause_57 ?_
            refine lv_lload_n hx hb dX8_clause_60 rfl (lv_at hl 1 rfl) ?_
            obtain ⟨b_59, h⟩ := co_i h
            refine va_last hx hb hK hP hD hS 1 1 rfl rfl b_59 dX8_clause_61 (fun H locs hP hD hS => ?_)
            have hP : va_P D vwCl [(q0, .inr (8, [.int u_55.2, .int f0_n, v0_equations, v0_eSet, v0_eRight, .int f0_clauses, .ref q0_cYes, .ref q0_cNo, v0_levels, v0_levelEquations, v0_levelClauses, v0_tape, v0_tapeSize, v0_faultIs, v0_faultAt, v0_at, v0_newEquations, v0_newClauses, v0_newSet, v0_newRight, v0_newYes, v0_newNo, v0_lineYes, v0_lineNo, v0_rowCount, v0_rSet, v0_rRight, v0_isImpossible, v0_sumSet, v0_sumOf, v0_sumRight, v0_empty, v0_empties, v0_taken, v0_ones, v0_waitTaken, v0_waitOnes, v0_nodeCount, v0_lastModel, v0_modelCount, v0_modelIs, v0_gSet, v0_gateCount])), (q0_cYes, .inl (cL, n0_cYes, .inr (.inl (vp_updL h0_cYes f0_clauses.toNatClampNeg x1)))), (q0_cNo, .inl (cL, n0_cNo, .inr (.inl h0_cNo)))] H := hP
            have hD : va_D A [(q0, .inr (8, [.int u_55.2, .int f0_n, v0_equations, v0_eSet, v0_eRight, .int f0_clauses, .ref q0_cYes, .ref q0_cNo, v0_levels, v0_levelEquations, v0_levelClauses, v0_tape, v0_tapeSize, v0_faultIs, v0_faultAt, v0_at, v0_newEquations, v0_newClauses, v0_newSet, v0_newRight, v0_newYes, v0_newNo, v0_lineYes, v0_lineNo, v0_rowCount, v0_rSet, v0_rRight, v0_isImpossible, v0_sumSet, v0_sumOf, v0_sumRight, v0_empty, v0_empties, v0_taken, v0_ones, v0_waitTaken, v0_waitOnes, v0_nodeCount, v0_lastModel, v0_modelCount, v0_modelIs, v0_gSet, v0_gateCount])), (q0_cYes, .inl (cL, n0_cYes, .inr (.inl (vp_updL h0_cYes f0_clauses.toNatClampNeg x1)))), (q0_cNo, .inl (cL, n0_cNo, .inr (.inl h0_cNo)))] := hD
            refine lv_aload_n hx hb dX8_clause_62 rfl (lv_at hl 0 rfl) ?_
            refine va_get (D := D) (ci := 8) (v := .ref q0_cNo) (C := RX8) (T := TX8) (N := 43) hx hb hts in_X8_clause_X8 hown hK hP 0 rfl rfl 7 (by decide) lk_2 (fun _ h9 => h9) rfl dX8_clause_63 ?_
            refine lv_aload_n hx hb dX8_clause_66 rfl (lv_at hl 0 rfl) ?_
            refine va_get (D := D) (ci := 8) (v := .int f0_clauses) (C := RX8) (T := TX8) (N := 43) hx hb hts in_X8_clause_X8 hown hK hP 0 rfl rfl 5 (by decide) lk_0 (fun _ h9 => h9) rfl dX8_clause_67 ?_
            refine lv_lload_n hx hb dX8_clause_70 rfl (lv_at hl 2 rfl) ?_
            obtain ⟨b_60, h⟩ := co_i h
            refine va_last hx hb hK hP hD hS 2 1 rfl rfl b_60 dX8_clause_71 (fun H locs hP hD hS => ?_)
            have hP : va_P D vwCl [(q0, .inr (8, [.int u_55.2, .int f0_n, v0_equations, v0_eSet, v0_eRight, .int f0_clauses, .ref q0_cYes, .ref q0_cNo, v0_levels, v0_levelEquations, v0_levelClauses, v0_tape, v0_tapeSize, v0_faultIs, v0_faultAt, v0_at, v0_newEquations, v0_newClauses, v0_newSet, v0_newRight, v0_newYes, v0_newNo, v0_lineYes, v0_lineNo, v0_rowCount, v0_rSet, v0_rRight, v0_isImpossible, v0_sumSet, v0_sumOf, v0_sumRight, v0_empty, v0_empties, v0_taken, v0_ones, v0_waitTaken, v0_waitOnes, v0_nodeCount, v0_lastModel, v0_modelCount, v0_modelIs, v0_gSet, v0_gateCount])), (q0_cYes, .inl (cL, n0_cYes, .inr (.inl (vp_updL h0_cYes f0_clauses.toNatClampNeg x1)))), (q0_cNo, .inl (cL, n0_cNo, .inr (.inl (vp_updL h0_cNo f0_clauses.toNatClampNeg x3))))] H := hP
            have hD : va_D A [(q0, .inr (8, [.int u_55.2, .int f0_n, v0_equations, v0_eSet, v0_eRight, .int f0_clauses, .ref q0_cYes, .ref q0_cNo, v0_levels, v0_levelEquations, v0_levelClauses, v0_tape, v0_tapeSize, v0_faultIs, v0_faultAt, v0_at, v0_newEquations, v0_newClauses, v0_newSet, v0_newRight, v0_newYes, v0_newNo, v0_lineYes, v0_lineNo, v0_rowCount, v0_rSet, v0_rRight, v0_isImpossible, v0_sumSet, v0_sumOf, v0_sumRight, v0_empty, v0_empties, v0_taken, v0_ones, v0_waitTaken, v0_waitOnes, v0_nodeCount, v0_lastModel, v0_modelCount, v0_modelIs, v0_gSet, v0_gateCount])), (q0_cYes, .inl (cL, n0_cYes, .inr (.inl (vp_updL h0_cYes f0_clauses.toNatClampNeg x1)))), (q0_cNo, .inl (cL, n0_cNo, .inr (.inl (vp_updL h0_cNo f0_clauses.toNatClampNeg x3))))] := hD
            refine lv_aload_n hx hb dX8_clause_72 rfl (lv_at hl 0 rfl) ?_
            refine lv_dup hx hb dX8_clause_73 rfl ?_
            refine va_get (D := D) (ci := 8) (v := .int f0_clauses) (C := RX8) (T := TX8) (N := 43) hx hb hts in_X8_clause_X8 hown hK hP 0 rfl rfl 5 (by decide) lk_0 (fun _ h9 => h9) rfl dX8_clause_74 ?_
            refine lv_iconst (v := (1 : Int32)) hx hb dX8_clause_77 (by decide) ?_
            refine lv_iadd hx hb dX8_clause_78 ?_
            refine va_put (D := D) (ci := 8) (v := .int (f0_clauses + (1 : Int32))) (ty := .int) (C := RX8) (T := TX8) (N := 43) hx hb hts in_X8_clause_X8 tyX8 tyX8_ok nmX8 hown hK hP hD hS 0 rfl rfl 5 (by decide) lk_0 (fun _ h9 => h9) rfl (by decide +kernel) rfl rfl (Nat.le_of_ble_eq_true rfl) dX8_clause_79 (fun H locs hP hD hS => ?_)
            have hP : va_P D vwCl [(q0, .inr (8, [.int u_55.2, .int f0_n, v0_equations, v0_eSet, v0_eRight, .int (f0_clauses + (1 : Int32)), .ref q0_cYes, .ref q0_cNo, v0_levels, v0_levelEquations, v0_levelClauses, v0_tape, v0_tapeSize, v0_faultIs, v0_faultAt, v0_at, v0_newEquations, v0_newClauses, v0_newSet, v0_newRight, v0_newYes, v0_newNo, v0_lineYes, v0_lineNo, v0_rowCount, v0_rSet, v0_rRight, v0_isImpossible, v0_sumSet, v0_sumOf, v0_sumRight, v0_empty, v0_empties, v0_taken, v0_ones, v0_waitTaken, v0_waitOnes, v0_nodeCount, v0_lastModel, v0_modelCount, v0_modelIs, v0_gSet, v0_gateCount])), (q0_cYes, .inl (cL, n0_cYes, .inr (.inl (vp_updL h0_cYes f0_clauses.toNatClampNeg x1)))), (q0_cNo, .inl (cL, n0_cNo, .inr (.inl (vp_updL h0_cNo f0_clauses.toNatClampNeg x3))))] H := hP
            have hD : va_D A [(q0, .inr (8, [.int u_55.2, .int f0_n, v0_equations, v0_eSet, v0_eRight, .int (f0_clauses + (1 : Int32)), .ref q0_cYes, .ref q0_cNo, v0_levels, v0_levelEquations, v0_levelClauses, v0_tape, v0_tapeSize, v0_faultIs, v0_faultAt, v0_at, v0_newEquations, v0_newClauses, v0_newSet, v0_newRight, v0_newYes, v0_newNo, v0_lineYes, v0_lineNo, v0_rowCount, v0_rSet, v0_rRight, v0_isImpossible, v0_sumSet, v0_sumOf, v0_sumRight, v0_empty, v0_empties, v0_taken, v0_ones, v0_waitTaken, v0_waitOnes, v0_nodeCount, v0_lastModel, v0_modelCount, v0_modelIs, v0_gSet, v0_gateCount])), (q0_cYes, .inl (cL, n0_cYes, .inr (.inl (vp_updL h0_cYes f0_clauses.toNatClampNeg x1)))), (q0_cNo, .inl (cL, n0_cNo, .inr (.inl (vp_updL h0_cNo f0_clauses.toNatClampNeg x3))))] := hD
            refine lv_aload_n hx hb dX8_clause_82 rfl (lv_at hl 0 rfl) ?_
            refine va_get (D := D) (ci := 8) (v := .int (f0_clauses + (1 : Int32))) (C := RX8) (T := TX8) (N := 43) hx hb hts in_X8_clause_X8 hown hK hP 0 rfl rfl 5 (by decide) lk_0 (fun _ h9 => h9) rfl dX8_clause_83 ?_
            refine lv_iconst (v := (1 : Int32)) hx hb dX8_clause_86 (by decide) ?_
            refine lv_isub hx hb dX8_clause_87 ?_
            have h := Option.some.inj h
            subst h
            subst hQ
            exact W.iret (v := (f0_clauses + (1 : Int32)) - (1 : Int32)) hx hb hr (fun t ht hW => ⟨⟨(f0_clauses + (1 : Int32)) - (1 : Int32), (), rfl, ⟨rfl, trivial⟩, by rw [ht]; exact hP, hD⟩, hS.F ht⟩) hS.2.2 dX8_clause_88
          · have k_58 : ¬ (u_55.1 = true) := (kx_z c_57)
            have h := co_f k_58 h
            refine lv_iconst (v := (0 : Int32)) hx hb dX8_clause_50 (by decide) ?_
            have h := Option.some.inj h
            subst h
            subst hQ
            exact W.iret (v := (0 : Int32)) hx hb hr (fun t ht hW => ⟨⟨(0 : Int32), (), rfl, ⟨rfl, trivial⟩, by rw [ht]; exact hP, hD⟩, hS.F ht⟩) hS.2.2 dX8_clause_51
        · have k_54 : ¬ ((60 : Int32) ≤ f0_clauses) := c_53
          have h := co_f k_54 h
          refine lv_iconst (v := (1 : Int32)) hx hb dX8_clause_39 (by decide) ?_
          refine lv_goto (tgt := 44) hx hb dX8_clause_40 (by decide) ?_
          obtain ⟨u_61, hu_62, h⟩ := co_b h
          refine kx_i (ws' := fun _ => [(q0, .inr (8, [.int u_61.2, .int f0_n, v0_equations, v0_eSet, v0_eRight, .int f0_clauses, .ref q0_cYes, .ref q0_cNo, v0_levels, v0_levelEquations, v0_levelClauses, v0_tape, v0_tapeSize, v0_faultIs, v0_faultAt, v0_at, v0_newEquations, v0_newClauses, v0_newSet, v0_newRight, v0_newYes, v0_newNo, v0_lineYes, v0_lineNo, v0_rowCount, v0_rSet, v0_rRight, v0_isImpossible, v0_sumSet, v0_sumOf, v0_sumRight, v0_empty, v0_empties, v0_taken, v0_ones, v0_waitTaken, v0_waitOnes, v0_nodeCount, v0_lastModel, v0_modelCount, v0_modelIs, v0_gSet, v0_gateCount])), (q0_cYes, .inl (cL, n0_cYes, .inr (.inl h0_cYes))), (q0_cNo, .inl (cL, n0_cNo, .inr (.inl h0_cNo)))]) hP hD hS hA [0] [1, 2] [2, 0, 1] rfl (by decide) (by decide) (by decide) (fun _ => rfl) (by decide) (va_runV (As := [.int (bI true), .int (bI true)]) (rest := []) ⟨hx, hb, hml, hown, hts⟩ (cm_X8_may l D cI cL (q0 := q0) (f0_thrown := f0_thrown) (v0_n := .int f0_n) (v0_equations := v0_equations) (v0_eSet := v0_eSet) (v0_eRight := v0_eRight) (v0_clauses := .int f0_clauses) (v0_cYes := .ref q0_cYes) (v0_cNo := .ref q0_cNo) (v0_levels := v0_levels) (v0_levelEquations := v0_levelEquations) (v0_levelClauses := v0_levelClauses) (v0_tape := v0_tape) (v0_tapeSize := v0_tapeSize) (v0_faultIs := v0_faultIs) (v0_faultAt := v0_faultAt) (v0_at := v0_at) (v0_newEquations := v0_newEquations) (v0_newClauses := v0_newClauses) (v0_newSet := v0_newSet) (v0_newRight := v0_newRight) (v0_newYes := v0_newYes) (v0_newNo := v0_newNo) (v0_lineYes := v0_lineYes) (v0_lineNo := v0_lineNo) (v0_rowCount := v0_rowCount) (v0_rSet := v0_rSet) (v0_rRight := v0_rRight) (v0_isImpossible := v0_isImpossible) (v0_sumSet := v0_sumSet) (v0_sumOf := v0_sumOf) (v0_sumRight := v0_sumRight) (v0_empty := v0_empty) (v0_empties := v0_empties) (v0_taken := v0_taken) (v0_ones := v0_ones) (v0_waitTaken := v0_waitTaken) (v0_waitOnes := v0_waitOnes) (v0_nodeCount := v0_nodeCount) (v0_lastModel := v0_lastModel) (v0_modelCount := v0_modelCount) (v0_modelIs := v0_modelIs) (v0_gSet := v0_gSet) (v0_gateCount := v0_gateCount) (x1 := true) (x2 := true) (r0 := u_61) (h0 := hu_62) (sz := H.size)) (cwV 2 hts gX8_clause_X8_may rfl rfl rfl (by decide +kernel) ⟨Nat.le_of_ble_eq_true rfl, Nat.le_of_ble_eq_true rfl⟩) (kx_preV hEV hP hD [0] rfl (by decide) (k0 := 0) (ci := 8) rfl rfl rfl) rfl rfl hl.1 rfl (lv_room (Nat.le_of_ble_eq_true rfl)) dX8_clause_44 ⟨Nat.le_refl _, Nat.le_refl _⟩) (fun _ H locs _ hP hD hS => ?_)
          refine lv_if_ne (tgt := 52) hx hb dX8_clause_47 (by decide) (fun c_63 => ?_) (fun c_63 => ?_)
          · have k_64 : u_61.1 = true := (kx_nz c_63)
            have h := co_t k_64 h
            refine lv_aload_n hx hb dX8_clause_52 rfl (lv_at hl 0 rfl) ?_
            refine va_get (D := D) (ci := 8) (v := .ref q0_cYes) (C := RX8) (T := TX8) (N := 43) hx hb hts in_X8_clause_X8 hown hK hP 0 rfl rfl 6 (by decide) lk_1 (fun _ h9 => h9) rfl dX8_clause_53 ?_
            refine lv_aload_n hx hb dX8_clause_56 rfl (lv_at hl 0 rfl) ?_
            refine va_get (D := D) (ci := 8) (v := .int f0_clauses) (C := RX8) (T := TX8) (N := 43) hx hb hts in_X8_clause_X8 hown hK hP 0 rfl rfl 5 (by decide) lk_0 (fun _ h9 => h9) rfl dX8_clause_57 ?_
            refine lv_lload_n hx hb dX8_clause_60 rfl (lv_at hl 1 rfl) ?_
            obtain ⟨b_65, h⟩ := co_i h
            refine va_last hx hb hK hP hD hS 1 1 rfl rfl b_65 dX8_clause_61 (fun H locs hP hD hS => ?_)
            have hP : va_P D vwCl [(q0, .inr (8, [.int u_61.2, .int f0_n, v0_equations, v0_eSet, v0_eRight, .int f0_clauses, .ref q0_cYes, .ref q0_cNo, v0_levels, v0_levelEquations, v0_levelClauses, v0_tape, v0_tapeSize, v0_faultIs, v0_faultAt, v0_at, v0_newEquations, v0_newClauses, v0_newSet, v0_newRight, v0_newYes, v0_newNo, v0_lineYes, v0_lineNo, v0_rowCount, v0_rSet, v0_rRight, v0_isImpossible, v0_sumSet, v0_sumOf, v0_sumRight, v0_empty, v0_empties, v0_taken, v0_ones, v0_waitTaken, v0_waitOnes, v0_nodeCount, v0_lastModel, v0_modelCount, v0_modelIs, v0_gSet, v0_gateCount])), (q0_cYes, .inl (cL, n0_cYes, .inr (.inl (vp_updL h0_cYes f0_clauses.toNatClampNeg x1)))), (q0_cNo, .inl (cL, n0_cNo, .inr (.inl h0_cNo)))] H := hP
            have hD : va_D A [(q0, .inr (8, [.int u_61.2, .int f0_n, v0_equations, v0_eSet, v0_eRight, .int f0_clauses, .ref q0_cYes, .ref q0_cNo, v0_levels, v0_levelEquations, v0_levelClauses, v0_tape, v0_tapeSize, v0_faultIs, v0_faultAt, v0_at, v0_newEquations, v0_newClauses, v0_newSet, v0_newRight, v0_newYes, v0_newNo, v0_lineYes, v0_lineNo, v0_rowCount, v0_rSet, v0_rRight, v0_isImpossible, v0_sumSet, v0_sumOf, v0_sumRight, v0_empty, v0_empties, v0_taken, v0_ones, v0_waitTaken, v0_waitOnes, v0_nodeCount, v0_lastModel, v0_modelCount, v0_modelIs, v0_gSet, v0_gateCount])), (q0_cYes, .inl (cL, n0_cYes, .inr (.inl (vp_updL h0_cYes f0_clauses.toNatClampNeg x1)))), (q0_cNo, .inl (cL, n0_cNo, .inr (.inl h0_cNo)))] := hD
            refine lv_aload_n hx hb dX8_clause_62 rfl (lv_at hl 0 rfl) ?_
            refine va_get (D := D) (ci := 8) (v := .ref q0_cNo) (C := RX8) (T := TX8) (N := 43) hx hb hts in_X8_clause_X8 hown hK hP 0 rfl rfl 7 (by decide) lk_2 (fun _ h9 => h9) rfl dX8_clause_63 ?_
            refine lv_aload_n hx hb dX8_clause_66 rfl (lv_at hl 0 rfl) ?_
            refine va_get (D := D) (ci := 8) (v := .int f0_clauses) (C := RX8) (T := TX8) (N := 43) hx hb hts in_X8_clause_X8 hown hK hP 0 rfl rfl 5 (by decide) lk_0 (fun _ h9 => h9) rfl dX8_clause_67 ?_
            refine lv_lload_n hx hb dX8_clause_70 rfl (lv_at hl 2 rfl) ?_
            obtain ⟨b_66, h⟩ := co_i h
            refine va_last hx hb hK hP hD hS 2 1 rfl rfl b_66 dX8_clause_71 (fun H locs hP hD hS => ?_)
            have hP : va_P D vwCl [(q0, .inr (8, [.int u_61.2, .int f0_n, v0_equations, v0_eSet, v0_eRight, .int f0_clauses, .ref q0_cYes, .ref q0_cNo, v0_levels, v0_levelEquations, v0_levelClauses, v0_tape, v0_tapeSize, v0_faultIs, v0_faultAt, v0_at, v0_newEquations, v0_newClauses, v0_newSet, v0_newRight, v0_newYes, v0_newNo, v0_lineYes, v0_lineNo, v0_rowCount, v0_rSet, v0_rRight, v0_isImpossible, v0_sumSet, v0_sumOf, v0_sumRight, v0_empty, v0_empties, v0_taken, v0_ones, v0_waitTaken, v0_waitOnes, v0_nodeCount, v0_lastModel, v0_modelCount, v0_modelIs, v0_gSet, v0_gateCount])), (q0_cYes, .inl (cL, n0_cYes, .inr (.inl (vp_updL h0_cYes f0_clauses.toNatClampNeg x1)))), (q0_cNo, .inl (cL, n0_cNo, .inr (.inl (vp_updL h0_cNo f0_clauses.toNatClampNeg x3))))] H := hP
            have hD : va_D A [(q0, .inr (8, [.int u_61.2, .int f0_n, v0_equations, v0_eSet, v0_eRight, .int f0_clauses, .ref q0_cYes, .ref q0_cNo, v0_levels, v0_levelEquations, v0_levelClauses, v0_tape, v0_tapeSize, v0_faultIs, v0_faultAt, v0_at, v0_newEquations, v0_newClauses, v0_newSet, v0_newRight, v0_newYes, v0_newNo, v0_lineYes, v0_lineNo, v0_rowCount, v0_rSet, v0_rRight, v0_isImpossible, v0_sumSet, v0_sumOf, v0_sumRight, v0_empty, v0_empties, v0_taken, v0_ones, v0_waitTaken, v0_waitOnes, v0_nodeCount, v0_lastModel, v0_modelCount, v0_modelIs, v0_gSet, v0_gateCount])), (q0_cYes, .inl (cL, n0_cYes, .inr (.inl (vp_updL h0_cYes f0_clauses.toNatClampNeg x1)))), (q0_cNo, .inl (cL, n0_cNo, .inr (.inl (vp_updL h0_cNo f0_clauses.toNatClampNeg x3))))] := hD
            refine lv_aload_n hx hb dX8_clause_72 rfl (lv_at hl 0 rfl) ?_
            refine lv_dup hx hb dX8_clause_73 rfl ?_
            refine va_get (D := D) (ci := 8) (v := .int f0_clauses) (C := RX8) (T := TX8) (N := 43) hx hb hts in_X8_clause_X8 hown hK hP 0 rfl rfl 5 (by decide) lk_0 (fun _ h9 => h9) rfl dX8_clause_74 ?_
            refine lv_iconst (v := (1 : Int32)) hx hb dX8_clause_77 (by decide) ?_
            refine lv_iadd hx hb dX8_clause_78 ?_
            refine va_put (D := D) (ci := 8) (v := .int (f0_clauses + (1 : Int32))) (ty := .int) (C := RX8) (T := TX8) (N := 43) hx hb hts in_X8_clause_X8 tyX8 tyX8_ok nmX8 hown hK hP hD hS 0 rfl rfl 5 (by decide) lk_0 (fun _ h9 => h9) rfl (by decide +kernel) rfl rfl (Nat.le_of_ble_eq_true rfl) dX8_clause_79 (fun H locs hP hD hS => ?_)
            have hP : va_P D vwCl [(q0, .inr (8, [.int u_61.2, .int f0_n, v0_equations, v0_eSet, v0_eRight, .int (f0_clauses + (1 : Int32)), .ref q0_cYes, .ref q0_cNo, v0_levels, v0_levelEquations, v0_levelClauses, v0_tape, v0_tapeSize, v0_faultIs, v0_faultAt, v0_at, v0_newEquations, v0_newClauses, v0_newSet, v0_newRight, v0_newYes, v0_newNo, v0_lineYes, v0_lineNo, v0_rowCount, v0_rSet, v0_rRight, v0_isImpossible, v0_sumSet, v0_sumOf, v0_sumRight, v0_empty, v0_empties, v0_taken, v0_ones, v0_waitTaken, v0_waitOnes, v0_nodeCount, v0_lastModel, v0_modelCount, v0_modelIs, v0_gSet, v0_gateCount])), (q0_cYes, .inl (cL, n0_cYes, .inr (.inl (vp_updL h0_cYes f0_clauses.toNatClampNeg x1)))), (q0_cNo, .inl (cL, n0_cNo, .inr (.inl (vp_updL h0_cNo f0_clauses.toNatClampNeg x3))))] H := hP
            have hD : va_D A [(q0, .inr (8, [.int u_61.2, .int f0_n, v0_equations, v0_eSet, v0_eRight, .int (f0_clauses + (1 : Int32)), .ref q0_cYes, .ref q0_cNo, v0_levels, v0_levelEquations, v0_levelClauses, v0_tape, v0_tapeSize, v0_faultIs, v0_faultAt, v0_at, v0_newEquations, v0_newClauses, v0_newSet, v0_newRight, v0_newYes, v0_newNo, v0_lineYes, v0_lineNo, v0_rowCount, v0_rSet, v0_rRight, v0_isImpossible, v0_sumSet, v0_sumOf, v0_sumRight, v0_empty, v0_empties, v0_taken, v0_ones, v0_waitTaken, v0_waitOnes, v0_nodeCount, v0_lastModel, v0_modelCount, v0_modelIs, v0_gSet, v0_gateCount])), (q0_cYes, .inl (cL, n0_cYes, .inr (.inl (vp_updL h0_cYes f0_clauses.toNatClampNeg x1)))), (q0_cNo, .inl (cL, n0_cNo, .inr (.inl (vp_updL h0_cNo f0_clauses.toNatClampNeg x3))))] := hD
            refine lv_aload_n hx hb dX8_clause_82 rfl (lv_at hl 0 rfl) ?_
            refine va_get (D := D) (ci := 8) (v := .int (f0_clauses + (1 : Int32))) (C := RX8) (T := TX8) (N := 43) hx hb hts in_X8_clause_X8 hown hK hP 0 rfl rfl 5 (by decide) lk_0 (fun _ h9 => h9) rfl dX8_clause_83 ?_
            refine lv_iconst (v := (1 : Int32)) hx hb dX8_clause_86 (by decide) ?_
            refine lv_isub hx hb dX8_clause_87 ?_
            have h := Option.some.inj h
            subst h
            subst hQ
            exact W.iret (v := (f0_clauses + (1 : Int32)) - (1 : Int32)) hx hb hr (fun t ht hW => ⟨⟨(f0_clauses + (1 : Int32)) - (1 : Int32), (), rfl, ⟨rfl, trivial⟩, by rw [ht]; exact hP, hD⟩, hS.F ht⟩) hS.2.2 dX8_clause_88
          · have k_64 : ¬ (u_61.1 = true) := (kx_z c_63)
            have h := co_f k_64 h
            refine lv_iconst (v := (0 : Int32)) hx hb dX8_clause_50 (by decide) ?_
            have h := Option.some.inj h
            subst h
            subst hQ
            exact W.iret (v := (0 : Int32)) hx hb hr (fun t ht hW => ⟨⟨(0 : Int32), (), rfl, ⟨rfl, trivial⟩, by rw [ht]; exact hP, hD⟩, hS.F ht⟩) hS.2.2 dX8_clause_51
noncomputable def D_X8_push (f0_thrown : Int32) (f0_equations : Int32) (f0_clauses : Int32) (f0_levels : Int32) (n0_levelEquations : Nat) (h0_levelEquations : Nat → Int32) (n0_levelClauses : Nat) (h0_levelClauses : Nat → Int32) : Option (Int32 × Int32 × Int32 × (Nat → Int32) × (Nat → Int32)) :=
  cif ((20 : Int32) ≤ f0_levels)
    (Option.bind (D_X8_may f0_thrown false true) (fun u_3 =>
      cif (u_3.1 = true)
        (cif (vp_in f0_levels n0_levelEquations)
          (cif (vp_in f0_levels n0_levelClauses)
            (some (f0_levels + (1 : Int32), u_3.2, f0_levels + (1 : Int32), upd h0_levelEquations f0_levels.toNatClampNeg f0_equations, upd h0_levelClauses f0_levels.toNatClampNeg f0_clauses))
            (none))
          (none))
        (some ((0 : Int32), u_3.2, f0_levels, h0_levelEquations, h0_levelClauses))))
    (Option.bind (D_X8_may f0_thrown true true) (fun u_9 =>
      cif (u_9.1 = true)
        (cif (vp_in f0_levels n0_levelEquations)
          (cif (vp_in f0_levels n0_levelClauses)
            (some (f0_levels + (1 : Int32), u_9.2, f0_levels + (1 : Int32), upd h0_levelEquations f0_levels.toNatClampNeg f0_equations, upd h0_levelClauses f0_levels.toNatClampNeg f0_clauses))
            (none))
          (none))
        (some ((0 : Int32), u_9.2, f0_levels, h0_levelEquations, h0_levelClauses))))
theorem in_X8_push_X8 : ∀ w ∈ wsX80, w ∈ wsX8_push := by decide +kernel
theorem lk_0_X8_push : Cond.fieldLink RX8 108 "ParityClausesModel" "levels" "I" ∈ wsX8_push := by decide +kernel
theorem lk_1_X8_push : Cond.fieldLink RX8 23 "ParityClausesModel" "levelEquations" "[I" ∈ wsX8_push := by decide +kernel
theorem lk_2_X8_push : Cond.fieldLink RX8 98 "ParityClausesModel" "equations" "I" ∈ wsX8_push := by decide +kernel
theorem lk_3_X8_push : Cond.fieldLink RX8 26 "ParityClausesModel" "levelClauses" "[I" ∈ wsX8_push := by decide +kernel
theorem lk_4_X8_push : Cond.fieldLink RX8 105 "ParityClausesModel" "clauses" "I" ∈ wsX8_push := by decide +kernel
abbrev rm_X8_push : Room := { frames := 1, cells := 0, slots := 0, locals := 22 }
set_option maxHeartbeats 4000000 in
set_option maxRecDepth 100000 in
theorem cm_X8_push (l : Launch) (D : va_G) (cI cL : ClassId) (q0 q0_levelEquations q0_levelClauses : Nat) (n0_levelEquations n0_levelClauses : Nat) (f0_thrown : Int32) (f0_equations : Int32) (f0_clauses : Int32) (f0_levels : Int32) (h0_levelEquations : Nat → Int32) (h0_levelClauses : Nat → Int32) (v0_n v0_eSet v0_eRight v0_cYes v0_cNo v0_tape v0_tapeSize v0_faultIs v0_faultAt v0_at v0_newEquations v0_newClauses v0_newSet v0_newRight v0_newYes v0_newNo v0_lineYes v0_lineNo v0_rowCount v0_rSet v0_rRight v0_isImpossible v0_sumSet v0_sumOf v0_sumRight v0_empty v0_empties v0_taken v0_ones v0_waitTaken v0_waitOnes v0_nodeCount v0_lastModel v0_modelCount v0_modelIs v0_gSet v0_gateCount : Value) (r0 : Int32 × Int32 × Int32 × (Nat → Int32) × (Nat → Int32)) (h0 : D_X8_push f0_thrown f0_equations f0_clauses f0_levels n0_levelEquations h0_levelEquations n0_levelClauses h0_levelClauses = some r0) (sz : Nat) : Met l yX8_push wsX8_push rm_X8_push (PcW D cI cL [.ref q0] [(q0, .inr (8, [.int f0_thrown, v0_n, .int f0_equations, v0_eSet, v0_eRight, .int f0_clauses, v0_cYes, v0_cNo, .int f0_levels, .ref q0_levelEquations, .ref q0_levelClauses, v0_tape, v0_tapeSize, v0_faultIs, v0_faultAt, v0_at, v0_newEquations, v0_newClauses, v0_newSet, v0_newRight, v0_newYes, v0_newNo, v0_lineYes, v0_lineNo, v0_rowCount, v0_rSet, v0_rRight, v0_isImpossible, v0_sumSet, v0_sumOf, v0_sumRight, v0_empty, v0_empties, v0_taken, v0_ones, v0_waitTaken, v0_waitOnes, v0_nodeCount, v0_lastModel, v0_modelCount, v0_modelIs, v0_gSet, v0_gateCount])), (q0_levelEquations, .inl (cI, n0_levelEquations, .inl h0_levelEquations)), (q0_levelClauses, .inl (cI, n0_levelClauses, .inl h0_levelClauses))] sz) (QiW D [(q0, .inr (8, [.int f0_thrown, v0_n, .int f0_equations, v0_eSet, v0_eRight, .int f0_clauses, v0_cYes, v0_cNo, .int f0_levels, .ref q0_levelEquations, .ref q0_levelClauses, v0_tape, v0_tapeSize, v0_faultIs, v0_faultAt, v0_at, v0_newEquations, v0_newClauses, v0_newSet, v0_newRight, v0_newYes, v0_newNo, v0_lineYes, v0_lineNo, v0_rowCount, v0_rSet, v0_rRight, v0_isImpossible, v0_sumSet, v0_sumOf, v0_sumRight, v0_empty, v0_empties, v0_taken, v0_ones, v0_waitTaken, v0_waitOnes, v0_nodeCount, v0_lastModel, v0_modelCount, v0_modelIs, v0_gSet, v0_gateCount])), (q0_levelEquations, .inl (cI, n0_levelEquations, .inl h0_levelEquations)), (q0_levelClauses, .inl (cI, n0_levelClauses, .inl h0_levelClauses))] r0.1 (fun _ : Unit => [(q0, .inr (8, [.int r0.2.1, v0_n, .int f0_equations, v0_eSet, v0_eRight, .int f0_clauses, v0_cYes, v0_cNo, .int r0.2.2.1, .ref q0_levelEquations, .ref q0_levelClauses, v0_tape, v0_tapeSize, v0_faultIs, v0_faultAt, v0_at, v0_newEquations, v0_newClauses, v0_newSet, v0_newRight, v0_newYes, v0_newNo, v0_lineYes, v0_lineNo, v0_rowCount, v0_rSet, v0_rRight, v0_isImpossible, v0_sumSet, v0_sumOf, v0_sumRight, v0_empty, v0_empties, v0_taken, v0_ones, v0_waitTaken, v0_waitOnes, v0_nodeCount, v0_lastModel, v0_modelCount, v0_modelIs, v0_gSet, v0_gateCount])), (q0_levelEquations, .inl (cI, n0_levelEquations, .inl r0.2.2.2.1)), (q0_levelClauses, .inl (cI, n0_levelClauses, .inl r0.2.2.2.2))]) tU sz) 0 0 (va_A [(q0, .inr (8, [.int f0_thrown, v0_n, .int f0_equations, v0_eSet, v0_eRight, .int f0_clauses, v0_cYes, v0_cNo, .int f0_levels, .ref q0_levelEquations, .ref q0_levelClauses, v0_tape, v0_tapeSize, v0_faultIs, v0_faultAt, v0_at, v0_newEquations, v0_newClauses, v0_newSet, v0_newRight, v0_newYes, v0_newNo, v0_lineYes, v0_lineNo, v0_rowCount, v0_rSet, v0_rRight, v0_isImpossible, v0_sumSet, v0_sumOf, v0_sumRight, v0_empty, v0_empties, v0_taken, v0_ones, v0_waitTaken, v0_waitOnes, v0_nodeCount, v0_lastModel, v0_modelCount, v0_modelIs, v0_gSet, v0_gateCount])), (q0_levelEquations, .inl (cI, n0_levelEquations, .inl h0_levelEquations)), (q0_levelClauses, .inl (cI, n0_levelClauses, .inl h0_levelClauses))] sz) := by
  refine Met.ofW (cc := cX8_push) (maxL := 1) (ret := (some .int)) (by decide) rfl ?_
  intro p e s m args below meth c s₁ B hml hv
  obtain ⟨hargs, hsz, hP, hEV, hD0⟩ := hv
  have hx := B.exec
  have hb := B.bytes
  have hr := B.returns
  have hts := atoms_spec (ws := wsX8_push) B.pre
  have hown : s.vm.findClass RX8 = some m.cls := findClass_of_methodNamed B.named
  have hlocks := B.notSynchronized
  have hK := hEV.K
  have lk_0 := hts _ lk_0_X8_push
  have lk_1 := hts _ lk_1_X8_push
  have lk_2 := hts _ lk_2_X8_push
  have lk_3 := hts _ lk_3_X8_push
  have lk_4 := hts _ lk_4_X8_push
  subst hsz
  unfold QiW PoW
  have hD := hD0.self (sz := s.heap.size)
  generalize hAe : va_A [(q0, .inr (8, [.int f0_thrown, v0_n, .int f0_equations, v0_eSet, v0_eRight, .int f0_clauses, v0_cYes, v0_cNo, .int f0_levels, .ref q0_levelEquations, .ref q0_levelClauses, v0_tape, v0_tapeSize, v0_faultIs, v0_faultAt, v0_at, v0_newEquations, v0_newClauses, v0_newSet, v0_newRight, v0_newYes, v0_newNo, v0_lineYes, v0_lineNo, v0_rowCount, v0_rSet, v0_rRight, v0_isImpossible, v0_sumSet, v0_sumOf, v0_sumRight, v0_empty, v0_empties, v0_taken, v0_ones, v0_waitTaken, v0_waitOnes, v0_nodeCount, v0_lastModel, v0_modelCount, v0_modelIs, v0_gSet, v0_gateCount])), (q0_levelEquations, .inl (cI, n0_levelEquations, .inl h0_levelEquations)), (q0_levelClauses, .inl (cI, n0_levelClauses, .inl h0_levelClauses))] s.heap.size = A at hD ⊢
  have hA : ∀ q : Nat, s.heap.size ≤ q → A q := fun q h => by rw [← hAe]; exact Or.inr h
  have hS : va_S A s.heap s.heap [] := va_S.rf
  have hent : entryFrame m args 1 = entryFrame m ([.ref q0] : List Value).toArray 1 := by rw [hargs]
  rw [hent]
  refine kx_Q (fun Q hQ => ?_)
  have hl := lv_entry ([.ref q0]) (n := 1) (Nat.le_of_ble_eq_true rfl)
  rw [lg_entry_eq]
  generalize (lg_sl ([.ref q0]) ++ List.replicate (1 - (lg_sl ([.ref q0])).length) Slot.unset).toArray = ls at hl ⊢
  have hl : lv_has ls 1 [(0, .ref q0)] := hl
  have h := h0
  unfold D_X8_push at h
  refine lv_aload_n hx hb dX8_push_0 rfl (lv_at hl 0 rfl) ?_
  refine lv_aload_n hx hb dX8_push_1 rfl (lv_at hl 0 rfl) ?_
  refine va_get (D := D) (ci := 8) (v := .int f0_levels) (C := RX8) (T := TX8) (N := 43) hx hb hts in_X8_push_X8 hown hK hP 0 rfl rfl 8 (by decide) lk_0 (fun _ h9 => h9) rfl dX8_push_2 ?_
  refine lv_bipush (v := (20 : Int32)) hx hb dX8_push_5 (by decide) ?_
  refine lv_icmp_ge (tgt := 14) hx hb dX8_push_7 (by decide) (fun c_1 => ?_) (fun c_1 => ?_)
  · have k_2 : (20 : Int32) ≤ f0_levels := c_1
    have h := co_t k_2 h
    refine lv_iconst (v := (0 : Int32)) hx hb dX8_push_14 (by decide) ?_
    refine lv_iconst (v := (1 : Int32)) hx hb dX8_push_15 (by decide) ?_
    obtain ⟨u_3, hu_4, h⟩ := co_b h
    refine kx_i (ws' := fun _ => [(q0, .inr (8, [.int u_3.2, v0_n, .int f0_equations, v0_eSet, v0_eRight, .int f0_clauses, v0_cYes, v0_cNo, .int f0_levels, .ref q0_levelEquations, .ref q0_levelClauses, v0_tape, v0_tapeSize, v0_faultIs, v0_faultAt, v0_at, v0_newEquations, v0_newClauses, v0_newSet, v0_newRight, v0_newYes, v0_newNo, v0_lineYes, v0_lineNo, v0_rowCount, v0_rSet, v0_rRight, v0_isImpossible, v0_sumSet, v0_sumOf, v0_sumRight, v0_empty, v0_empties, v0_taken, v0_ones, v0_waitTaken, v0_waitOnes, v0_nodeCount, v0_lastModel, v0_modelCount, v0_modelIs, v0_gSet, v0_gateCount])), (q0_levelEquations, .inl (cI, n0_levelEquations, .inl h0_levelEquations)), (q0_levelClauses, .inl (cI, n0_levelClauses, .inl h0_levelClauses))]) hP hD hS hA [0] [1, 2] [2, 0, 1] rfl (by decide) (by decide) (by decide) (fun _ => rfl) (by decide) (va_runV (As := [.int (bI false), .int (bI true)]) (rest := []) ⟨hx, hb, hml, hown, hts⟩ (cm_X8_may l D cI cL (q0 := q0) (f0_thrown := f0_thrown) (v0_n := v0_n) (v0_equations := .int f0_equations) (v0_eSet := v0_eSet) (v0_eRight := v0_eRight) (v0_clauses := .int f0_clauses) (v0_cYes := v0_cYes) (v0_cNo := v0_cNo) (v0_levels := .int f0_levels) (v0_levelEquations := .ref q0_levelEquations) (v0_levelClauses := .ref q0_levelClauses) (v0_tape := v0_tape) (v0_tapeSize := v0_tapeSize) (v0_faultIs := v0_faultIs) (v0_faultAt := v0_faultAt) (v0_at := v0_at) (v0_newEquations := v0_newEquations) (v0_newClauses := v0_newClauses) (v0_newSet := v0_newSet) (v0_newRight := v0_newRight) (v0_newYes := v0_newYes) (v0_newNo := v0_newNo) (v0_lineYes := v0_lineYes) (v0_lineNo := v0_lineNo) (v0_rowCount := v0_rowCount) (v0_rSet := v0_rSet) (v0_rRight := v0_rRight) (v0_isImpossible := v0_isImpossible) (v0_sumSet := v0_sumSet) (v0_sumOf := v0_sumOf) (v0_sumRight := v0_sumRight) (v0_empty := v0_empty) (v0_empties := v0_empties) (v0_taken := v0_taken) (v0_ones := v0_ones) (v0_waitTaken := v0_waitTaken) (v0_waitOnes := v0_waitOnes) (v0_nodeCount := v0_nodeCount) (v0_lastModel := v0_lastModel) (v0_modelCount := v0_modelCount) (v0_modelIs := v0_modelIs) (v0_gSet := v0_gSet) (v0_gateCount := v0_gateCount) (x1 := false) (x2 := true) (r0 := u_3) (h0 := hu_4) (sz := H.size)) (cwV 2 hts gX8_push_X8_may rfl rfl rfl (by decide +kernel) ⟨Nat.le_of_ble_eq_true rfl, Nat.le_of_ble_eq_true rfl⟩) (kx_preV hEV hP hD [0] rfl (by decide) (k0 := 0) (ci := 8) rfl rfl rfl) rfl rfl hl.1 rfl (lv_room (Nat.le_of_ble_eq_true rfl)) dX8_push_16 ⟨Nat.le_refl _, Nat.le_refl _⟩) (fun _ H locs _ hP hD hS => ?_)
    refine lv_if_ne (tgt := 24) hx hb dX8_push_19 (by decide) (fun c_5 => ?_) (fun c_5 => ?_)
    · have k_6 : u_3.1 = true := (kx_nz c_5)
      have h := co_t k_6 h
      refine lv_aload_n hx hb dX8_push_24 rfl (lv_at hl 0 rfl) ?_
      refine va_get (D := D) (ci := 8) (v := .ref q0_levelEquations) (C := RX8) (T := TX8) (N := 43) hx hb hts in_X8_push_X8 hown hK hP 0 rfl rfl 9 (by decide) lk_1 (fun _ h9 => h9) rfl dX8_push_25 ?_
      refine lv_aload_n hx hb dX8_push_28 rfl (lv_at hl 0 rfl) ?_
      refine va_get (D := D) (ci := 8) (v := .int f0_levels) (C := RX8) (T := TX8) (N := 43) hx hb hts in_X8_push_X8 hown hK hP 0 rfl rfl 8 (by decide) lk_0 (fun _ h9 => h9) rfl dX8_push_29 ?_
      refine lv_aload_n hx hb dX8_push_32 rfl (lv_at hl 0 rfl) ?_
      refine va_get (D := D) (ci := 8) (v := .int f0_equations) (C := RX8) (T := TX8) (N := 43) hx hb hts in_X8_push_X8 hown hK hP 0 rfl rfl 2 (by decide) lk_2 (fun _ h9 => h9) rfl dX8_push_33 ?_
      obtain ⟨b_7, h⟩ := co_i h
      refine va_iast hx hb hK hP hD hS 1 0 rfl rfl b_7 dX8_push_36 (fun H locs hP hD hS => ?_)
      have hP : va_P D vwCl [(q0, .inr (8, [.int u_3.2, v0_n, .int f0_equations, v0_eSet, v0_eRight, .int f0_clauses, v0_cYes, v0_cNo, .int f0_levels, .ref q0_levelEquations, .ref q0_levelClauses, v0_tape, v0_tapeSize, v0_faultIs, v0_faultAt, v0_at, v0_newEquations, v0_newClauses, v0_newSet, v0_newRight, v0_newYes, v0_newNo, v0_lineYes, v0_lineNo, v0_rowCount, v0_rSet, v0_rRight, v0_isImpossible, v0_sumSet, v0_sumOf, v0_sumRight, v0_empty, v0_empties, v0_taken, v0_ones, v0_waitTaken, v0_waitOnes, v0_nodeCount, v0_lastModel, v0_modelCount, v0_modelIs, v0_gSet, v0_gateCount])), (q0_levelEquations, .inl (cI, n0_levelEquations, .inl (upd h0_levelEquations f0_levels.toNatClampNeg f0_equations))), (q0_levelClauses, .inl (cI, n0_levelClauses, .inl h0_levelClauses))] H := hP
      have hD : va_D A [(q0, .inr (8, [.int u_3.2, v0_n, .int f0_equations, v0_eSet, v0_eRight, .int f0_clauses, v0_cYes, v0_cNo, .int f0_levels, .ref q0_levelEquations, .ref q0_levelClauses, v0_tape, v0_tapeSize, v0_faultIs, v0_faultAt, v0_at, v0_newEquations, v0_newClauses, v0_newSet, v0_newRight, v0_newYes, v0_newNo, v0_lineYes, v0_lineNo, v0_rowCount, v0_rSet, v0_rRight, v0_isImpossible, v0_sumSet, v0_sumOf, v0_sumRight, v0_empty, v0_empties, v0_taken, v0_ones, v0_waitTaken, v0_waitOnes, v0_nodeCount, v0_lastModel, v0_modelCount, v0_modelIs, v0_gSet, v0_gateCount])), (q0_levelEquations, .inl (cI, n0_levelEquations, .inl (upd h0_levelEquations f0_levels.toNatClampNeg f0_equations))), (q0_levelClauses, .inl (cI, n0_levelClauses, .inl h0_levelClauses))] := hD
      refine lv_aload_n hx hb dX8_push_37 rfl (lv_at hl 0 rfl) ?_
      refine va_get (D := D) (ci := 8) (v := .ref q0_levelClauses) (C := RX8) (T := TX8) (N := 43) hx hb hts in_X8_push_X8 hown hK hP 0 rfl rfl 10 (by decide) lk_3 (fun _ h9 => h9) rfl dX8_push_38 ?_
      refine lv_aload_n hx hb dX8_push_41 rfl (lv_at hl 0 rfl) ?_
      refine va_get (D := D) (ci := 8) (v := .int f0_levels) (C := RX8) (T := TX8) (N := 43) hx hb hts in_X8_push_X8 hown hK hP 0 rfl rfl 8 (by decide) lk_0 (fun _ h9 => h9) rfl dX8_push_42 ?_
      refine lv_aload_n hx hb dX8_push_45 rfl (lv_at hl 0 rfl) ?_
      refine va_get (D := D) (ci := 8) (v := .int f0_clauses) (C := RX8) (T := TX8) (N := 43) hx hb hts in_X8_push_X8 hown hK hP 0 rfl rfl 5 (by decide) lk_4 (fun _ h9 => h9) rfl dX8_push_46 ?_
      obtain ⟨b_8, h⟩ := co_i h
      refine va_iast hx hb hK hP hD hS 2 0 rfl rfl b_8 dX8_push_49 (fun H locs hP hD hS => ?_)
      have hP : va_P D vwCl [(q0, .inr (8, [.int u_3.2, v0_n, .int f0_equations, v0_eSet, v0_eRight, .int f0_clauses, v0_cYes, v0_cNo, .int f0_levels, .ref q0_levelEquations, .ref q0_levelClauses, v0_tape, v0_tapeSize, v0_faultIs, v0_faultAt, v0_at, v0_newEquations, v0_newClauses, v0_newSet, v0_newRight, v0_newYes, v0_newNo, v0_lineYes, v0_lineNo, v0_rowCount, v0_rSet, v0_rRight, v0_isImpossible, v0_sumSet, v0_sumOf, v0_sumRight, v0_empty, v0_empties, v0_taken, v0_ones, v0_waitTaken, v0_waitOnes, v0_nodeCount, v0_lastModel, v0_modelCount, v0_modelIs, v0_gSet, v0_gateCount])), (q0_levelEquations, .inl (cI, n0_levelEquations, .inl (upd h0_levelEquations f0_levels.toNatClampNeg f0_equations))), (q0_levelClauses, .inl (cI, n0_levelClauses, .inl (upd h0_levelClauses f0_levels.toNatClampNeg f0_clauses)))] H := hP
      have hD : va_D A [(q0, .inr (8, [.int u_3.2, v0_n, .int f0_equations, v0_eSet, v0_eRight, .int f0_clauses, v0_cYes, v0_cNo, .int f0_levels, .ref q0_levelEquations, .ref q0_levelClauses, v0_tape, v0_tapeSize, v0_faultIs, v0_faultAt, v0_at, v0_newEquations, v0_newClauses, v0_newSet, v0_newRight, v0_newYes, v0_newNo, v0_lineYes, v0_lineNo, v0_rowCount, v0_rSet, v0_rRight, v0_isImpossible, v0_sumSet, v0_sumOf, v0_sumRight, v0_empty, v0_empties, v0_taken, v0_ones, v0_waitTaken, v0_waitOnes, v0_nodeCount, v0_lastModel, v0_modelCount, v0_modelIs, v0_gSet, v0_gateCount])), (q0_levelEquations, .inl (cI, n0_levelEquations, .inl (upd h0_levelEquations f0_levels.toNatClampNeg f0_equations))), (q0_levelClauses, .inl (cI, n0_levelClauses, .inl (upd h0_levelClauses f0_levels.toNatClampNeg f0_clauses)))] := hD
      refine lv_aload_n hx hb dX8_push_50 rfl (lv_at hl 0 rfl) ?_
      refine lv_dup hx hb dX8_push_51 rfl ?_
      refine va_get (D := D) (ci := 8) (v := .int f0_levels) (C := RX8) (T := TX8) (N := 43) hx hb hts in_X8_push_X8 hown hK hP 0 rfl rfl 8 (by decide) lk_0 (fun _ h9 => h9) rfl dX8_push_52 ?_
      refine lv_iconst (v := (1 : Int32)) hx hb dX8_push_55 (by decide) ?_
      refine lv_iadd hx hb dX8_push_56 ?_
      refine va_put (D := D) (ci := 8) (v := .int (f0_levels + (1 : Int32))) (ty := .int) (C := RX8) (T := TX8) (N := 43) hx hb hts in_X8_push_X8 tyX8 tyX8_ok nmX8 hown hK hP hD hS 0 rfl rfl 8 (by decide) lk_0 (fun _ h9 => h9) rfl (by decide +kernel) rfl rfl (Nat.le_of_ble_eq_true rfl) dX8_push_57 (fun H locs hP hD hS => ?_)
      have hP : va_P D vwCl [(q0, .inr (8, [.int u_3.2, v0_n, .int f0_equations, v0_eSet, v0_eRight, .int f0_clauses, v0_cYes, v0_cNo, .int (f0_levels + (1 : Int32)), .ref q0_levelEquations, .ref q0_levelClauses, v0_tape, v0_tapeSize, v0_faultIs, v0_faultAt, v0_at, v0_newEquations, v0_newClauses, v0_newSet, v0_newRight, v0_newYes, v0_newNo, v0_lineYes, v0_lineNo, v0_rowCount, v0_rSet, v0_rRight, v0_isImpossible, v0_sumSet, v0_sumOf, v0_sumRight, v0_empty, v0_empties, v0_taken, v0_ones, v0_waitTaken, v0_waitOnes, v0_nodeCount, v0_lastModel, v0_modelCount, v0_modelIs, v0_gSet, v0_gateCount])), (q0_levelEquations, .inl (cI, n0_levelEquations, .inl (upd h0_levelEquations f0_levels.toNatClampNeg f0_equations))), (q0_levelClauses, .inl (cI, n0_levelClauses, .inl (upd h0_levelClauses f0_levels.toNatClampNeg f0_clauses)))] H := hP
      have hD : va_D A [(q0, .inr (8, [.int u_3.2, v0_n, .int f0_equations, v0_eSet, v0_eRight, .int f0_clauses, v0_cYes, v0_cNo, .int (f0_levels + (1 : Int32)), .ref q0_levelEquations, .ref q0_levelClauses, v0_tape, v0_tapeSize, v0_faultIs, v0_faultAt, v0_at, v0_newEquations, v0_newClauses, v0_newSet, v0_newRight, v0_newYes, v0_newNo, v0_lineYes, v0_lineNo, v0_rowCount, v0_rSet, v0_rRight, v0_isImpossible, v0_sumSet, v0_sumOf, v0_sumRight, v0_empty, v0_empties, v0_taken, v0_ones, v0_waitTaken, v0_waitOnes, v0_nodeCount, v0_lastModel, v0_modelCount, v0_modelIs, v0_gSet, v0_gateCount])), (q0_levelEquations, .inl (cI, n0_levelEquations, .inl (upd h0_levelEquations f0_levels.toNatClampNeg f0_equations))), (q0_levelClauses, .inl (cI, n0_levelClauses, .inl (upd h0_levelClauses f0_levels.toNatClampNeg f0_clauses)))] := hD
      refine lv_aload_n hx hb dX8_push_60 rfl (lv_at hl 0 rfl) ?_
      refine va_get (D := D) (ci := 8) (v := .int (f0_levels + (1 : Int32))) (C := RX8) (T := TX8) (N := 43) hx hb hts in_X8_push_X8 hown hK hP 0 rfl rfl 8 (by decide) lk_0 (fun _ h9 => h9) rfl dX8_push_61 ?_
      have h := Option.some.inj h
      subst h
      subst hQ
      exact W.iret (v := f0_levels + (1 : Int32)) hx hb hr (fun t ht hW => ⟨⟨f0_levels + (1 : Int32), (), rfl, ⟨rfl, trivial⟩, by rw [ht]; exact hP, hD⟩, hS.F ht⟩) hS.2.2 dX8_push_64
    · have k_6 : ¬ (u_3.1 = true) := (kx_z c_5)
      have h := co_f k_6 h
      refine lv_iconst (v := (0 : Int32)) hx hb dX8_push_22 (by decide) ?_
      have h := Option.some.inj h
      subst h
      subst hQ
      exact W.iret (v := (0 : Int32)) hx hb hr (fun t ht hW => ⟨⟨(0 : Int32), (), rfl, ⟨rfl, trivial⟩, by rw [ht]; exact hP, hD⟩, hS.F ht⟩) hS.2.2 dX8_push_23
  · have k_2 : ¬ ((20 : Int32) ≤ f0_levels) := c_1
    have h := co_f k_2 h
    refine lv_iconst (v := (1 : Int32)) hx hb dX8_push_10 (by decide) ?_
    refine lv_goto (tgt := 15) hx hb dX8_push_11 (by decide) ?_
    refine lv_iconst (v := (1 : Int32)) hx hb dX8_push_15 (by decide) ?_
    obtain ⟨u_9, hu_10, h⟩ := co_b h
    refine kx_i (ws' := fun _ => [(q0, .inr (8, [.int u_9.2, v0_n, .int f0_equations, v0_eSet, v0_eRight, .int f0_clauses, v0_cYes, v0_cNo, .int f0_levels, .ref q0_levelEquations, .ref q0_levelClauses, v0_tape, v0_tapeSize, v0_faultIs, v0_faultAt, v0_at, v0_newEquations, v0_newClauses, v0_newSet, v0_newRight, v0_newYes, v0_newNo, v0_lineYes, v0_lineNo, v0_rowCount, v0_rSet, v0_rRight, v0_isImpossible, v0_sumSet, v0_sumOf, v0_sumRight, v0_empty, v0_empties, v0_taken, v0_ones, v0_waitTaken, v0_waitOnes, v0_nodeCount, v0_lastModel, v0_modelCount, v0_modelIs, v0_gSet, v0_gateCount])), (q0_levelEquations, .inl (cI, n0_levelEquations, .inl h0_levelEquations)), (q0_levelClauses, .inl (cI, n0_levelClauses, .inl h0_levelClauses))]) hP hD hS hA [0] [1, 2] [2, 0, 1] rfl (by decide) (by decide) (by decide) (fun _ => rfl) (by decide) (va_runV (As := [.int (bI true), .int (bI true)]) (rest := []) ⟨hx, hb, hml, hown, hts⟩ (cm_X8_may l D cI cL (q0 := q0) (f0_thrown := f0_thrown) (v0_n := v0_n) (v0_equations := .int f0_equations) (v0_eSet := v0_eSet) (v0_eRight := v0_eRight) (v0_clauses := .int f0_clauses) (v0_cYes := v0_cYes) (v0_cNo := v0_cNo) (v0_levels := .int f0_levels) (v0_levelEquations := .ref q0_levelEquations) (v0_levelClauses := .ref q0_levelClauses) (v0_tape := v0_tape) (v0_tapeSize := v0_tapeSize) (v0_faultIs := v0_faultIs) (v0_faultAt := v0_faultAt) (v0_at := v0_at) (v0_newEquations := v0_newEquations) (v0_newClauses := v0_newClauses) (v0_newSet := v0_newSet) (v0_newRight := v0_newRight) (v0_newYes := v0_newYes) (v0_newNo := v0_newNo) (v0_lineYes := v0_lineYes) (v0_lineNo := v0_lineNo) (v0_rowCount := v0_rowCount) (v0_rSet := v0_rSet) (v0_rRight := v0_rRight) (v0_isImpossible := v0_isImpossible) (v0_sumSet := v0_sumSet) (v0_sumOf := v0_sumOf) (v0_sumRight := v0_sumRight) (v0_empty := v0_empty) (v0_empties := v0_empties) (v0_taken := v0_taken) (v0_ones := v0_ones) (v0_waitTaken := v0_waitTaken) (v0_waitOnes := v0_waitOnes) (v0_nodeCount := v0_nodeCount) (v0_lastModel := v0_lastModel) (v0_modelCount := v0_modelCount) (v0_modelIs := v0_modelIs) (v0_gSet := v0_gSet) (v0_gateCount := v0_gateCount) (x1 := true) (x2 := true) (r0 := u_9) (h0 := hu_10) (sz := H.size)) (cwV 2 hts gX8_push_X8_may rfl rfl rfl (by decide +kernel) ⟨Nat.le_of_ble_eq_true rfl, Nat.le_of_ble_eq_true rfl⟩) (kx_preV hEV hP hD [0] rfl (by decide) (k0 := 0) (ci := 8) rfl rfl rfl) rfl rfl hl.1 rfl (lv_room (Nat.le_of_ble_eq_true rfl)) dX8_push_16 ⟨Nat.le_refl _, Nat.le_refl _⟩) (fun _ H locs _ hP hD hS => ?_)
    refine lv_if_ne (tgt := 24) hx hb dX8_push_19 (by decide) (fun c_11 => ?_) (fun c_11 => ?_)
    · have k_12 : u_9.1 = true := (kx_nz c_11)
      have h := co_t k_12 h
      refine lv_aload_n hx hb dX8_push_24 rfl (lv_at hl 0 rfl) ?_
      refine va_get (D := D) (ci := 8) (v := .ref q0_levelEquations) (C := RX8) (T := TX8) (N := 43) hx hb hts in_X8_push_X8 hown hK hP 0 rfl rfl 9 (by decide) lk_1 (fun _ h9 => h9) rfl dX8_push_25 ?_
      refine lv_aload_n hx hb dX8_push_28 rfl (lv_at hl 0 rfl) ?_
      refine va_get (D := D) (ci := 8) (v := .int f0_levels) (C := RX8) (T := TX8) (N := 43) hx hb hts in_X8_push_X8 hown hK hP 0 rfl rfl 8 (by decide) lk_0 (fun _ h9 => h9) rfl dX8_push_29 ?_
      refine lv_aload_n hx hb dX8_push_32 rfl (lv_at hl 0 rfl) ?_
      refine va_get (D := D) (ci := 8) (v := .int f0_equations) (C := RX8) (T := TX8) (N := 43) hx hb hts in_X8_push_X8 hown hK hP 0 rfl rfl 2 (by decide) lk_2 (fun _ h9 => h9) rfl dX8_push_33 ?_
      obtain ⟨b_13, h⟩ := co_i h
      refine va_iast hx hb hK hP hD hS 1 0 rfl rfl b_13 dX8_push_36 (fun H locs hP hD hS => ?_)
      have hP : va_P D vwCl [(q0, .inr (8, [.int u_9.2, v0_n, .int f0_equations, v0_eSet, v0_eRight, .int f0_clauses, v0_cYes, v0_cNo, .int f0_levels, .ref q0_levelEquations, .ref q0_levelClauses, v0_tape, v0_tapeSize, v0_faultIs, v0_faultAt, v0_at, v0_newEquations, v0_newClauses, v0_newSet, v0_newRight, v0_newYes, v0_newNo, v0_lineYes, v0_lineNo, v0_rowCount, v0_rSet, v0_rRight, v0_isImpossible, v0_sumSet, v0_sumOf, v0_sumRight, v0_empty, v0_empties, v0_taken, v0_ones, v0_waitTaken, v0_waitOnes, v0_nodeCount, v0_lastModel, v0_modelCount, v0_modelIs, v0_gSet, v0_gateCount])), (q0_levelEquations, .inl (cI, n0_levelEquations, .inl (upd h0_levelEquations f0_levels.toNatClampNeg f0_equations))), (q0_levelClauses, .inl (cI, n0_levelClauses, .inl h0_levelClauses))] H := hP
      have hD : va_D A [(q0, .inr (8, [.int u_9.2, v0_n, .int f0_equations, v0_eSet, v0_eRight, .int f0_clauses, v0_cYes, v0_cNo, .int f0_levels, .ref q0_levelEquations, .ref q0_levelClauses, v0_tape, v0_tapeSize, v0_faultIs, v0_faultAt, v0_at, v0_newEquations, v0_newClauses, v0_newSet, v0_newRight, v0_newYes, v0_newNo, v0_lineYes, v0_lineNo, v0_rowCount, v0_rSet, v0_rRight, v0_isImpossible, v0_sumSet, v0_sumOf, v0_sumRight, v0_empty, v0_empties, v0_taken, v0_ones, v0_waitTaken, v0_waitOnes, v0_nodeCount, v0_lastModel, v0_modelCount, v0_modelIs, v0_gSet, v0_gateCount])), (q0_levelEquations, .inl (cI, n0_levelEquations, .inl (upd h0_levelEquations f0_levels.toNatClampNeg f0_equations))), (q0_levelClauses, .inl (cI, n0_levelClauses, .inl h0_levelClauses))] := hD
      refine lv_aload_n hx hb dX8_push_37 rfl (lv_at hl 0 rfl) ?_
      refine va_get (D := D) (ci := 8) (v := .ref q0_levelClauses) (C := RX8) (T := TX8) (N := 43) hx hb hts in_X8_push_X8 hown hK hP 0 rfl rfl 10 (by decide) lk_3 (fun _ h9 => h9) rfl dX8_push_38 ?_
      refine lv_aload_n hx hb dX8_push_41 rfl (lv_at hl 0 rfl) ?_
      refine va_get (D := D) (ci := 8) (v := .int f0_levels) (C := RX8) (T := TX8) (N := 43) hx hb hts in_X8_push_X8 hown hK hP 0 rfl rfl 8 (by decide) lk_0 (fun _ h9 => h9) rfl dX8_push_42 ?_
      refine lv_aload_n hx hb dX8_push_45 rfl (lv_at hl 0 rfl) ?_
      refine va_get (D := D) (ci := 8) (v := .int f0_clauses) (C := RX8) (T := TX8) (N := 43) hx hb hts in_X8_push_X8 hown hK hP 0 rfl rfl 5 (by decide) lk_4 (fun _ h9 => h9) rfl dX8_push_46 ?_
      obtain ⟨b_14, h⟩ := co_i h
      refine va_iast hx hb hK hP hD hS 2 0 rfl rfl b_14 dX8_push_49 (fun H locs hP hD hS => ?_)
      have hP : va_P D vwCl [(q0, .inr (8, [.int u_9.2, v0_n, .int f0_equations, v0_eSet, v0_eRight, .int f0_clauses, v0_cYes, v0_cNo, .int f0_levels, .ref q0_levelEquations, .ref q0_levelClauses, v0_tape, v0_tapeSize, v0_faultIs, v0_faultAt, v0_at, v0_newEquations, v0_newClauses, v0_newSet, v0_newRight, v0_newYes, v0_newNo, v0_lineYes, v0_lineNo, v0_rowCount, v0_rSet, v0_rRight, v0_isImpossible, v0_sumSet, v0_sumOf, v0_sumRight, v0_empty, v0_empties, v0_taken, v0_ones, v0_waitTaken, v0_waitOnes, v0_nodeCount, v0_lastModel, v0_modelCount, v0_modelIs, v0_gSet, v0_gateCount])), (q0_levelEquations, .inl (cI, n0_levelEquations, .inl (upd h0_levelEquations f0_levels.toNatClampNeg f0_equations))), (q0_levelClauses, .inl (cI, n0_levelClauses, .inl (upd h0_levelClauses f0_levels.toNatClampNeg f0_clauses)))] H := hP
      have hD : va_D A [(q0, .inr (8, [.int u_9.2, v0_n, .int f0_equations, v0_eSet, v0_eRight, .int f0_clauses, v0_cYes, v0_cNo, .int f0_levels, .ref q0_levelEquations, .ref q0_levelClauses, v0_tape, v0_tapeSize, v0_faultIs, v0_faultAt, v0_at, v0_newEquations, v0_newClauses, v0_newSet, v0_newRight, v0_newYes, v0_newNo, v0_lineYes, v0_lineNo, v0_rowCount, v0_rSet, v0_rRight, v0_isImpossible, v0_sumSet, v0_sumOf, v0_sumRight, v0_empty, v0_empties, v0_taken, v0_ones, v0_waitTaken, v0_waitOnes, v0_nodeCount, v0_lastModel, v0_modelCount, v0_modelIs, v0_gSet, v0_gateCount])), (q0_levelEquations, .inl (cI, n0_levelEquations, .inl (upd h0_levelEquations f0_levels.toNatClampNeg f0_equations))), (q0_levelClauses, .inl (cI, n0_levelClauses, .inl (upd h0_levelClauses f0_levels.toNatClampNeg f0_clauses)))] := hD
      refine lv_aload_n hx hb dX8_push_50 rfl (lv_at hl 0 rfl) ?_
      refine lv_dup hx hb dX8_push_51 rfl ?_
      refine va_get (D := D) (ci := 8) (v := .int f0_levels) (C := RX8) (T := TX8) (N := 43) hx hb hts in_X8_push_X8 hown hK hP 0 rfl rfl 8 (by decide) lk_0 (fun _ h9 => h9) rfl dX8_push_52 ?_
      refine lv_iconst (v := (1 : Int32)) hx hb dX8_push_55 (by decide) ?_
      refine lv_iadd hx hb dX8_push_56 ?_
      refine va_put (D := D) (ci := 8) (v := .int (f0_levels + (1 : Int32))) (ty := .int) (C := RX8) (T := TX8) (N := 43) hx hb hts in_X8_push_X8 tyX8 tyX8_ok nmX8 hown hK hP hD hS 0 rfl rfl 8 (by decide) lk_0 (fun _ h9 => h9) rfl (by decide +kernel) rfl rfl (Nat.le_of_ble_eq_true rfl) dX8_push_57 (fun H locs hP hD hS => ?_)
      have hP : va_P D vwCl [(q0, .inr (8, [.int u_9.2, v0_n, .int f0_equations, v0_eSet, v0_eRight, .int f0_clauses, v0_cYes, v0_cNo, .int (f0_levels + (1 : Int32)), .ref q0_levelEquations, .ref q0_levelClauses, v0_tape, v0_tapeSize, v0_faultIs, v0_faultAt, v0_at, v0_newEquations, v0_newClauses, v0_newSet, v0_newRight, v0_newYes, v0_newNo, v0_lineYes, v0_lineNo, v0_rowCount, v0_rSet, v0_rRight, v0_isImpossible, v0_sumSet, v0_sumOf, v0_sumRight, v0_empty, v0_empties, v0_taken, v0_ones, v0_waitTaken, v0_waitOnes, v0_nodeCount, v0_lastModel, v0_modelCount, v0_modelIs, v0_gSet, v0_gateCount])), (q0_levelEquations, .inl (cI, n0_levelEquations, .inl (upd h0_levelEquations f0_levels.toNatClampNeg f0_equations))), (q0_levelClauses, .inl (cI, n0_levelClauses, .inl (upd h0_levelClauses f0_levels.toNatClampNeg f0_clauses)))] H := hP
      have hD : va_D A [(q0, .inr (8, [.int u_9.2, v0_n, .int f0_equations, v0_eSet, v0_eRight, .int f0_clauses, v0_cYes, v0_cNo, .int (f0_levels + (1 : Int32)), .ref q0_levelEquations, .ref q0_levelClauses, v0_tape, v0_tapeSize, v0_faultIs, v0_faultAt, v0_at, v0_newEquations, v0_newClauses, v0_newSet, v0_newRight, v0_newYes, v0_newNo, v0_lineYes, v0_lineNo, v0_rowCount, v0_rSet, v0_rRight, v0_isImpossible, v0_sumSet, v0_sumOf, v0_sumRight, v0_empty, v0_empties, v0_taken, v0_ones, v0_waitTaken, v0_waitOnes, v0_nodeCount, v0_lastModel, v0_modelCount, v0_modelIs, v0_gSet, v0_gateCount])), (q0_levelEquations, .inl (cI, n0_levelEquations, .inl (upd h0_levelEquations f0_levels.toNatClampNeg f0_equations))), (q0_levelClauses, .inl (cI, n0_levelClauses, .inl (upd h0_levelClauses f0_levels.toNatClampNeg f0_clauses)))] := hD
      refine lv_aload_n hx hb dX8_push_60 rfl (lv_at hl 0 rfl) ?_
      refine va_get (D := D) (ci := 8) (v := .int (f0_levels + (1 : Int32))) (C := RX8) (T := TX8) (N := 43) hx hb hts in_X8_push_X8 hown hK hP 0 rfl rfl 8 (by decide) lk_0 (fun _ h9 => h9) rfl dX8_push_61 ?_
      have h := Option.some.inj h
      subst h
      subst hQ
      exact W.iret (v := f0_levels + (1 : Int32)) hx hb hr (fun t ht hW => ⟨⟨f0_levels + (1 : Int32), (), rfl, ⟨rfl, trivial⟩, by rw [ht]; exact hP, hD⟩, hS.F ht⟩) hS.2.2 dX8_push_64
    · have k_12 : ¬ (u_9.1 = true) := (kx_z c_11)
      have h := co_f k_12 h
      refine lv_iconst (v := (0 : Int32)) hx hb dX8_push_22 (by decide) ?_
      have h := Option.some.inj h
      subst h
      subst hQ
      exact W.iret (v := (0 : Int32)) hx hb hr (fun t ht hW => ⟨⟨(0 : Int32), (), rfl, ⟨rfl, trivial⟩, by rw [ht]; exact hP, hD⟩, hS.F ht⟩) hS.2.2 dX8_push_23
