noncomputable def D_X8_nodes (f0_thrown : Int32) (f0_nodeCount : Int32) : Option (Int32 × Int32) :=
  some (f0_nodeCount, (0 : Int32))
theorem in_X8_nodes_X8 : ∀ w ∈ wsX80, w ∈ wsX8_nodes := by decide +kernel
theorem lk_0_X8_nodes : Cond.fieldLink RX8 81 "ParityClausesModel" "thrown" "I" ∈ wsX8_nodes := by decide +kernel
theorem lk_1_X8_nodes : Cond.fieldLink RX8 229 "ParityClausesModel" "nodeCount" "I" ∈ wsX8_nodes := by decide +kernel
abbrev rm_X8_nodes : Room := { frames := 0, cells := 0, slots := 0, locals := 0 }
set_option maxHeartbeats 4000000 in
set_option maxRecDepth 100000 in
theorem cm_X8_nodes (l : Launch) (D : va_G) (cI cL : ClassId) (q0 : Nat) (f0_thrown : Int32) (f0_nodeCount : Int32) (v0_n v0_equations v0_eSet v0_eRight v0_clauses v0_cYes v0_cNo v0_levels v0_levelEquations v0_levelClauses v0_tape v0_tapeSize v0_faultIs v0_faultAt v0_at v0_newEquations v0_newClauses v0_newSet v0_newRight v0_newYes v0_newNo v0_lineYes v0_lineNo v0_rowCount v0_rSet v0_rRight v0_isImpossible v0_sumSet v0_sumOf v0_sumRight v0_empty v0_empties v0_taken v0_ones v0_waitTaken v0_waitOnes v0_lastModel v0_modelCount v0_modelIs v0_gSet v0_gateCount : Value) (r0 : Int32 × Int32) (h0 : D_X8_nodes f0_thrown f0_nodeCount = some r0) (sz : Nat) : Met l yX8_nodes wsX8_nodes rm_X8_nodes (PcW D cI cL [.ref q0] [(q0, .inr (8, [.int f0_thrown, v0_n, v0_equations, v0_eSet, v0_eRight, v0_clauses, v0_cYes, v0_cNo, v0_levels, v0_levelEquations, v0_levelClauses, v0_tape, v0_tapeSize, v0_faultIs, v0_faultAt, v0_at, v0_newEquations, v0_newClauses, v0_newSet, v0_newRight, v0_newYes, v0_newNo, v0_lineYes, v0_lineNo, v0_rowCount, v0_rSet, v0_rRight, v0_isImpossible, v0_sumSet, v0_sumOf, v0_sumRight, v0_empty, v0_empties, v0_taken, v0_ones, v0_waitTaken, v0_waitOnes, .int f0_nodeCount, v0_lastModel, v0_modelCount, v0_modelIs, v0_gSet, v0_gateCount]))] sz) (QiW D [(q0, .inr (8, [.int f0_thrown, v0_n, v0_equations, v0_eSet, v0_eRight, v0_clauses, v0_cYes, v0_cNo, v0_levels, v0_levelEquations, v0_levelClauses, v0_tape, v0_tapeSize, v0_faultIs, v0_faultAt, v0_at, v0_newEquations, v0_newClauses, v0_newSet, v0_newRight, v0_newYes, v0_newNo, v0_lineYes, v0_lineNo, v0_rowCount, v0_rSet, v0_rRight, v0_isImpossible, v0_sumSet, v0_sumOf, v0_sumRight, v0_empty, v0_empties, v0_taken, v0_ones, v0_waitTaken, v0_waitOnes, .int f0_nodeCount, v0_lastModel, v0_modelCount, v0_modelIs, v0_gSet, v0_gateCount]))] r0.1 (fun _ : Unit => [(q0, .inr (8, [.int r0.2, v0_n, v0_equations, v0_eSet, v0_eRight, v0_clauses, v0_cYes, v0_cNo, v0_levels, v0_levelEquations, v0_levelClauses, v0_tape, v0_tapeSize, v0_faultIs, v0_faultAt, v0_at, v0_newEquations, v0_newClauses, v0_newSet, v0_newRight, v0_newYes, v0_newNo, v0_lineYes, v0_lineNo, v0_rowCount, v0_rSet, v0_rRight, v0_isImpossible, v0_sumSet, v0_sumOf, v0_sumRight, v0_empty, v0_empties, v0_taken, v0_ones, v0_waitTaken, v0_waitOnes, .int f0_nodeCount, v0_lastModel, v0_modelCount, v0_modelIs, v0_gSet, v0_gateCount]))]) tU sz) 0 0 (va_A [(q0, .inr (8, [.int f0_thrown, v0_n, v0_equations, v0_eSet, v0_eRight, v0_clauses, v0_cYes, v0_cNo, v0_levels, v0_levelEquations, v0_levelClauses, v0_tape, v0_tapeSize, v0_faultIs, v0_faultAt, v0_at, v0_newEquations, v0_newClauses, v0_newSet, v0_newRight, v0_newYes, v0_newNo, v0_lineYes, v0_lineNo, v0_rowCount, v0_rSet, v0_rRight, v0_isImpossible, v0_sumSet, v0_sumOf, v0_sumRight, v0_empty, v0_empties, v0_taken, v0_ones, v0_waitTaken, v0_waitOnes, .int f0_nodeCount, v0_lastModel, v0_modelCount, v0_modelIs, v0_gSet, v0_gateCount]))] sz) := by
  refine Met.ofW (cc := cX8_nodes) (maxL := 1) (ret := (some .int)) (by decide) rfl ?_
  intro p e s m args below meth c s₁ B hml hv
  obtain ⟨hargs, hsz, hP, hEV, hD0⟩ := hv
  have hx := B.exec
  have hb := B.bytes
  have hr := B.returns
  have hts := atoms_spec (ws := wsX8_nodes) B.pre
  have hown : s.vm.findClass RX8 = some m.cls := findClass_of_methodNamed B.named
  have hlocks := B.notSynchronized
  have hK := hEV.K
  have lk_0 := hts _ lk_0_X8_nodes
  have lk_1 := hts _ lk_1_X8_nodes
  subst hsz
  unfold QiW PoW
  have hD := hD0.self (sz := s.heap.size)
  generalize hAe : va_A [(q0, .inr (8, [.int f0_thrown, v0_n, v0_equations, v0_eSet, v0_eRight, v0_clauses, v0_cYes, v0_cNo, v0_levels, v0_levelEquations, v0_levelClauses, v0_tape, v0_tapeSize, v0_faultIs, v0_faultAt, v0_at, v0_newEquations, v0_newClauses, v0_newSet, v0_newRight, v0_newYes, v0_newNo, v0_lineYes, v0_lineNo, v0_rowCount, v0_rSet, v0_rRight, v0_isImpossible, v0_sumSet, v0_sumOf, v0_sumRight, v0_empty, v0_empties, v0_taken, v0_ones, v0_waitTaken, v0_waitOnes, .int f0_nodeCount, v0_lastModel, v0_modelCount, v0_modelIs, v0_gSet, v0_gateCount]))] s.heap.size = A at hD ⊢
  have hA : ∀ q : Nat, s.heap.size ≤ q → A q := fun q h => by rw [← hAe]; exact Or.inr h
  have hS : va_S A s.heap s.heap [] := va_S.rf
  have hent : entryFrame m args 1 = entryFrame m ([.ref q0] : List Value).toArray 1 := by rw [hargs]
  rw [hent]
  refine kx_Q (fun Q hQ => ?_)
  have hl := lv_entry ([.ref q0]) (n := 1) (Nat.le_of_ble_eq_true rfl)
  rw [lg_entry_eq]
  generalize (lg_sl ([.ref q0]) ++ List.replicate (1 - (lg_sl ([.ref q0])).length) Slot.unset).toArray = ls at hl ⊢
  have hl : lv_has ls 1 [(0, .ref q0)] := hl
  have h := h0
  unfold D_X8_nodes at h
  refine lv_aload_n hx hb dX8_nodes_0 rfl (lv_at hl 0 rfl) ?_
  refine lv_iconst (v := (0 : Int32)) hx hb dX8_nodes_1 (by decide) ?_
  refine va_put (D := D) (ci := 8) (v := .int (0 : Int32)) (ty := .int) (C := RX8) (T := TX8) (N := 43) hx hb hts in_X8_nodes_X8 tyX8 tyX8_ok nmX8 hown hK hP hD hS 0 rfl rfl 0 (by decide) lk_0 (fun _ h9 => h9) rfl (by decide +kernel) rfl rfl (Nat.le_of_ble_eq_true rfl) dX8_nodes_2 (fun H locs hP hD hS => ?_)
  have hP : va_P D vwCl [(q0, .inr (8, [.int (0 : Int32), v0_n, v0_equations, v0_eSet, v0_eRight, v0_clauses, v0_cYes, v0_cNo, v0_levels, v0_levelEquations, v0_levelClauses, v0_tape, v0_tapeSize, v0_faultIs, v0_faultAt, v0_at, v0_newEquations, v0_newClauses, v0_newSet, v0_newRight, v0_newYes, v0_newNo, v0_lineYes, v0_lineNo, v0_rowCount, v0_rSet, v0_rRight, v0_isImpossible, v0_sumSet, v0_sumOf, v0_sumRight, v0_empty, v0_empties, v0_taken, v0_ones, v0_waitTaken, v0_waitOnes, .int f0_nodeCount, v0_lastModel, v0_modelCount, v0_modelIs, v0_gSet, v0_gateCount]))] H := hP
  have hD : va_D A [(q0, .inr (8, [.int (0 : Int32), v0_n, v0_equations, v0_eSet, v0_eRight, v0_clauses, v0_cYes, v0_cNo, v0_levels, v0_levelEquations, v0_levelClauses, v0_tape, v0_tapeSize, v0_faultIs, v0_faultAt, v0_at, v0_newEquations, v0_newClauses, v0_newSet, v0_newRight, v0_newYes, v0_newNo, v0_lineYes, v0_lineNo, v0_rowCount, v0_rSet, v0_rRight, v0_isImpossible, v0_sumSet, v0_sumOf, v0_sumRight, v0_empty, v0_empties, v0_taken, v0_ones, v0_waitTaken, v0_waitOnes, .int f0_nodeCount, v0_lastModel, v0_modelCount, v0_modelIs, v0_gSet, v0_gateCount]))] := hD
  refine lv_aload_n hx hb dX8_nodes_5 rfl (lv_at hl 0 rfl) ?_
  refine va_get (D := D) (ci := 8) (v := .int f0_nodeCount) (C := RX8) (T := TX8) (N := 43) hx hb hts in_X8_nodes_X8 hown hK hP 0 rfl rfl 37 (by decide) lk_1 (fun _ h9 => h9) rfl dX8_nodes_6 ?_
  have h := Option.some.inj h
  subst h
  subst hQ
  exact W.iret (v := f0_nodeCount) hx hb hr (fun t ht hW => ⟨⟨f0_nodeCount, (), rfl, ⟨rfl, trivial⟩, by rw [ht]; exact hP, hD⟩, hS.F ht⟩) hS.2.2 dX8_nodes_9
noncomputable def D_X8_must (f0_thrown : Int32) (f0_n : Int32) (f0_equations : Int32) (f0_clauses : Int32) (f0_rowCount : Int32) (f0_isImpossible : Bool) (f0_taken : Int64) (f0_ones : Int64) (f0_nodeCount : Int32) (f0_modelCount : Int64) (f0_modelIs : Int64) (n0_eSet : Nat) (h0_eSet : Nat → Int64) (n0_eRight : Nat) (h0_eRight : Nat → Int32) (n0_cYes : Nat) (h0_cYes : Nat → Int64) (n0_cNo : Nat) (h0_cNo : Nat → Int64) (n0_rSet : Nat) (h0_rSet : Nat → Int64) (n0_rRight : Nat) (h0_rRight : Nat → Int32) (n0_waitTaken : Nat) (h0_waitTaken : Nat → Int64) (n0_waitOnes : Nat) (h0_waitOnes : Nat → Int64) (x1 : Int32) (x2 : Int32) : Option (Int32 × Int32 × Int32 × Bool × Int64 × Int64 × Int32 × Int64 × Int64 × (Nat → Int64) × (Nat → Int32) × (Nat → Int64) × (Nat → Int64)) :=
  Option.bind (D_X8_isIn x1.toInt64 (1 : Int64) f0_n.toInt64) (fun u_1 =>
    Option.bind (D_X8_isIn x2.toInt64 (1 : Int64) (5000 : Int64)) (fun u_3 =>
      Option.bind (D_X8_may f0_thrown u_1 u_3) (fun u_5 =>
        cif (u_5.1 = true)
          (Option.bind (D_X8_search f0_n f0_equations f0_clauses f0_rowCount f0_isImpossible f0_taken f0_ones (0 : Int32) f0_modelCount f0_modelIs n0_eSet h0_eSet n0_eRight h0_eRight n0_cYes h0_cYes n0_cNo h0_cNo n0_rSet h0_rSet n0_rRight h0_rRight n0_waitTaken h0_waitTaken n0_waitOnes h0_waitOnes (jshl (1 : Int64) (x1 - (1 : Int32))) (0 : Int64) x2 false) (fun u_9 =>
            cif (u_9.1 = (-2 : Int32))
              (some ((-2 : Int32), u_5.2, u_9.2.1, u_9.2.2.1, u_9.2.2.2.1, u_9.2.2.2.2.1, u_9.2.2.2.2.2.1, u_9.2.2.2.2.2.2.1, u_9.2.2.2.2.2.2.2.1, u_9.2.2.2.2.2.2.2.2.1, u_9.2.2.2.2.2.2.2.2.2.1, u_9.2.2.2.2.2.2.2.2.2.2.1, u_9.2.2.2.2.2.2.2.2.2.2.2))
              (Option.bind (D_X8_search f0_n f0_equations f0_clauses u_9.2.1 u_9.2.2.1 u_9.2.2.2.1 u_9.2.2.2.2.1 u_9.2.2.2.2.2.1 u_9.2.2.2.2.2.2.1 u_9.2.2.2.2.2.2.2.1 n0_eSet h0_eSet n0_eRight h0_eRight n0_cYes h0_cYes n0_cNo h0_cNo n0_rSet u_9.2.2.2.2.2.2.2.2.1 n0_rRight u_9.2.2.2.2.2.2.2.2.2.1 n0_waitTaken u_9.2.2.2.2.2.2.2.2.2.2.1 n0_waitOnes u_9.2.2.2.2.2.2.2.2.2.2.2 (jshl (1 : Int64) (x1 - (1 : Int32))) (jshl (1 : Int64) (x1 - (1 : Int32))) x2 false) (fun u_13 =>
                cif (u_13.1 = (-2 : Int32))
                  (some ((-2 : Int32), u_5.2, u_13.2.1, u_13.2.2.1, u_13.2.2.2.1, u_13.2.2.2.2.1, u_13.2.2.2.2.2.1, u_13.2.2.2.2.2.2.1, u_13.2.2.2.2.2.2.2.1, u_13.2.2.2.2.2.2.2.2.1, u_13.2.2.2.2.2.2.2.2.2.1, u_13.2.2.2.2.2.2.2.2.2.2.1, u_13.2.2.2.2.2.2.2.2.2.2.2))
                  (cif (u_13.1 = u_9.1)
                    (some ((-1 : Int32), u_5.2, u_13.2.1, u_13.2.2.1, u_13.2.2.2.1, u_13.2.2.2.2.1, u_13.2.2.2.2.2.1, u_13.2.2.2.2.2.2.1, u_13.2.2.2.2.2.2.2.1, u_13.2.2.2.2.2.2.2.2.1, u_13.2.2.2.2.2.2.2.2.2.1, u_13.2.2.2.2.2.2.2.2.2.2.1, u_13.2.2.2.2.2.2.2.2.2.2.2))
                    (some (u_13.1, u_5.2, u_13.2.1, u_13.2.2.1, u_13.2.2.2.1, u_13.2.2.2.2.1, u_13.2.2.2.2.2.1, u_13.2.2.2.2.2.2.1, u_13.2.2.2.2.2.2.2.1, u_13.2.2.2.2.2.2.2.2.1, u_13.2.2.2.2.2.2.2.2.2.1, u_13.2.2.2.2.2.2.2.2.2.2.1, u_13.2.2.2.2.2.2.2.2.2.2.2)))))))
          (some ((0 : Int32), u_5.2, f0_rowCount, f0_isImpossible, f0_taken, f0_ones, f0_nodeCount, f0_modelCount, f0_modelIs, h0_rSet, h0_rRight, h0_waitTaken, h0_waitOnes)))))
theorem in_X8_must_X8 : ∀ w ∈ wsX80, w ∈ wsX8_must := by decide +kernel
theorem lk_0_X8_must : Cond.fieldLink RX8 77 "ParityClausesModel" "n" "I" ∈ wsX8_must := by decide +kernel
theorem lk_1_X8_must : Cond.constantLong RX8 235 (5000) ∈ wsX8_must := by decide +kernel
theorem lk_2_X8_must : Cond.fieldLink RX8 229 "ParityClausesModel" "nodeCount" "I" ∈ wsX8_must := by decide +kernel
abbrev rm_X8_must : Room := { frames := 6, cells := 0, slots := 0, locals := 156 }
set_option maxHeartbeats 4000000 in
set_option maxRecDepth 100000 in
theorem cm_X8_must (l : Launch) (D : va_G) (cI cL : ClassId) (q0 q0_eSet q0_eRight q0_cYes q0_cNo q0_rSet q0_rRight q0_waitTaken q0_waitOnes : Nat) (n0_eSet n0_eRight n0_cYes n0_cNo n0_rSet n0_rRight n0_waitTaken n0_waitOnes : Nat) (f0_thrown : Int32) (f0_n : Int32) (f0_equations : Int32) (f0_clauses : Int32) (f0_rowCount : Int32) (f0_isImpossible : Bool) (f0_taken : Int64) (f0_ones : Int64) (f0_nodeCount : Int32) (f0_modelCount : Int64) (f0_modelIs : Int64) (h0_eSet : Nat → Int64) (h0_eRight : Nat → Int32) (h0_cYes : Nat → Int64) (h0_cNo : Nat → Int64) (h0_rSet : Nat → Int64) (h0_rRight : Nat → Int32) (h0_waitTaken : Nat → Int64) (h0_waitOnes : Nat → Int64) (v0_levels v0_levelEquations v0_levelClauses v0_tape v0_tapeSize v0_faultIs v0_faultAt v0_at v0_newEquations v0_newClauses v0_newSet v0_newRight v0_newYes v0_newNo v0_lineYes v0_lineNo v0_sumSet v0_sumOf v0_sumRight v0_empty v0_empties v0_lastModel v0_gSet v0_gateCount : Value) (x1 : Int32) (x2 : Int32) (r0 : Int32 × Int32 × Int32 × Bool × Int64 × Int64 × Int32 × Int64 × Int64 × (Nat → Int64) × (Nat → Int32) × (Nat → Int64) × (Nat → Int64)) (h0 : D_X8_must f0_thrown f0_n f0_equations f0_clauses f0_rowCount f0_isImpossible f0_taken f0_ones f0_nodeCount f0_modelCount f0_modelIs n0_eSet h0_eSet n0_eRight h0_eRight n0_cYes h0_cYes n0_cNo h0_cNo n0_rSet h0_rSet n0_rRight h0_rRight n0_waitTaken h0_waitTaken n0_waitOnes h0_waitOnes x1 x2 = some r0) (sz : Nat) : Met l yX8_must wsX8_must rm_X8_must (PcW D cI cL [.ref q0, .int x1, .int x2] [(q0, .inr (8, [.int f0_thrown, .int f0_n, .int f0_equations, .ref q0_eSet, .ref q0_eRight, .int f0_clauses, .ref q0_cYes, .ref q0_cNo, v0_levels, v0_levelEquations, v0_levelClauses, v0_tape, v0_tapeSize, v0_faultIs, v0_faultAt, v0_at, v0_newEquations, v0_newClauses, v0_newSet, v0_newRight, v0_newYes, v0_newNo, v0_lineYes, v0_lineNo, .int f0_rowCount, .ref q0_rSet, .ref q0_rRight, .int (bI f0_isImpossible), v0_sumSet, v0_sumOf, v0_sumRight, v0_empty, v0_empties, .long f0_taken, .long f0_ones, .ref q0_waitTaken, .ref q0_waitOnes, .int f0_nodeCount, v0_lastModel, .long f0_modelCount, .long f0_modelIs, v0_gSet, v0_gateCount])), (q0_eSet, .inl (cL, n0_eSet, .inr (.inl h0_eSet))), (q0_eRight, .inl (cI, n0_eRight, .inl h0_eRight)), (q0_cYes, .inl (cL, n0_cYes, .inr (.inl h0_cYes))), (q0_cNo, .inl (cL, n0_cNo, .inr (.inl h0_cNo))), (q0_rSet, .inl (cL, n0_rSet, .inr (.inl h0_rSet))), (q0_rRight, .inl (cI, n0_rRight, .inl h0_rRight)), (q0_waitTaken, .inl (cL, n0_waitTaken, .inr (.inl h0_waitTaken))), (q0_waitOnes, .inl (cL, n0_waitOnes, .inr (.inl h0_waitOnes)))] sz) (QiW D [(q0, .inr (8, [.int f0_thrown, .int f0_n, .int f0_equations, .ref q0_eSet, .ref q0_eRight, .int f0_clauses, .ref q0_cYes, .ref q0_cNo, v0_levels, v0_levelEquations, v0_levelClauses, v0_tape, v0_tapeSize, v0_faultIs, v0_faultAt, v0_at, v0_newEquations, v0_newClauses, v0_newSet, v0_newRight, v0_newYes, v0_newNo, v0_lineYes, v0_lineNo, .int f0_rowCount, .ref q0_rSet, .ref q0_rRight, .int (bI f0_isImpossible), v0_sumSet, v0_sumOf, v0_sumRight, v0_empty, v0_empties, .long f0_taken, .long f0_ones, .ref q0_waitTaken, .ref q0_waitOnes, .int f0_nodeCount, v0_lastModel, .long f0_modelCount, .long f0_modelIs, v0_gSet, v0_gateCount])), (q0_eSet, .inl (cL, n0_eSet, .inr (.inl h0_eSet))), (q0_eRight, .inl (cI, n0_eRight, .inl h0_eRight)), (q0_cYes, .inl (cL, n0_cYes, .inr (.inl h0_cYes))), (q0_cNo, .inl (cL, n0_cNo, .inr (.inl h0_cNo))), (q0_rSet, .inl (cL, n0_rSet, .inr (.inl h0_rSet))), (q0_rRight, .inl (cI, n0_rRight, .inl h0_rRight)), (q0_waitTaken, .inl (cL, n0_waitTaken, .inr (.inl h0_waitTaken))), (q0_waitOnes, .inl (cL, n0_waitOnes, .inr (.inl h0_waitOnes)))] r0.1 (fun _ : Unit => [(q0, .inr (8, [.int r0.2.1, .int f0_n, .int f0_equations, .ref q0_eSet, .ref q0_eRight, .int f0_clauses, .ref q0_cYes, .ref q0_cNo, v0_levels, v0_levelEquations, v0_levelClauses, v0_tape, v0_tapeSize, v0_faultIs, v0_faultAt, v0_at, v0_newEquations, v0_newClauses, v0_newSet, v0_newRight, v0_newYes, v0_newNo, v0_lineYes, v0_lineNo, .int r0.2.2.1, .ref q0_rSet, .ref q0_rRight, .int (bI r0.2.2.2.1), v0_sumSet, v0_sumOf, v0_sumRight, v0_empty, v0_empties, .long r0.2.2.2.2.1, .long r0.2.2.2.2.2.1, .ref q0_waitTaken, .ref q0_waitOnes, .int r0.2.2.2.2.2.2.1, v0_lastModel, .long r0.2.2.2.2.2.2.2.1, .long r0.2.2.2.2.2.2.2.2.1, v0_gSet, v0_gateCount])), (q0_eSet, .inl (cL, n0_eSet, .inr (.inl h0_eSet))), (q0_eRight, .inl (cI, n0_eRight, .inl h0_eRight)), (q0_cYes, .inl (cL, n0_cYes, .inr (.inl h0_cYes))), (q0_cNo, .inl (cL, n0_cNo, .inr (.inl h0_cNo))), (q0_rSet, .inl (cL, n0_rSet, .inr (.inl r0.2.2.2.2.2.2.2.2.2.1))), (q0_rRight, .inl (cI, n0_rRight, .inl r0.2.2.2.2.2.2.2.2.2.2.1)), (q0_waitTaken, .inl (cL, n0_waitTaken, .inr (.inl r0.2.2.2.2.2.2.2.2.2.2.2.1))), (q0_waitOnes, .inl (cL, n0_waitOnes, .inr (.inl r0.2.2.2.2.2.2.2.2.2.2.2.2)))]) tU sz) 0 0 (va_A [(q0, .inr (8, [.int f0_thrown, .int f0_n, .int f0_equations, .ref q0_eSet, .ref q0_eRight, .int f0_clauses, .ref q0_cYes, .ref q0_cNo, v0_levels, v0_levelEquations, v0_levelClauses, v0_tape, v0_tapeSize, v0_faultIs, v0_faultAt, v0_at, v0_newEquations, v0_newClauses, v0_newSet, v0_newRight, v0_newYes, v0_newNo, v0_lineYes, v0_lineNo, .int f0_rowCount, .ref q0_rSet, .ref q0_rRight, .int (bI f0_isImpossible), v0_sumSet, v0_sumOf, v0_sumRight, v0_empty, v0_empties, .long f0_taken, .long f0_ones, .ref q0_waitTaken, .ref q0_waitOnes, .int f0_nodeCount, v0_lastModel, .long f0_modelCount, .long f0_modelIs, v0_gSet, v0_gateCount])), (q0_eSet, .inl (cL, n0_eSet, .inr (.inl h0_eSet))), (q0_eRight, .inl (cI, n0_eRight, .inl h0_eRight)), (q0_cYes, .inl (cL, n0_cYes, .inr (.inl h0_cYes))), (q0_cNo, .inl (cL, n0_cNo, .inr (.inl h0_cNo))), (q0_rSet, .inl (cL, n0_rSet, .inr (.inl h0_rSet))), (q0_rRight, .inl (cI, n0_rRight, .inl h0_rRight)), (q0_waitTaken, .inl (cL, n0_waitTaken, .inr (.inl h0_waitTaken))), (q0_waitOnes, .inl (cL, n0_waitOnes, .inr (.inl h0_waitOnes)))] sz) := by
  refine Met.ofW (cc := cX8_must) (maxL := 7) (ret := (some .int)) (by decide) rfl ?_
  intro p e s m args below meth c s₁ B hml hv
  obtain ⟨hargs, hsz, hP, hEV, hD0⟩ := hv
  have hx := B.exec
  have hb := B.bytes
  have hr := B.returns
  have hts := atoms_spec (ws := wsX8_must) B.pre
  have hown : s.vm.findClass RX8 = some m.cls := findClass_of_methodNamed B.named
  have hlocks := B.notSynchronized
  have hK := hEV.K
  have lk_0 := hts _ lk_0_X8_must
  have lk_1 := hts _ lk_1_X8_must
  have lk_2 := hts _ lk_2_X8_must
  subst hsz
  unfold QiW PoW
  have hD := hD0.self (sz := s.heap.size)
  generalize hAe : va_A [(q0, .inr (8, [.int f0_thrown, .int f0_n, .int f0_equations, .ref q0_eSet, .ref q0_eRight, .int f0_clauses, .ref q0_cYes, .ref q0_cNo, v0_levels, v0_levelEquations, v0_levelClauses, v0_tape, v0_tapeSize, v0_faultIs, v0_faultAt, v0_at, v0_newEquations, v0_newClauses, v0_newSet, v0_newRight, v0_newYes, v0_newNo, v0_lineYes, v0_lineNo, .int f0_rowCount, .ref q0_rSet, .ref q0_rRight, .int (bI f0_isImpossible), v0_sumSet, v0_sumOf, v0_sumRight, v0_empty, v0_empties, .long f0_taken, .long f0_ones, .ref q0_waitTaken, .ref q0_waitOnes, .int f0_nodeCount, v0_lastModel, .long f0_modelCount, .long f0_modelIs, v0_gSet, v0_gateCount])), (q0_eSet, .inl (cL, n0_eSet, .inr (.inl h0_eSet))), (q0_eRight, .inl (cI, n0_eRight, .inl h0_eRight)), (q0_cYes, .inl (cL, n0_cYes, .inr (.inl h0_cYes))), (q0_cNo, .inl (cL, n0_cNo, .inr (.inl h0_cNo))), (q0_rSet, .inl (cL, n0_rSet, .inr (.inl h0_rSet))), (q0_rRight, .inl (cI, n0_rRight, .inl h0_rRight)), (q0_waitTaken, .inl (cL, n0_waitTaken, .inr (.inl h0_waitTaken))), (q0_waitOnes, .inl (cL, n0_waitOnes, .inr (.inl h0_waitOnes)))] s.heap.size = A at hD ⊢
  have hA : ∀ q : Nat, s.heap.size ≤ q → A q := fun q h => by rw [← hAe]; exact Or.inr h
  have hS : va_S A s.heap s.heap [] := va_S.rf
  have hent : entryFrame m args 7 = entryFrame m ([.ref q0, .int x1, .int x2] : List Value).toArray 7 := by rw [hargs]
  rw [hent]
  refine kx_Q (fun Q hQ => ?_)
  have hl := lv_entry ([.ref q0, .int x1, .int x2]) (n := 7) (Nat.le_of_ble_eq_true rfl)
  rw [lg_entry_eq]
  generalize (lg_sl ([.ref q0, .int x1, .int x2]) ++ List.replicate (7 - (lg_sl ([.ref q0, .int x1, .int x2])).length) Slot.unset).toArray = ls at hl ⊢
  have hl : lv_has ls 7 [(0, .ref q0), (1, .int x1), (2, .int x2)] := hl
  have h := h0
  unfold D_X8_must at h
  refine lv_aload_n hx hb dX8_must_0 rfl (lv_at hl 0 rfl) ?_
  refine lv_iload_n hx hb dX8_must_1 rfl (lv_at hl 1 rfl) ?_
  refine lv_i2l (v := x1.toInt64) hx hb dX8_must_2 rfl ?_
  refine lv_lconst (v := (1 : Int64)) hx hb dX8_must_3 (by decide) ?_
  refine lv_aload_n hx hb dX8_must_4 rfl (lv_at hl 0 rfl) ?_
  refine va_get (D := D) (ci := 8) (v := .int f0_n) (C := RX8) (T := TX8) (N := 43) hx hb hts in_X8_must_X8 hown hK hP 0 rfl rfl 1 (by decide) lk_0 (fun _ h9 => h9) rfl dX8_must_5 ?_
  refine lv_i2l (v := f0_n.toInt64) hx hb dX8_must_8 rfl ?_
  obtain ⟨u_1, hu_2, h⟩ := co_b h
  refine kx_i (ws' := fun _ => [(q0, .inr (8, [.int f0_thrown, .int f0_n, .int f0_equations, .ref q0_eSet, .ref q0_eRight, .int f0_clauses, .ref q0_cYes, .ref q0_cNo, v0_levels, v0_levelEquations, v0_levelClauses, v0_tape, v0_tapeSize, v0_faultIs, v0_faultAt, v0_at, v0_newEquations, v0_newClauses, v0_newSet, v0_newRight, v0_newYes, v0_newNo, v0_lineYes, v0_lineNo, .int f0_rowCount, .ref q0_rSet, .ref q0_rRight, .int (bI f0_isImpossible), v0_sumSet, v0_sumOf, v0_sumRight, v0_empty, v0_empties, .long f0_taken, .long f0_ones, .ref q0_waitTaken, .ref q0_waitOnes, .int f0_nodeCount, v0_lastModel, .long f0_modelCount, .long f0_modelIs, v0_gSet, v0_gateCount])), (q0_eSet, .inl (cL, n0_eSet, .inr (.inl h0_eSet))), (q0_eRight, .inl (cI, n0_eRight, .inl h0_eRight)), (q0_cYes, .inl (cL, n0_cYes, .inr (.inl h0_cYes))), (q0_cNo, .inl (cL, n0_cNo, .inr (.inl h0_cNo))), (q0_rSet, .inl (cL, n0_rSet, .inr (.inl h0_rSet))), (q0_rRight, .inl (cI, n0_rRight, .inl h0_rRight)), (q0_waitTaken, .inl (cL, n0_waitTaken, .inr (.inl h0_waitTaken))), (q0_waitOnes, .inl (cL, n0_waitOnes, .inr (.inl h0_waitOnes)))]) hP hD hS hA [] [0, 1, 2, 3, 4, 5, 6, 7, 8] [0, 1, 2, 3, 4, 5, 6, 7, 8] rfl (by decide) (by decide) (by decide) (fun _ => rfl) (by decide) (va_runS (As := [.long x1.toInt64, .long (1 : Int64), .long f0_n.toInt64]) (rest := [.ref q0]) ⟨hx, hb, hml, hown, hts⟩ (cm_X8_isIn l D cI cL (x0 := x1.toInt64) (x2 := (1 : Int64)) (x4 := f0_n.toInt64) (r0 := u_1) (h0 := hu_2) (sz := H.size)) (va_cwS 3 hts gX8_must_X8_isIn rfl rfl rfl (by decide +kernel) ⟨Nat.le_of_ble_eq_true rfl, Nat.le_of_ble_eq_true rfl⟩) (kx_preS hEV hP hD [] rfl (by decide)) rfl rfl hl.1 rfl (lv_room (Nat.le_of_ble_eq_true rfl)) dX8_must_9 ⟨Nat.le_refl _, Nat.le_refl _⟩) (fun _ H locs _ hP hD hS => ?_)
  refine lv_iload_n hx hb dX8_must_12 rfl (lv_at hl 2 rfl) ?_
  refine lv_i2l (v := x2.toInt64) hx hb dX8_must_13 rfl ?_
  refine lv_lconst (v := (1 : Int64)) hx hb dX8_must_14 (by decide) ?_
  refine lv_ldc2 hx hb hown lk_1 dX8_must_15 ?_
  obtain ⟨u_3, hu_4, h⟩ := co_b h
  refine kx_i (ws' := fun _ => [(q0, .inr (8, [.int f0_thrown, .int f0_n, .int f0_equations, .ref q0_eSet, .ref q0_eRight, .int f0_clauses, .ref q0_cYes, .ref q0_cNo, v0_levels, v0_levelEquations, v0_levelClauses, v0_tape, v0_tapeSize, v0_faultIs, v0_faultAt, v0_at, v0_newEquations, v0_newClauses, v0_newSet, v0_newRight, v0_newYes, v0_newNo, v0_lineYes, v0_lineNo, .int f0_rowCount, .ref q0_rSet, .ref q0_rRight, .int (bI f0_isImpossible), v0_sumSet, v0_sumOf, v0_sumRight, v0_empty, v0_empties, .long f0_taken, .long f0_ones, .ref q0_waitTaken, .ref q0_waitOnes, .int f0_nodeCount, v0_lastModel, .long f0_modelCount, .long f0_modelIs, v0_gSet, v0_gateCount])), (q0_eSet, .inl (cL, n0_eSet, .inr (.inl h0_eSet))), (q0_eRight, .inl (cI, n0_eRight, .inl h0_eRight)), (q0_cYes, .inl (cL, n0_cYes, .inr (.inl h0_cYes))), (q0_cNo, .inl (cL, n0_cNo, .inr (.inl h0_cNo))), (q0_rSet, .inl (cL, n0_rSet, .inr (.inl h0_rSet))), (q0_rRight, .inl (cI, n0_rRight, .inl h0_rRight)), (q0_waitTaken, .inl (cL, n0_waitTaken, .inr (.inl h0_waitTaken))), (q0_waitOnes, .inl (cL, n0_waitOnes, .inr (.inl h0_waitOnes)))]) hP hD hS hA [] [0, 1, 2, 3, 4, 5, 6, 7, 8] [0, 1, 2, 3, 4, 5, 6, 7, 8] rfl (by decide) (by decide) (by decide) (fun _ => rfl) (by decide) (va_runS (As := [.long x2.toInt64, .long (1 : Int64), .long (5000 : Int64)]) (rest := [.int (bI u_1), .ref q0]) ⟨hx, hb, hml, hown, hts⟩ (cm_X8_isIn l D cI cL (x0 := x2.toInt64) (x2 := (1 : Int64)) (x4 := (5000 : Int64)) (r0 := u_3) (h0 := hu_4) (sz := H.size)) (va_cwS 3 hts gX8_must_X8_isIn rfl rfl rfl (by decide +kernel) ⟨Nat.le_of_ble_eq_true rfl, Nat.le_of_ble_eq_true rfl⟩) (kx_preS hEV hP hD [] rfl (by decide)) rfl rfl hl.1 rfl (lv_room (Nat.le_of_ble_eq_true rfl)) dX8_must_18 ⟨Nat.le_refl _, Nat.le_refl _⟩) (fun _ H locs _ hP hD hS => ?_)
  obtain ⟨u_5, hu_6, h⟩ := co_b h
  refine kx_i (ws' := fun _ => [(q0, .inr (8, [.int u_5.2, .int f0_n, .int f0_equations, .ref q0_eSet, .ref q0_eRight, .int f0_clauses, .ref q0_cYes, .ref q0_cNo, v0_levels, v0_levelEquations, v0_levelClauses, v0_tape, v0_tapeSize, v0_faultIs, v0_faultAt, v0_at, v0_newEquations, v0_newClauses, v0_newSet, v0_newRight, v0_newYes, v0_newNo, v0_lineYes, v0_lineNo, .int f0_rowCount, .ref q0_rSet, .ref q0_rRight, .int (bI f0_isImpossible), v0_sumSet, v0_sumOf, v0_sumRight, v0_empty, v0_empties, .long f0_taken, .long f0_ones, .ref q0_waitTaken, .ref q0_waitOnes, .int f0_nodeCount, v0_lastModel, .long f0_modelCount, .long f0_modelIs, v0_gSet, v0_gateCount])), (q0_eSet, .inl (cL, n0_eSet, .inr (.inl h0_eSet))), (q0_eRight, .inl (cI, n0_eRight, .inl h0_eRight)), (q0_cYes, .inl (cL, n0_cYes, .inr (.inl h0_cYes))), (q0_cNo, .inl (cL, n0_cNo, .inr (.inl h0_cNo))), (q0_rSet, .inl (cL, n0_rSet, .inr (.inl h0_rSet))), (q0_rRight, .inl (cI, n0_rRight, .inl h0_rRight)), (q0_waitTaken, .inl (cL, n0_waitTaken, .inr (.inl h0_waitTaken))), (q0_waitOnes, .inl (cL, n0_waitOnes, .inr (.inl h0_waitOnes)))]) hP hD hS hA [0] [1, 2, 3, 4, 5, 6, 7, 8] [8, 0, 1, 2, 3, 4, 5, 6, 7] rfl (by decide) (by decide) (by decide) (fun _ => rfl) (by decide) (va_runV (As := [.int (bI u_1), .int (bI u_3)]) (rest := []) ⟨hx, hb, hml, hown, hts⟩ (cm_X8_may l D cI cL (q0 := q0) (f0_thrown := f0_thrown) (v0_n := .int f0_n) (v0_equations := .int f0_equations) (v0_eSet := .ref q0_eSet) (v0_eRight := .ref q0_eRight) (v0_clauses := .int f0_clauses) (v0_cYes := .ref q0_cYes) (v0_cNo := .ref q0_cNo) (v0_levels := v0_levels) (v0_levelEquations := v0_levelEquations) (v0_levelClauses := v0_levelClauses) (v0_tape := v0_tape) (v0_tapeSize := v0_tapeSize) (v0_faultIs := v0_faultIs) (v0_faultAt := v0_faultAt) (v0_at := v0_at) (v0_newEquations := v0_newEquations) (v0_newClauses := v0_newClauses) (v0_newSet := v0_newSet) (v0_newRight := v0_newRight) (v0_newYes := v0_newYes) (v0_newNo := v0_newNo) (v0_lineYes := v0_lineYes) (v0_lineNo := v0_lineNo) (v0_rowCount := .int f0_rowCount) (v0_rSet := .ref q0_rSet) (v0_rRight := .ref q0_rRight) (v0_isImpossible := .int (bI f0_isImpossible)) (v0_sumSet := v0_sumSet) (v0_sumOf := v0_sumOf) (v0_sumRight := v0_sumRight) (v0_empty := v0_empty) (v0_empties := v0_empties) (v0_taken := .long f0_taken) (v0_ones := .long f0_ones) (v0_waitTaken := .ref q0_waitTaken) (v0_waitOnes := .ref q0_waitOnes) (v0_nodeCount := .int f0_nodeCount) (v0_lastModel := v0_lastModel) (v0_modelCount := .long f0_modelCount) (v0_modelIs := .long f0_modelIs) (v0_gSet := v0_gSet) (v0_gateCount := v0_gateCount) (x1 := u_1) (x2 := u_3) (r0 := u_5) (h0 := hu_6) (sz := H.size)) (cwV 2 hts gX8_must_X8_may rfl rfl rfl (by decide +kernel) ⟨Nat.le_of_ble_eq_true rfl, Nat.le_of_ble_eq_true rfl⟩) (kx_preV hEV hP hD [0] rfl (by decide) (k0 := 0) (ci := 8) rfl rfl rfl) rfl rfl hl.1 rfl (lv_room (Nat.le_of_ble_eq_true rfl)) dX8_must_21 ⟨Nat.le_refl _, Nat.le_refl _⟩) (fun _ H locs _ hP hD hS => ?_)
  refine lv_if_ne (tgt := 29) hx hb dX8_must_24 (by decide) (fun c_7 => ?_) (fun c_7 => ?_)
  · have k_8 : u_5.1 = true := (kx_nz c_7)
    have h := co_t k_8 h
    refine lv_aload_n hx hb dX8_must_29 rfl (lv_at hl 0 rfl) ?_
    refine lv_iconst (v := (0 : Int32)) hx hb dX8_must_30 (by decide) ?_
    refine va_put (D := D) (ci := 8) (v := .int (0 : Int32)) (ty := .int) (C := RX8) (T := TX8) (N := 43) hx hb hts in_X8_must_X8 tyX8 tyX8_ok nmX8 hown hK hP hD hS 0 rfl rfl 37 (by decide) lk_2 (fun _ h9 => h9) rfl (by decide +kernel) rfl rfl (Nat.le_of_ble_eq_true rfl) dX8_must_31 (fun H locs hP hD hS => ?_)
    have hP : va_P D vwCl [(q0, .inr (8, [.int u_5.2, .int f0_n, .int f0_equations, .ref q0_eSet, .ref q0_eRight, .int f0_clauses, .ref q0_cYes, .ref q0_cNo, v0_levels, v0_levelEquations, v0_levelClauses, v0_tape, v0_tapeSize, v0_faultIs, v0_faultAt, v0_at, v0_newEquations, v0_newClauses, v0_newSet, v0_newRight, v0_newYes, v0_newNo, v0_lineYes, v0_lineNo, .int f0_rowCount, .ref q0_rSet, .ref q0_rRight, .int (bI f0_isImpossible), v0_sumSet, v0_sumOf, v0_sumRight, v0_empty, v0_empties, .long f0_taken, .long f0_ones, .ref q0_waitTaken, .ref q0_waitOnes, .int (0 : Int32), v0_lastModel, .long f0_modelCount, .long f0_modelIs, v0_gSet, v0_gateCount])), (q0_eSet, .inl (cL, n0_eSet, .inr (.inl h0_eSet))), (q0_eRight, .inl (cI, n0_eRight, .inl h0_eRight)), (q0_cYes, .inl (cL, n0_cYes, .inr (.inl h0_cYes))), (q0_cNo, .inl (cL, n0_cNo, .inr (.inl h0_cNo))), (q0_rSet, .inl (cL, n0_rSet, .inr (.inl h0_rSet))), (q0_rRight, .inl (cI, n0_rRight, .inl h0_rRight)), (q0_waitTaken, .inl (cL, n0_waitTaken, .inr (.inl h0_waitTaken))), (q0_waitOnes, .inl (cL, n0_waitOnes, .inr (.inl h0_waitOnes)))] H := hP
    have hD : va_D A [(q0, .inr (8, [.int u_5.2, .int f0_n, .int f0_equations, .ref q0_eSet, .ref q0_eRight, .int f0_clauses, .ref q0_cYes, .ref q0_cNo, v0_levels, v0_levelEquations, v0_levelClauses, v0_tape, v0_tapeSize, v0_faultIs, v0_faultAt, v0_at, v0_newEquations, v0_newClauses, v0_newSet, v0_newRight, v0_newYes, v0_newNo, v0_lineYes, v0_lineNo, .int f0_rowCount, .ref q0_rSet, .ref q0_rRight, .int (bI f0_isImpossible), v0_sumSet, v0_sumOf, v0_sumRight, v0_empty, v0_empties, .long f0_taken, .long f0_ones, .ref q0_waitTaken, .ref q0_waitOnes, .int (0 : Int32), v0_lastModel, .long f0_modelCount, .long f0_modelIs, v0_gSet, v0_gateCount])), (q0_eSet, .inl (cL, n0_eSet, .inr (.inl h0_eSet))), (q0_eRight, .inl (cI, n0_eRight, .inl h0_eRight)), (q0_cYes, .inl (cL, n0_cYes, .inr (.inl h0_cYes))), (q0_cNo, .inl (cL, n0_cNo, .inr (.inl h0_cNo))), (q0_rSet, .inl (cL, n0_rSet, .inr (.inl h0_rSet))), (q0_rRight, .inl (cI, n0_rRight, .inl h0_rRight)), (q0_waitTaken, .inl (cL, n0_waitTaken, .inr (.inl h0_waitTaken))), (q0_waitOnes, .inl (cL, n0_waitOnes, .inr (.inl h0_waitOnes)))] := hD
    refine lv_lconst (v := (1 : Int64)) hx hb dX8_must_34 (by decide) ?_
    refine lv_iload_n hx hb dX8_must_35 rfl (lv_at hl 1 rfl) ?_
    refine lv_iconst (v := (1 : Int32)) hx hb dX8_must_36 (by decide) ?_
    refine lv_isub hx hb dX8_must_37 ?_
    refine lv_lshl (v := jshl (1 : Int64) (x1 - (1 : Int32))) hx hb dX8_must_38 rfl ?_
    refine lv_lstore_n (lv' := [(3, .long (jshl (1 : Int64) (x1 - (1 : Int32)))), (0, .ref q0), (1, .int x1), (2, .int x2)]) hx hb dX8_must_39 rfl hl (by decide) rfl (fun ls hl => ?_)
    refine lv_aload_n hx hb dX8_must_40 rfl (lv_at hl 1 rfl) ?_
    refine lv_lload_n hx hb dX8_must_41 rfl (lv_at hl 0 rfl) ?_
    refine lv_lconst (v := (0 : Int64)) hx hb dX8_must_42 (by decide) ?_
    refine lv_iload_n hx hb dX8_must_43 rfl (lv_at hl 3 rfl) ?_
    refine lv_iconst (v := (0 : Int32)) hx hb dX8_must_44 (by decide) ?_
    obtain ⟨u_9, hu_10, h⟩ := co_b h
    refine kx_i (ws' := fun _ => [(q0, .inr (8, [.int u_5.2, .int f0_n, .int f0_equations, .ref q0_eSet, .ref q0_eRight, .int f0_clauses, .ref q0_cYes, .ref q0_cNo, v0_levels, v0_levelEquations, v0_levelClauses, v0_tape, v0_tapeSize, v0_faultIs, v0_faultAt, v0_at, v0_newEquations, v0_newClauses, v0_newSet, v0_newRight, v0_newYes, v0_newNo, v0_lineYes, v0_lineNo, .int u_9.2.1, .ref q0_rSet, .ref q0_rRight, .int (bI u_9.2.2.1), v0_sumSet, v0_sumOf, v0_sumRight, v0_empty, v0_empties, .long u_9.2.2.2.1, .long u_9.2.2.2.2.1, .ref q0_waitTaken, .ref q0_waitOnes, .int u_9.2.2.2.2.2.1, v0_lastModel, .long u_9.2.2.2.2.2.2.1, .long u_9.2.2.2.2.2.2.2.1, v0_gSet, v0_gateCount])), (q0_eSet, .inl (cL, n0_eSet, .inr (.inl h0_eSet))), (q0_eRight, .inl (cI, n0_eRight, .inl h0_eRight)), (q0_cYes, .inl (cL, n0_cYes, .inr (.inl h0_cYes))), (q0_cNo, .inl (cL, n0_cNo, .inr (.inl h0_cNo))), (q0_rSet, .inl (cL, n0_rSet, .inr (.inl u_9.2.2.2.2.2.2.2.2.1))), (q0_rRight, .inl (cI, n0_rRight, .inl u_9.2.2.2.2.2.2.2.2.2.1)), (q0_waitTaken, .inl (cL, n0_waitTaken, .inr (.inl u_9.2.2.2.2.2.2.2.2.2.2.1))), (q0_waitOnes, .inl (cL, n0_waitOnes, .inr (.inl u_9.2.2.2.2.2.2.2.2.2.2.2)))]) hP hD hS hA [0, 1, 2, 3, 4, 5, 6, 7, 8] [] [0, 1, 2, 3, 4, 5, 6, 7, 8] rfl (by decide) (by decide) (by decide) (fun _ => rfl) (by decide) (va_runV (As := [.long (jshl (1 : Int64) (x1 - (1 : Int32))), .long (0 : Int64), .int x2, .int (bI false)]) (rest := []) ⟨hx, hb, hml, hown, hts⟩ (cm_X8_search l D cI cL (q0 := q0) (q0_eSet := q0_eSet) (q0_eRight := q0_eRight) (q0_cYes := q0_cYes) (q0_cNo := q0_cNo) (q0_rSet := q0_rSet) (q0_rRight := q0_rRight) (q0_waitTaken := q0_waitTaken) (q0_waitOnes := q0_waitOnes) (n0_eSet := n0_eSet) (n0_eRight := n0_eRight) (n0_cYes := n0_cYes) (n0_cNo := n0_cNo) (n0_rSet := n0_rSet) (n0_rRight := n0_rRight) (n0_waitTaken := n0_waitTaken) (n0_waitOnes := n0_waitOnes) (f0_n := f0_n) (f0_equations := f0_equations) (f0_clauses := f0_clauses) (f0_rowCount := f0_rowCount) (f0_isImpossible := f0_isImpossible) (f0_taken := f0_taken) (f0_ones := f0_ones) (f0_nodeCount := (0 : Int32)) (f0_modelCount := f0_modelCount) (f0_modelIs := f0_modelIs) (h0_eSet := h0_eSet) (h0_eRight := h0_eRight) (h0_cYes := h0_cYes) (h0_cNo := h0_cNo) (h0_rSet := h0_rSet) (h0_rRight := h0_rRight) (h0_waitTaken := h0_waitTaken) (h0_waitOnes := h0_waitOnes) (v0_thrown := .int u_5.2) (v0_levels := v0_levels) (v0_levelEquations := v0_levelEquations) (v0_levelClauses := v0_levelClauses) (v0_tape := v0_tape) (v0_tapeSize := v0_tapeSize) (v0_faultIs := v0_faultIs) (v0_faultAt := v0_faultAt) (v0_at := v0_at) (v0_newEquations := v0_newEquations) (v0_newClauses := v0_newClauses) (v0_newSet := v0_newSet) (v0_newRight := v0_newRight) (v0_newYes := v0_newYes) (v0_newNo := v0_newNo) (v0_lineYes := v0_lineYes) (v0_lineNo := v0_lineNo) (v0_sumSet := v0_sumSet) (v0_sumOf := v0_sumOf) (v0_sumRight := v0_sumRight) (v0_empty := v0_empty) (v0_empties := v0_empties) (v0_lastModel := v0_lastModel) (v0_gSet := v0_gSet) (v0_gateCount := v0_gateCount) (x1 := jshl (1 : Int64) (x1 - (1 : Int32))) (x3 := (0 : Int64)) (x5 := x2) (x6 := false) (r0 := u_9) (h0 := hu_10) (sz := H.size)) (cwV 4 hts gX8_must_X8_search rfl rfl rfl (by decide +kernel) ⟨Nat.le_of_ble_eq_true rfl, Nat.le_of_ble_eq_true rfl⟩) (kx_preV hEV hP hD [0, 1, 2, 3, 4, 5, 6, 7, 8] rfl (by decide) (k0 := 0) (ci := 8) rfl rfl rfl) rfl rfl hl.1 rfl (lv_room (Nat.le_of_ble_eq_true rfl)) dX8_must_45 ⟨Nat.le_refl _, Nat.le_refl _⟩) (fun _ H locs _ hP hD hS => ?_)
    refine lv_istore (lv' := [(5, .int u_9.1), (3, .long (jshl (1 : Int64) (x1 - (1 : Int32)))), (0, .ref q0), (1, .int x1), (2, .int x2)]) hx hb dX8_must_48 hl (by decide) rfl (fun ls hl => ?_)
    refine lv_iload hx hb dX8_must_50 (lv_at hl 0 rfl) ?_
    refine lv_bipush (v := (-2 : Int32)) hx hb dX8_must_52 (by decide) ?_
    refine lv_icmp_ne (tgt := 60) hx hb dX8_must_54 (by decide) (fun c_11 => ?_) (fun c_11 => ?_)
    · have k_12 : ¬ (u_9.1 = (-2 : Int32)) := c_11
      have h := co_f k_12 h
      refine lv_aload_n hx hb dX8_must_60 rfl (lv_at hl 2 rfl) ?_
      refine lv_lload_n hx hb dX8_must_61 rfl (lv_at hl 1 rfl) ?_
      refine lv_lload_n hx hb dX8_must_62 rfl (lv_at hl 1 rfl) ?_
      refine lv_iload_n hx hb dX8_must_63 rfl (lv_at hl 4 rfl) ?_
      refine lv_iconst (v := (0 : Int32)) hx hb dX8_must_64 (by decide) ?_
      obtain ⟨u_13, hu_14, h⟩ := co_b h
      refine kx_i (ws' := fun _ => [(q0, .inr (8, [.int u_5.2, .int f0_n, .int f0_equations, .ref q0_eSet, .ref q0_eRight, .int f0_clauses, .ref q0_cYes, .ref q0_cNo, v0_levels, v0_levelEquations, v0_levelClauses, v0_tape, v0_tapeSize, v0_faultIs, v0_faultAt, v0_at, v0_newEquations, v0_newClauses, v0_newSet, v0_newRight, v0_newYes, v0_newNo, v0_lineYes, v0_lineNo, .int u_13.2.1, .ref q0_rSet, .ref q0_rRight, .int (bI u_13.2.2.1), v0_sumSet, v0_sumOf, v0_sumRight, v0_empty, v0_empties, .long u_13.2.2.2.1, .long u_13.2.2.2.2.1, .ref q0_waitTaken, .ref q0_waitOnes, .int u_13.2.2.2.2.2.1, v0_lastModel, .long u_13.2.2.2.2.2.2.1, .long u_13.2.2.2.2.2.2.2.1, v0_gSet, v0_gateCount])), (q0_eSet, .inl (cL, n0_eSet, .inr (.inl h0_eSet))), (q0_eRight, .inl (cI, n0_eRight, .inl h0_eRight)), (q0_cYes, .inl (cL, n0_cYes, .inr (.inl h0_cYes))), (q0_cNo, .inl (cL, n0_cNo, .inr (.inl h0_cNo))), (q0_rSet, .inl (cL, n0_rSet, .inr (.inl u_13.2.2.2.2.2.2.2.2.1))), (q0_rRight, .inl (cI, n0_rRight, .inl u_13.2.2.2.2.2.2.2.2.2.1)), (q0_waitTaken, .inl (cL, n0_waitTaken, .inr (.inl u_13.2.2.2.2.2.2.2.2.2.2.1))), (q0_waitOnes, .inl (cL, n0_waitOnes, .inr (.inl u_13.2.2.2.2.2.2.2.2.2.2.2)))]) hP hD hS hA [0, 1, 2, 3, 4, 5, 6, 7, 8] [] [0, 1, 2, 3, 4, 5, 6, 7, 8] rfl (by decide) (by decide) (by decide) (fun _ => rfl) (by decide) (va_runV (As := [.long (jshl (1 : Int64) (x1 - (1 : Int32))), .long (jshl (1 : Int64) (x1 - (1 : Int32))), .int x2, .int (bI false)]) (rest := []) ⟨hx, hb, hml, hown, hts⟩ (cm_X8_search l D cI cL (q0 := q0) (q0_eSet := q0_eSet) (q0_eRight := q0_eRight) (q0_cYes := q0_cYes) (q0_cNo := q0_cNo) (q0_rSet := q0_rSet) (q0_rRight := q0_rRight) (q0_waitTaken := q0_waitTaken) (q0_waitOnes := q0_waitOnes) (n0_eSet := n0_eSet) (n0_eRight := n0_eRight) (n0_cYes := n0_cYes) (n0_cNo := n0_cNo) (n0_rSet := n0_rSet) (n0_rRight := n0_rRight) (n0_waitTaken := n0_waitTaken) (n0_waitOnes := n0_waitOnes) (f0_n := f0_n) (f0_equations := f0_equations) (f0_clauses := f0_clauses) (f0_rowCount := u_9.2.1) (f0_isImpossible := u_9.2.2.1) (f0_taken := u_9.2.2.2.1) (f0_ones := u_9.2.2.2.2.1) (f0_nodeCount := u_9.2.2.2.2.2.1) (f0_modelCount := u_9.2.2.2.2.2.2.1) (f0_modelIs := u_9.2.2.2.2.2.2.2.1) (h0_eSet := h0_eSet) (h0_eRight := h0_eRight) (h0_cYes := h0_cYes) (h0_cNo := h0_cNo) (h0_rSet := u_9.2.2.2.2.2.2.2.2.1) (h0_rRight := u_9.2.2.2.2.2.2.2.2.2.1) (h0_waitTaken := u_9.2.2.2.2.2.2.2.2.2.2.1) (h0_waitOnes := u_9.2.2.2.2.2.2.2.2.2.2.2) (v0_thrown := .int u_5.2) (v0_levels := v0_levels) (v0_levelEquations := v0_levelEquations) (v0_levelClauses := v0_levelClauses) (v0_tape := v0_tape) (v0_tapeSize := v0_tapeSize) (v0_faultIs := v0_faultIs) (v0_faultAt := v0_faultAt) (v0_at := v0_at) (v0_newEquations := v0_newEquations) (v0_newClauses := v0_newClauses) (v0_newSet := v0_newSet) (v0_newRight := v0_newRight) (v0_newYes := v0_newYes) (v0_newNo := v0_newNo) (v0_lineYes := v0_lineYes) (v0_lineNo := v0_lineNo) (v0_sumSet := v0_sumSet) (v0_sumOf := v0_sumOf) (v0_sumRight := v0_sumRight) (v0_empty := v0_empty) (v0_empties := v0_empties) (v0_lastModel := v0_lastModel) (v0_gSet := v0_gSet) (v0_gateCount := v0_gateCount) (x1 := jshl (1 : Int64) (x1 - (1 : Int32))) (x3 := jshl (1 : Int64) (x1 - (1 : Int32))) (x5 := x2) (x6 := false) (r0 := u_13) (h0 := hu_14) (sz := H.size)) (cwV 4 hts gX8_must_X8_search rfl rfl rfl (by decide +kernel) ⟨Nat.le_of_ble_eq_true rfl, Nat.le_of_ble_eq_true rfl⟩) (kx_preV hEV hP hD [0, 1, 2, 3, 4, 5, 6, 7, 8] rfl (by decide) (k0 := 0) (ci := 8) rfl rfl rfl) rfl rfl hl.1 rfl (lv_room (Nat.le_of_ble_eq_true rfl)) dX8_must_65 ⟨Nat.le_refl _, Nat.le_refl _⟩) (fun _ H locs _ hP hD hS => ?_)
      refine lv_istore (lv' := [(6, .int u_13.1), (5, .int u_9.1), (3, .long (jshl (1 : Int64) (x1 - (1 : Int32)))), (0, .ref q0), (1, .int x1), (2, .int x2)]) hx hb dX8_must_68 hl (by decide) rfl (fun ls hl => ?_)
      refine lv_iload hx hb dX8_must_70 (lv_at hl 0 rfl) ?_
      refine lv_bipush (v := (-2 : Int32)) hx hb dX8_must_72 (by decide) ?_
      refine lv_icmp_ne (tgt := 82) hx hb dX8_must_74 (by decide) (fun c_15 => ?_) (fun c_15 => ?_)
      · have k_16 : ¬ (u_13.1 = (-2 : Int32)) := c_15
        have h := co_f k_16 h
        refine lv_iload hx hb dX8_must_82 (lv_at hl 0 rfl) ?_
        refine lv_iload hx hb dX8_must_84 (lv_at hl 1 rfl) ?_
        refine lv_icmp_ne (tgt := 93) hx hb dX8_must_86 (by decide) (fun c_17 => ?_) (fun c_17 => ?_)
        · have k_18 : ¬ (u_13.1 = u_9.1) := c_17
          have h := co_f k_18 h
          refine lv_iload hx hb dX8_must_93 (lv_at hl 0 rfl) ?_
          have h := Option.some.inj h
          subst h
          subst hQ
          exact W.iret (v := u_13.1) hx hb hr (fun t ht hW => ⟨⟨u_13.1, (), rfl, ⟨rfl, trivial⟩, by rw [ht]; exact hP, hD⟩, hS.F ht⟩) hS.2.2 dX8_must_95
        · have k_18 : u_13.1 = u_9.1 := c_17
          have h := co_t k_18 h
          refine lv_iconst (v := (-1 : Int32)) hx hb dX8_must_89 (by decide) ?_
          refine lv_goto (tgt := 95) hx hb dX8_must_90 (by decide) ?_
          have h := Option.some.inj h
          subst h
          subst hQ
          exact W.iret (v := (-1 : Int32)) hx hb hr (fun t ht hW => ⟨⟨(-1 : Int32), (), rfl, ⟨rfl, trivial⟩, by rw [ht]; exact hP, hD⟩, hS.F ht⟩) hS.2.2 dX8_must_95
      · have k_16 : u_13.1 = (-2 : Int32) := c_15
        have h := co_t k_16 h
        refine lv_bipush (v := (-2 : Int32)) hx hb dX8_must_77 (by decide) ?_
        refine lv_goto (tgt := 95) hx hb dX8_must_79 (by decide) ?_
        have h := Option.some.inj h
        subst h
        subst hQ
        exact W.iret (v := (-2 : Int32)) hx hb hr (fun t ht hW => ⟨⟨(-2 : Int32), (), rfl, ⟨rfl, trivial⟩, by rw [ht]; exact hP, hD⟩, hS.F ht⟩) hS.2.2 dX8_must_95
    · have k_12 : u_9.1 = (-2 : Int32) := c_11
      have h := co_t k_12 h
      refine lv_bipush (v := (-2 : Int32)) hx hb dX8_must_57 (by decide) ?_
      have h := Option.some.inj h
      subst h
      subst hQ
      exact W.iret (v := (-2 : Int32)) hx hb hr (fun t ht hW => ⟨⟨(-2 : Int32), (), rfl, ⟨rfl, trivial⟩, by rw [ht]; exact hP, hD⟩, hS.F ht⟩) hS.2.2 dX8_must_59
  · have k_8 : ¬ (u_5.1 = true) := (kx_z c_7)
    have h := co_f k_8 h
    refine lv_iconst (v := (0 : Int32)) hx hb dX8_must_27 (by decide) ?_
    have h := Option.some.inj h
    subst h
    subst hQ
    exact W.iret (v := (0 : Int32)) hx hb hr (fun t ht hW => ⟨⟨(0 : Int32), (), rfl, ⟨rfl, trivial⟩, by rw [ht]; exact hP, hD⟩, hS.F ht⟩) hS.2.2 dX8_must_28
abbrev S_X8_isGate : Type := (Int32 × Int32) ⊕ (Int32 × Int32 × Bool × Int32)
noncomputable def b_X8_isGate_6 (f0_clauses : Int32) (n0_cYes : Nat) (h0_cYes : Nat → Int64) (n0_cNo : Nat) (h0_cNo : Nat → Int64) (x1 : Int64) (x3 : Int32) (x4 : Int32) (x5 : Int32) : Option (Bool) ⊕ S_X8_isGate :=
  cif (f0_clauses ≤ x5)
    (sbd (D_X8_bits x1) (fun u_3 =>
      cif (x4 = ((1 : Int32) <<< ((u_3 - (1 : Int32)) &&& 31)))
        (.inl (some true))
        (.inl (some false))))
    (cif (vp_in x5 n0_cYes)
      (cif (vp_in x5 n0_cNo)
        (cif (((h0_cYes x5.toNatClampNeg) ||| (h0_cNo x5.toNatClampNeg)) = x1)
          (cif (vp_in x5 n0_cNo)
            (sbd (D_X8_parity (h0_cNo x5.toNatClampNeg)) (fun u_12 =>
              cif (u_12 = x3)
                (.inr (.inr (x4, x5, false, (0 : Int32))))
                (.inr (.inr (x4, x5, true, (0 : Int32))))))
            (.inl none))
          (.inr (.inr (x4, x5, false, (0 : Int32)))))
        (.inl none))
      (.inl none))
noncomputable def b_X8_isGate_59 (f0_clauses : Int32) (n0_cYes : Nat) (h0_cYes : Nat → Int64) (n0_cNo : Nat) (h0_cNo : Nat → Int64) (x1 : Int64) (x3 : Int32) (x4 : Int32) (x5 : Int32) (x6 : Bool) (x7 : Int32) : Option (Bool) ⊕ S_X8_isGate :=
  cif (x5 ≤ x7)
    (cif (x6 = true)
      (.inr (.inl (x4 + (1 : Int32), x5 + (1 : Int32))))
      (.inr (.inl (x4 + (0 : Int32), x5 + (1 : Int32)))))
    (cif (x6 = true)
      (cif (vp_in x7 n0_cYes)
        (cif (vp_in x5 n0_cYes)
          (cif ((h0_cYes x7.toNatClampNeg) = (h0_cYes x5.toNatClampNeg))
            (cif (vp_in x7 n0_cNo)
              (cif (vp_in x5 n0_cNo)
                (cif ((h0_cNo x7.toNatClampNeg) = (h0_cNo x5.toNatClampNeg))
                  (.inr (.inr (x4, x5, false, x7 + (1 : Int32))))
                  (.inr (.inr (x4, x5, true, x7 + (1 : Int32)))))
                (.inl none))
              (.inl none))
            (.inr (.inr (x4, x5, true, x7 + (1 : Int32)))))
          (.inl none))
        (.inl none))
      (.inr (.inl (x4 + (0 : Int32), x5 + (1 : Int32)))))
noncomputable def st_X8_isGate (f0_clauses : Int32) (n0_cYes : Nat) (h0_cYes : Nat → Int64) (n0_cNo : Nat) (h0_cNo : Nat → Int64) (x1 : Int64) (x3 : Int32) : S_X8_isGate → Option (Bool) ⊕ S_X8_isGate := fun x => match x with
  | .inl (x4, x5) => b_X8_isGate_6 f0_clauses n0_cYes h0_cYes n0_cNo h0_cNo x1 x3 x4 x5
  | .inr (x4, x5, x6, x7) => b_X8_isGate_59 f0_clauses n0_cYes h0_cYes n0_cNo h0_cNo x1 x3 x4 x5 x6 x7
noncomputable def L_X8_isGate_6 (f0_clauses : Int32) (n0_cYes : Nat) (h0_cYes : Nat → Int64) (n0_cNo : Nat) (h0_cNo : Nat → Int64) (x1 : Int64) (x3 : Int32) (x4 : Int32) (x5 : Int32) : Option (Bool) := runw (st_X8_isGate f0_clauses n0_cYes h0_cYes n0_cNo h0_cNo x1 x3) (.inl (x4, x5))
noncomputable def L_X8_isGate_59 (f0_clauses : Int32) (n0_cYes : Nat) (h0_cYes : Nat → Int64) (n0_cNo : Nat) (h0_cNo : Nat → Int64) (x1 : Int64) (x3 : Int32) (x4 : Int32) (x5 : Int32) (x6 : Bool) (x7 : Int32) : Option (Bool) := runw (st_X8_isGate f0_clauses n0_cYes h0_cYes n0_cNo h0_cNo x1 x3) (.inr (x4, x5, x6, x7))
theorem E_X8_isGate_6 (f0_clauses : Int32) (n0_cYes : Nat) (h0_cYes : Nat → Int64) (n0_cNo : Nat) (h0_cNo : Nat → Int64) (x1 : Int64) (x3 : Int32) (x4 : Int32) (x5 : Int32) : L_X8_isGate_6 f0_clauses n0_cYes h0_cYes n0_cNo h0_cNo x1 x3 x4 x5 =
    cif (f0_clauses ≤ x5)
      (Option.bind (D_X8_bits x1) (fun u_3 =>
        cif (x4 = ((1 : Int32) <<< ((u_3 - (1 : Int32)) &&& 31)))
          (some true)
          (some false)))
      (cif (vp_in x5 n0_cYes)
        (cif (vp_in x5 n0_cNo)
          (cif (((h0_cYes x5.toNatClampNeg) ||| (h0_cNo x5.toNatClampNeg)) = x1)
            (cif (vp_in x5 n0_cNo)
              (Option.bind (D_X8_parity (h0_cNo x5.toNatClampNeg)) (fun u_12 =>
                cif (u_12 = x3)
                  (L_X8_isGate_59 f0_clauses n0_cYes h0_cYes n0_cNo h0_cNo x1 x3 x4 x5 false (0 : Int32))
                  (L_X8_isGate_59 f0_clauses n0_cYes h0_cYes n0_cNo h0_cNo x1 x3 x4 x5 true (0 : Int32))))
              (none))
            (L_X8_isGate_59 f0_clauses n0_cYes h0_cYes n0_cNo h0_cNo x1 x3 x4 x5 false (0 : Int32)))
          (none))
        (none)) := by
  show runw (st_X8_isGate f0_clauses n0_cYes h0_cYes n0_cNo h0_cNo x1 x3) (.inl (x4, x5)) = _
  rw [runw_eq]
  show run1 _ (b_X8_isGate_6 f0_clauses n0_cYes h0_cYes n0_cNo h0_cNo x1 x3 x4 x5) = _
  simp only [b_X8_isGate_6, run1_cif, run1_sbd, run1_inl, run1_inr]
  try rfl
theorem E_X8_isGate_59 (f0_clauses : Int32) (n0_cYes : Nat) (h0_cYes : Nat → Int64) (n0_cNo : Nat) (h0_cNo : Nat → Int64) (x1 : Int64) (x3 : Int32) (x4 : Int32) (x5 : Int32) (x6 : Bool) (x7 : Int32) : L_X8_isGate_59 f0_clauses n0_cYes h0_cYes n0_cNo h0_cNo x1 x3 x4 x5 x6 x7 =
    cif (x5 ≤ x7)
      (cif (x6 = true)
        (L_X8_isGate_6 f0_clauses n0_cYes h0_cYes n0_cNo h0_cNo x1 x3 (x4 + (1 : Int32)) (x5 + (1 : Int32)))
        (L_X8_isGate_6 f0_clauses n0_cYes h0_cYes n0_cNo h0_cNo x1 x3 (x4 + (0 : Int32)) (x5 + (1 : Int32))))
      (cif (x6 = true)
        (cif (vp_in x7 n0_cYes)
          (cif (vp_in x5 n0_cYes)
            (cif ((h0_cYes x7.toNatClampNeg) = (h0_cYes x5.toNatClampNeg))
              (cif (vp_in x7 n0_cNo)
                (cif (vp_in x5 n0_cNo)
                  (cif ((h0_cNo x7.toNatClampNeg) = (h0_cNo x5.toNatClampNeg))
                    (L_X8_isGate_59 f0_clauses n0_cYes h0_cYes n0_cNo h0_cNo x1 x3 x4 x5 false (x7 + (1 : Int32)))
                    (L_X8_isGate_59 f0_clauses n0_cYes h0_cYes n0_cNo h0_cNo x1 x3 x4 x5 true (x7 + (1 : Int32))))
                  (none))
                (none))
              (L_X8_isGate_59 f0_clauses n0_cYes h0_cYes n0_cNo h0_cNo x1 x3 x4 x5 true (x7 + (1 : Int32))))
            (none))
          (none))
        (L_X8_isGate_6 f0_clauses n0_cYes h0_cYes n0_cNo h0_cNo x1 x3 (x4 + (0 : Int32)) (x5 + (1 : Int32)))) := by
  show runw (st_X8_isGate f0_clauses n0_cYes h0_cYes n0_cNo h0_cNo x1 x3) (.inr (x4, x5, x6, x7)) = _
  rw [runw_eq]
  show run1 _ (b_X8_isGate_59 f0_clauses n0_cYes h0_cYes n0_cNo h0_cNo x1 x3 x4 x5 x6 x7) = _
  simp only [b_X8_isGate_59, run1_cif, run1_sbd, run1_inl, run1_inr]
  try rfl
noncomputable def D_X8_isGate (f0_clauses : Int32) (n0_cYes : Nat) (h0_cYes : Nat → Int64) (n0_cNo : Nat) (h0_cNo : Nat → Int64) (x1 : Int64) (x3 : Int32) : Option (Bool) :=
  L_X8_isGate_6 f0_clauses n0_cYes h0_cYes n0_cNo h0_cNo x1 x3 (0 : Int32) (0 : Int32)
theorem in_X8_isGate_X8 : ∀ w ∈ wsX80, w ∈ wsX8_isGate := by decide +kernel
theorem lk_0_X8_isGate : Cond.fieldLink RX8 105 "ParityClausesModel" "clauses" "I" ∈ wsX8_isGate := by decide +kernel
theorem lk_1_X8_isGate : Cond.fieldLink RX8 17 "ParityClausesModel" "cYes" "[J" ∈ wsX8_isGate := by decide +kernel
theorem lk_2_X8_isGate : Cond.fieldLink RX8 20 "ParityClausesModel" "cNo" "[J" ∈ wsX8_isGate := by decide +kernel
abbrev rm_X8_isGate : Room := { frames := 2, cells := 0, slots := 0, locals := 44 }
set_option maxHeartbeats 4000000 in
set_option maxRecDepth 100000 in
theorem cm_X8_isGate (l : Launch) (D : va_G) (cI cL : ClassId) (q0 q0_cYes q0_cNo : Nat) (n0_cYes n0_cNo : Nat) (f0_clauses : Int32) (h0_cYes : Nat → Int64) (h0_cNo : Nat → Int64) (v0_thrown v0_n v0_equations v0_eSet v0_eRight v0_levels v0_levelEquations v0_levelClauses v0_tape v0_tapeSize v0_faultIs v0_faultAt v0_at v0_newEquations v0_newClauses v0_newSet v0_newRight v0_newYes v0_newNo v0_lineYes v0_lineNo v0_rowCount v0_rSet v0_rRight v0_isImpossible v0_sumSet v0_sumOf v0_sumRight v0_empty v0_empties v0_taken v0_ones v0_waitTaken v0_waitOnes v0_nodeCount v0_lastModel v0_modelCount v0_modelIs v0_gSet v0_gateCount : Value) (x1 : Int64) (x3 : Int32) (r0 : Bool) (h0 : D_X8_isGate f0_clauses n0_cYes h0_cYes n0_cNo h0_cNo x1 x3 = some r0) (sz : Nat) : Met l yX8_isGate wsX8_isGate rm_X8_isGate (PcW D cI cL [.ref q0, .long x1, .int x3] [(q0, .inr (8, [v0_thrown, v0_n, v0_equations, v0_eSet, v0_eRight, .int f0_clauses, .ref q0_cYes, .ref q0_cNo, v0_levels, v0_levelEquations, v0_levelClauses, v0_tape, v0_tapeSize, v0_faultIs, v0_faultAt, v0_at, v0_newEquations, v0_newClauses, v0_newSet, v0_newRight, v0_newYes, v0_newNo, v0_lineYes, v0_lineNo, v0_rowCount, v0_rSet, v0_rRight, v0_isImpossible, v0_sumSet, v0_sumOf, v0_sumRight, v0_empty, v0_empties, v0_taken, v0_ones, v0_waitTaken, v0_waitOnes, v0_nodeCount, v0_lastModel, v0_modelCount, v0_modelIs, v0_gSet, v0_gateCount])), (q0_cYes, .inl (cL, n0_cYes, .inr (.inl h0_cYes))), (q0_cNo, .inl (cL, n0_cNo, .inr (.inl h0_cNo)))] sz) (QiW D [(q0, .inr (8, [v0_thrown, v0_n, v0_equations, v0_eSet, v0_eRight, .int f0_clauses, .ref q0_cYes, .ref q0_cNo, v0_levels, v0_levelEquations, v0_levelClauses, v0_tape, v0_tapeSize, v0_faultIs, v0_faultAt, v0_at, v0_newEquations, v0_newClauses, v0_newSet, v0_newRight, v0_newYes, v0_newNo, v0_lineYes, v0_lineNo, v0_rowCount, v0_rSet, v0_rRight, v0_isImpossible, v0_sumSet, v0_sumOf, v0_sumRight, v0_empty, v0_empties, v0_taken, v0_ones, v0_waitTaken, v0_waitOnes, v0_nodeCount, v0_lastModel, v0_modelCount, v0_modelIs, v0_gSet, v0_gateCount])), (q0_cYes, .inl (cL, n0_cYes, .inr (.inl h0_cYes))), (q0_cNo, .inl (cL, n0_cNo, .inr (.inl h0_cNo)))] (bI r0) (fun _ : Unit => [(q0, .inr (8, [v0_thrown, v0_n, v0_equations, v0_eSet, v0_eRight, .int f0_clauses, .ref q0_cYes, .ref q0_cNo, v0_levels, v0_levelEquations, v0_levelClauses, v0_tape, v0_tapeSize, v0_faultIs, v0_faultAt, v0_at, v0_newEquations, v0_newClauses, v0_newSet, v0_newRight, v0_newYes, v0_newNo, v0_lineYes, v0_lineNo, v0_rowCount, v0_rSet, v0_rRight, v0_isImpossible, v0_sumSet, v0_sumOf, v0_sumRight, v0_empty, v0_empties, v0_taken, v0_ones, v0_waitTaken, v0_waitOnes, v0_nodeCount, v0_lastModel, v0_modelCount, v0_modelIs, v0_gSet, v0_gateCount])), (q0_cYes, .inl (cL, n0_cYes, .inr (.inl h0_cYes))), (q0_cNo, .inl (cL, n0_cNo, .inr (.inl h0_cNo)))]) tU sz) 0 0 (va_A [(q0, .inr (8, [v0_thrown, v0_n, v0_equations, v0_eSet, v0_eRight, .int f0_clauses, .ref q0_cYes, .ref q0_cNo, v0_levels, v0_levelEquations, v0_levelClauses, v0_tape, v0_tapeSize, v0_faultIs, v0_faultAt, v0_at, v0_newEquations, v0_newClauses, v0_newSet, v0_newRight, v0_newYes, v0_newNo, v0_lineYes, v0_lineNo, v0_rowCount, v0_rSet, v0_rRight, v0_isImpossible, v0_sumSet, v0_sumOf, v0_sumRight, v0_empty, v0_empties, v0_taken, v0_ones, v0_waitTaken, v0_waitOnes, v0_nodeCount, v0_lastModel, v0_modelCount, v0_modelIs, v0_gSet, v0_gateCount])), (q0_cYes, .inl (cL, n0_cYes, .inr (.inl h0_cYes))), (q0_cNo, .inl (cL, n0_cNo, .inr (.inl h0_cNo)))] sz) := by
  refine Met.ofW (cc := cX8_isGate) (maxL := 8) (ret := (some .boolean)) (by decide) rfl ?_
  intro p e s m args below meth c s₁ B hml hv
  obtain ⟨hargs, hsz, hP, hEV, hD0⟩ := hv
  have hx := B.exec
  have hb := B.bytes
  have hr := B.returns
  have hts := atoms_spec (ws := wsX8_isGate) B.pre
  have hown : s.vm.findClass RX8 = some m.cls := findClass_of_methodNamed B.named
  have hlocks := B.notSynchronized
  have hK := hEV.K
  have lk_0 := hts _ lk_0_X8_isGate
  have lk_1 := hts _ lk_1_X8_isGate
  have lk_2 := hts _ lk_2_X8_isGate
  subst hsz
  unfold QiW PoW
  have hD := hD0.self (sz := s.heap.size)
  generalize hAe : va_A [(q0, .inr (8, [v0_thrown, v0_n, v0_equations, v0_eSet, v0_eRight, .int f0_clauses, .ref q0_cYes, .ref q0_cNo, v0_levels, v0_levelEquations, v0_levelClauses, v0_tape, v0_tapeSize, v0_faultIs, v0_faultAt, v0_at, v0_newEquations, v0_newClauses, v0_newSet, v0_newRight, v0_newYes, v0_newNo, v0_lineYes, v0_lineNo, v0_rowCount, v0_rSet, v0_rRight, v0_isImpossible, v0_sumSet, v0_sumOf, v0_sumRight, v0_empty, v0_empties, v0_taken, v0_ones, v0_waitTaken, v0_waitOnes, v0_nodeCount, v0_lastModel, v0_modelCount, v0_modelIs, v0_gSet, v0_gateCount])), (q0_cYes, .inl (cL, n0_cYes, .inr (.inl h0_cYes))), (q0_cNo, .inl (cL, n0_cNo, .inr (.inl h0_cNo)))] s.heap.size = A at hD ⊢
  have hA : ∀ q : Nat, s.heap.size ≤ q → A q := fun q h => by rw [← hAe]; exact Or.inr h
  have hS : va_S A s.heap s.heap [] := va_S.rf
  have hent : entryFrame m args 8 = entryFrame m ([.ref q0, .long x1, .int x3] : List Value).toArray 8 := by rw [hargs]
  rw [hent]
  refine kx_Q (fun Q hQ => ?_)
  have hl := lv_entry ([.ref q0, .long x1, .int x3]) (n := 8) (Nat.le_of_ble_eq_true rfl)
  rw [lg_entry_eq]
  generalize (lg_sl ([.ref q0, .long x1, .int x3]) ++ List.replicate (8 - (lg_sl ([.ref q0, .long x1, .int x3])).length) Slot.unset).toArray = ls at hl ⊢
  have hl : lv_has ls 8 [(0, .ref q0), (1, .long x1), (3, .int x3)] := hl
  have hloop : ∀ n9 : Nat, (∀ (x4 : Int32) (x5 : Int32), iter (st_X8_isGate f0_clauses n0_cYes h0_cYes n0_cNo h0_cNo x1 x3) n9 (.inl (x4, x5)) = some r0 → ∀ (H : Heap) (locs : List Loc) (ls : Array Slot), va_P D vwCl [(q0, .inr (8, [v0_thrown, v0_n, v0_equations, v0_eSet, v0_eRight, .int f0_clauses, .ref q0_cYes, .ref q0_cNo, v0_levels, v0_levelEquations, v0_levelClauses, v0_tape, v0_tapeSize, v0_faultIs, v0_faultAt, v0_at, v0_newEquations, v0_newClauses, v0_newSet, v0_newRight, v0_newYes, v0_newNo, v0_lineYes, v0_lineNo, v0_rowCount, v0_rSet, v0_rRight, v0_isImpossible, v0_sumSet, v0_sumOf, v0_sumRight, v0_empty, v0_empties, v0_taken, v0_ones, v0_waitTaken, v0_waitOnes, v0_nodeCount, v0_lastModel, v0_modelCount, v0_modelIs, v0_gSet, v0_gateCount])), (q0_cYes, .inl (cL, n0_cYes, .inr (.inl h0_cYes))), (q0_cNo, .inl (cL, n0_cNo, .inr (.inl h0_cNo)))] H → va_D A [(q0, .inr (8, [v0_thrown, v0_n, v0_equations, v0_eSet, v0_eRight, .int f0_clauses, .ref q0_cYes, .ref q0_cNo, v0_levels, v0_levelEquations, v0_levelClauses, v0_tape, v0_tapeSize, v0_faultIs, v0_faultAt, v0_at, v0_newEquations, v0_newClauses, v0_newSet, v0_newRight, v0_newYes, v0_newNo, v0_lineYes, v0_lineNo, v0_rowCount, v0_rSet, v0_rRight, v0_isImpossible, v0_sumSet, v0_sumOf, v0_sumRight, v0_empty, v0_empties, v0_taken, v0_ones, v0_waitTaken, v0_waitOnes, v0_nodeCount, v0_lastModel, v0_modelCount, v0_modelIs, v0_gSet, v0_gateCount])), (q0_cYes, .inl (cL, n0_cYes, .inr (.inl h0_cYes))), (q0_cNo, .inl (cL, n0_cNo, .inr (.inl h0_cNo)))] → va_S A s.heap H locs → lv_has ls 8 [(0, .ref q0), (1, .long x1), (3, .int x3), (4, .int x4), (5, .int x5)] → W p l e (headSpec wsX8_isGate rm_X8_isGate).room s m args below meth c H locs 0 0 Q (F0 m 6 ls [])) ∧ (∀ (x4 : Int32) (x5 : Int32) (x6 : Bool) (x7 : Int32), iter (st_X8_isGate f0_clauses n0_cYes h0_cYes n0_cNo h0_cNo x1 x3) n9 (.inr (x4, x5, x6, x7)) = some r0 → ∀ (H : Heap) (locs : List Loc) (ls : Array Slot), va_P D vwCl [(q0, .inr (8, [v0_thrown, v0_n, v0_equations, v0_eSet, v0_eRight, .int f0_clauses, .ref q0_cYes, .ref q0_cNo, v0_levels, v0_levelEquations, v0_levelClauses, v0_tape, v0_tapeSize, v0_faultIs, v0_faultAt, v0_at, v0_newEquations, v0_newClauses, v0_newSet, v0_newRight, v0_newYes, v0_newNo, v0_lineYes, v0_lineNo, v0_rowCount, v0_rSet, v0_rRight, v0_isImpossible, v0_sumSet, v0_sumOf, v0_sumRight, v0_empty, v0_empties, v0_taken, v0_ones, v0_waitTaken, v0_waitOnes, v0_nodeCount, v0_lastModel, v0_modelCount, v0_modelIs, v0_gSet, v0_gateCount])), (q0_cYes, .inl (cL, n0_cYes, .inr (.inl h0_cYes))), (q0_cNo, .inl (cL, n0_cNo, .inr (.inl h0_cNo)))] H → va_D A [(q0, .inr (8, [v0_thrown, v0_n, v0_equations, v0_eSet, v0_eRight, .int f0_clauses, .ref q0_cYes, .ref q0_cNo, v0_levels, v0_levelEquations, v0_levelClauses, v0_tape, v0_tapeSize, v0_faultIs, v0_faultAt, v0_at, v0_newEquations, v0_newClauses, v0_newSet, v0_newRight, v0_newYes, v0_newNo, v0_lineYes, v0_lineNo, v0_rowCount, v0_rSet, v0_rRight, v0_isImpossible, v0_sumSet, v0_sumOf, v0_sumRight, v0_empty, v0_empties, v0_taken, v0_ones, v0_waitTaken, v0_waitOnes, v0_nodeCount, v0_lastModel, v0_modelCount, v0_modelIs, v0_gSet, v0_gateCount])), (q0_cYes, .inl (cL, n0_cYes, .inr (.inl h0_cYes))), (q0_cNo, .inl (cL, n0_cNo, .inr (.inl h0_cNo)))] → va_S A s.heap H locs → lv_has ls 8 [(0, .ref q0), (1, .long x1), (3, .int x3), (4, .int x4), (5, .int x5), (6, .int (bI x6)), (7, .int x7)] → W p l e (headSpec wsX8_isGate rm_X8_isGate).room s m args below meth c H locs 0 0 Q (F0 m 59 ls [])) := by
    intro n9
    induction n9 with
    | zero => exact ⟨fun _ _ h => nomatch h, fun _ _ _ _ h => nomatch h⟩
    | succ n9 ih =>
      refine ⟨?_, ?_⟩
      · intro x4 x5 h H locs ls hP hD hS hl
        have h : run1 (iter (st_X8_isGate f0_clauses n0_cYes h0_cYes n0_cNo h0_cNo x1 x3) n9) (b_X8_isGate_6 f0_clauses n0_cYes h0_cYes n0_cNo h0_cNo x1 x3 x4 x5) = some r0 := h
        unfold b_X8_isGate_6 at h
        refine lv_iload hx hb dX8_isGate_6 (lv_at hl 4 rfl) ?_
        refine lv_aload_n hx hb dX8_isGate_8 rfl (lv_at hl 0 rfl) ?_
        refine va_get (D := D) (ci := 8) (v := .int f0_clauses) (C := RX8) (T := TX8) (N := 43) hx hb hts in_X8_isGate_X8 hown hK hP 0 rfl rfl 5 (by decide) lk_0 (fun _ h9 => h9) rfl dX8_isGate_9 ?_
        refine lv_icmp_ge (tgt := 141) hx hb dX8_isGate_12 (by decide) (fun c_1 => ?_) (fun c_1 => ?_)
        · have k_2 : f0_clauses ≤ x5 := c_1
          have h := cw_t k_2 h
          refine lv_iload hx hb dX8_isGate_141 (lv_at hl 3 rfl) ?_
          refine lv_iconst (v := (1 : Int32)) hx hb dX8_isGate_143 (by decide) ?_
          refine lv_lload_n hx hb dX8_isGate_144 rfl (lv_at hl 1 rfl) ?_
          obtain ⟨u_3, hu_4, h⟩ := cw_b h
          refine kx_i (ws' := fun _ => [(q0, .inr (8, [v0_thrown, v0_n, v0_equations, v0_eSet, v0_eRight, .int f0_clauses, .ref q0_cYes, .ref q0_cNo, v0_levels, v0_levelEquations, v0_levelClauses, v0_tape, v0_tapeSize, v0_faultIs, v0_faultAt, v0_at, v0_newEquations, v0_newClauses, v0_newSet, v0_newRight, v0_newYes, v0_newNo, v0_lineYes, v0_lineNo, v0_rowCount, v0_rSet, v0_rRight, v0_isImpossible, v0_sumSet, v0_sumOf, v0_sumRight, v0_empty, v0_empties, v0_taken, v0_ones, v0_waitTaken, v0_waitOnes, v0_nodeCount, v0_lastModel, v0_modelCount, v0_modelIs, v0_gSet, v0_gateCount])), (q0_cYes, .inl (cL, n0_cYes, .inr (.inl h0_cYes))), (q0_cNo, .inl (cL, n0_cNo, .inr (.inl h0_cNo)))]) hP hD hS hA [] [0, 1, 2] [0, 1, 2] rfl (by decide) (by decide) (by decide) (fun _ => rfl) (by decide) (va_runS (As := [.long x1]) (rest := [.int (1 : Int32), .int x4]) ⟨hx, hb, hml, hown, hts⟩ (cm_X8_bits l D cI cL (x0 := x1) (r0 := u_3) (h0 := hu_4) (sz := H.size)) (va_cwS 1 hts gX8_isGate_X8_bits rfl rfl rfl (by decide +kernel) ⟨Nat.le_of_ble_eq_true rfl, Nat.le_of_ble_eq_true rfl⟩) (kx_preS hEV hP hD [] rfl (by decide)) rfl rfl hl.1 rfl (lv_room (Nat.le_of_ble_eq_true rfl)) dX8_isGate_145 ⟨Nat.le_refl _, Nat.le_refl _⟩) (fun _ H locs _ hP hD hS => ?_)
          refine lv_iconst (v := (1 : Int32)) hx hb dX8_isGate_148 (by decide) ?_
          refine lv_isub hx hb dX8_isGate_149 ?_
          refine lv_ishl hx hb dX8_isGate_150 ?_
          refine lv_icmp_ne (tgt := 158) hx hb dX8_isGate_151 (by decide) (fun c_5 => ?_) (fun c_5 => ?_)
          · have k_6 : ¬ (x4 = ((1 : Int32) <<< ((u_3 - (1 : Int32)) &&& 31))) := c_5
            have h := cw_f k_6 h
            refine lv_iconst (v := (0 : Int32)) hx hb dX8_isGate_158 (by decide) ?_
            have h := Option.some.inj h
            subst h
            subst hQ
            exact W.zret (v := bI false) hx hb hr (bI_n false) (fun t ht hW => ⟨⟨bI false, (), rfl, ⟨rfl, trivial⟩, by rw [ht]; exact hP, hD⟩, hS.F ht⟩) hS.2.2 dX8_isGate_159
          · have k_6 : x4 = ((1 : Int32) <<< ((u_3 - (1 : Int32)) &&& 31)) := c_5
            have h := cw_t k_6 h
            refine lv_iconst (v := (1 : Int32)) hx hb dX8_isGate_154 (by decide) ?_
            refine lv_goto (tgt := 159) hx hb dX8_isGate_155 (by decide) ?_
            have h := Option.some.inj h
            subst h
            subst hQ
            exact W.zret (v := bI true) hx hb hr (bI_n true) (fun t ht hW => ⟨⟨bI true, (), rfl, ⟨rfl, trivial⟩, by rw [ht]; exact hP, hD⟩, hS.F ht⟩) hS.2.2 dX8_isGate_159
        · have k_2 : ¬ (f0_clauses ≤ x5) := c_1
          have h := cw_f k_2 h
          refine lv_aload_n hx hb dX8_isGate_15 rfl (lv_at hl 0 rfl) ?_
          refine va_get (D := D) (ci := 8) (v := .ref q0_cYes) (C := RX8) (T := TX8) (N := 43) hx hb hts in_X8_isGate_X8 hown hK hP 0 rfl rfl 6 (by decide) lk_1 (fun _ h9 => h9) rfl dX8_isGate_16 ?_
          refine lv_iload hx hb dX8_isGate_19 (lv_at hl 4 rfl) ?_
          obtain ⟨b_7, h⟩ := cw_i h
          refine va_lald hx hb hK hP 1 1 rfl rfl b_7 dX8_isGate_21 ?_
          refine lv_aload_n hx hb dX8_isGate_22 rfl (lv_at hl 0 rfl) ?_
          refine va_get (D := D) (ci := 8) (v := .ref q0_cNo) (C := RX8) (T := TX8) (N := 43) hx hb hts in_X8_isGate_X8 hown hK hP 0 rfl rfl 7 (by decide) lk_2 (fun _ h9 => h9) rfl dX8_isGate_23 ?_
          refine lv_iload hx hb dX8_isGate_26 (lv_at hl 4 rfl) ?_
          obtain ⟨b_8, h⟩ := cw_i h
          refine va_lald hx hb hK hP 2 1 rfl rfl b_8 dX8_isGate_28 ?_
          refine lv_lor hx hb dX8_isGate_29 ?_
          refine lv_lload_n hx hb dX8_isGate_30 rfl (lv_at hl 1 rfl) ?_
          refine W.lcmp hx hb dX8_isGate_31 ?_
          refine lv_if_ne (tgt := 53) hx hb dX8_isGate_32 (by decide) (fun c_9 => ?_) (fun c_9 => ?_)
          · have k_10 : ¬ (((h0_cYes x5.toNatClampNeg) ||| (h0_cNo x5.toNatClampNeg)) = x1) := (fun z9 => c_9 ((lg_cmp_eq _ _).mpr z9))
            have h := cw_f k_10 h
            refine lv_iconst (v := (0 : Int32)) hx hb dX8_isGate_53 (by decide) ?_
            refine lv_istore (lv' := [(6, .int (0 : Int32)), (0, .ref q0), (1, .long x1), (3, .int x3), (4, .int x4), (5, .int x5)]) hx hb dX8_isGate_54 hl (by decide) rfl (fun ls hl => ?_)
            refine lv_iconst (v := (0 : Int32)) hx hb dX8_isGate_56 (by decide) ?_
            refine lv_istore (lv' := [(7, .int (0 : Int32)), (6, .int (0 : Int32)), (0, .ref q0), (1, .long x1), (3, .int x3), (4, .int x4), (5, .int x5)]) hx hb dX8_isGate_57 hl (by decide) rfl (fun ls hl => ?_)
            exact ih.2 _ _ _ _ h _ _ _ hP hD hS (lv_sub hl [2, 3, 4, 5, 6, 1, 0] rfl)
          · have k_10 : ((h0_cYes x5.toNatClampNeg) ||| (h0_cNo x5.toNatClampNeg)) = x1 := ((lg_cmp_eq _ _).mp c_9)
            have h := cw_t k_10 h
            refine lv_aload_n hx hb dX8_isGate_35 rfl (lv_at hl 0 rfl) ?_
            refine va_get (D := D) (ci := 8) (v := .ref q0_cNo) (C := RX8) (T := TX8) (N := 43) hx hb hts in_X8_isGate_X8 hown hK hP 0 rfl rfl 7 (by decide) lk_2 (fun _ h9 => h9) rfl dX8_isGate_36 ?_
            refine lv_iload hx hb dX8_isGate_39 (lv_at hl 4 rfl) ?_
            obtain ⟨b_11, h⟩ := cw_i h
            refine va_lald hx hb hK hP 2 1 rfl rfl b_11 dX8_isGate_41 ?_
            obtain ⟨u_12, hu_13, h⟩ := cw_b h
            refine kx_i (ws' := fun _ => [(q0, .inr (8, [v0_thrown, v0_n, v0_equations, v0_eSet, v0_eRight, .int f0_clauses, .ref q0_cYes, .ref q0_cNo, v0_levels, v0_levelEquations, v0_levelClauses, v0_tape, v0_tapeSize, v0_faultIs, v0_faultAt, v0_at, v0_newEquations, v0_newClauses, v0_newSet, v0_newRight, v0_newYes, v0_newNo, v0_lineYes, v0_lineNo, v0_rowCount, v0_rSet, v0_rRight, v0_isImpossible, v0_sumSet, v0_sumOf, v0_sumRight, v0_empty, v0_empties, v0_taken, v0_ones, v0_waitTaken, v0_waitOnes, v0_nodeCount, v0_lastModel, v0_modelCount, v0_modelIs, v0_gSet, v0_gateCount])), (q0_cYes, .inl (cL, n0_cYes, .inr (.inl h0_cYes))), (q0_cNo, .inl (cL, n0_cNo, .inr (.inl h0_cNo)))]) hP hD hS hA [] [0, 1, 2] [0, 1, 2] rfl (by decide) (by decide) (by decide) (fun _ => rfl) (by decide) (va_runS (As := [.long (h0_cNo x5.toNatClampNeg)]) (rest := []) ⟨hx, hb, hml, hown, hts⟩ (cm_X8_parity l D cI cL (x0 := h0_cNo x5.toNatClampNeg) (r0 := u_12) (h0 := hu_13) (sz := H.size)) (va_cwS 1 hts gX8_isGate_X8_parity rfl rfl rfl (by decide +kernel) ⟨Nat.le_of_ble_eq_true rfl, Nat.le_of_ble_eq_true rfl⟩) (kx_preS hEV hP hD [] rfl (by decide)) rfl rfl hl.1 rfl (lv_room (Nat.le_of_ble_eq_true rfl)) dX8_isGate_42 ⟨Nat.le_refl _, Nat.le_refl _⟩) (fun _ H locs _ hP hD hS => ?_)
            refine lv_iload_n hx hb dX8_isGate_45 rfl (lv_at hl 2 rfl) ?_
            refine lv_icmp_eq (tgt := 53) hx hb dX8_isGate_46 (by decide) (fun c_14 => ?_) (fun c_14 => ?_)
            · have k_15 : u_12 = x3 := c_14
              have h := cw_t k_15 h
              refine lv_iconst (v := (0 : Int32)) hx hb dX8_isGate_53 (by decide) ?_
              refine lv_istore (lv' := [(6, .int (0 : Int32)), (0, .ref q0), (1, .long x1), (3, .int x3), (4, .int x4), (5, .int x5)]) hx hb dX8_isGate_54 hl (by decide) rfl (fun ls hl => ?_)
              refine lv_iconst (v := (0 : Int32)) hx hb dX8_isGate_56 (by decide) ?_
              refine lv_istore (lv' := [(7, .int (0 : Int32)), (6, .int (0 : Int32)), (0, .ref q0), (1, .long x1), (3, .int x3), (4, .int x4), (5, .int x5)]) hx hb dX8_isGate_57 hl (by decide) rfl (fun ls hl => ?_)
              exact ih.2 _ _ _ _ h _ _ _ hP hD hS (lv_sub hl [2, 3, 4, 5, 6, 1, 0] rfl)
            · have k_15 : ¬ (u_12 = x3) := c_14
              have h := cw_f k_15 h
              refine lv_iconst (v := (1 : Int32)) hx hb dX8_isGate_49 (by decide) ?_
              refine lv_goto (tgt := 54) hx hb dX8_isGate_50 (by decide) ?_
              refine lv_istore (lv' := [(6, .int (1 : Int32)), (0, .ref q0), (1, .long x1), (3, .int x3), (4, .int x4), (5, .int x5)]) hx hb dX8_isGate_54 hl (by decide) rfl (fun ls hl => ?_)
              refine lv_iconst (v := (0 : Int32)) hx hb dX8_isGate_56 (by decide) ?_
              refine lv_istore (lv' := [(7, .int (0 : Int32)), (6, .int (1 : Int32)), (0, .ref q0), (1, .long x1), (3, .int x3), (4, .int x4), (5, .int x5)]) hx hb dX8_isGate_57 hl (by decide) rfl (fun ls hl => ?_)
              exact ih.2 _ _ _ _ h _ _ _ hP hD hS (lv_sub hl [2, 3, 4, 5, 6, 1, 0] rfl)
      · intro x4 x5 x6 x7 h H locs ls hP hD hS hl
        have h : run1 (iter (st_X8_isGate f0_clauses n0_cYes h0_cYes n0_cNo h0_cNo x1 x3) n9) (b_X8_isGate_59 f0_clauses n0_cYes h0_cYes n0_cNo h0_cNo x1 x3 x4 x5 x6 x7) = some r0 := h
        unfold b_X8_isGate_59 at h
        refine lv_iload hx hb dX8_isGate_59 (lv_at hl 6 rfl) ?_
        refine lv_iload hx hb dX8_isGate_61 (lv_at hl 4 rfl) ?_
        refine lv_icmp_ge (tgt := 120) hx hb dX8_isGate_63 (by decide) (fun c_16 => ?_) (fun c_16 => ?_)
        · have k_17 : x5 ≤ x7 := c_16
          have h := cw_t k_17 h
          refine lv_iload hx hb dX8_isGate_120 (lv_at hl 3 rfl) ?_
          refine lv_iload hx hb dX8_isGate_122 (lv_at hl 5 rfl) ?_
          refine lv_if_eq (tgt := 131) hx hb dX8_isGate_124 (by decide) (fun c_18 => ?_) (fun c_18 => ?_)
          · have k_19 : ¬ (x6 = true) := (kx_z c_18)
            have h := cw_f k_19 h
            refine lv_iconst (v := (0 : Int32)) hx hb dX8_isGate_131 (by decide) ?_
            refine lv_iadd hx hb dX8_isGate_132 ?_
            refine lv_istore (lv' := [(4, .int (x4 + (0 : Int32))), (0, .ref q0), (1, .long x1), (3, .int x3), (5, .int x5), (6, .int (bI x6)), (7, .int x7)]) hx hb dX8_isGate_133 hl (by decide) rfl (fun ls hl => ?_)
            refine lv_iinc (v := x5 + (1 : Int32)) (lv' := [(5, .int (x5 + (1 : Int32))), (4, .int (x4 + (0 : Int32))), (0, .ref q0), (1, .long x1), (3, .int x3), (6, .int (bI x6)), (7, .int x7)]) hx hb dX8_isGate_135 hl (k := 4) rfl rfl (by decide) rfl (fun ls hl => ?_)
            refine lv_goto (tgt := 6) hx hb dX8_isGate_138 (by decide) ?_
            exact ih.1 _ _ h _ _ _ hP hD hS (lv_sub hl [2, 3, 4, 1, 0] rfl)
          · have k_19 : x6 = true := (kx_nz c_18)
            have h := cw_t k_19 h
            refine lv_iconst (v := (1 : Int32)) hx hb dX8_isGate_127 (by decide) ?_
            refine lv_goto (tgt := 132) hx hb dX8_isGate_128 (by decide) ?_
            refine lv_iadd hx hb dX8_isGate_132 ?_
            refine lv_istore (lv' := [(4, .int (x4 + (1 : Int32))), (0, .ref q0), (1, .long x1), (3, .int x3), (5, .int x5), (6, .int (bI x6)), (7, .int x7)]) hx hb dX8_isGate_133 hl (by decide) rfl (fun ls hl => ?_)
            refine lv_iinc (v := x5 + (1 : Int32)) (lv' := [(5, .int (x5 + (1 : Int32))), (4, .int (x4 + (1 : Int32))), (0, .ref q0), (1, .long x1), (3, .int x3), (6, .int (bI x6)), (7, .int x7)]) hx hb dX8_isGate_135 hl (k := 4) rfl rfl (by decide) rfl (fun ls hl => ?_)
            refine lv_goto (tgt := 6) hx hb dX8_isGate_138 (by decide) ?_
            exact ih.1 _ _ h _ _ _ hP hD hS (lv_sub hl [2, 3, 4, 1, 0] rfl)
        · have k_17 : ¬ (x5 ≤ x7) := c_16
          have h := cw_f k_17 h
          refine lv_iload hx hb dX8_isGate_66 (lv_at hl 5 rfl) ?_
          refine lv_if_eq (tgt := 120) hx hb dX8_isGate_68 (by decide) (fun c_20 => ?_) (fun c_20 => ?_)
          · have k_21 : ¬ (x6 = true) := (kx_z c_20)
            have h := cw_f k_21 h
            refine lv_iload hx hb dX8_isGate_120 (lv_at hl 3 rfl) ?_
            refine lv_iload hx hb dX8_isGate_122 (lv_at hl 5 rfl) ?_
            refine lv_if_eq (tgt := 131) hx hb dX8_isGate_124 (by decide) (fun c_22 => ?_) (fun c_22 => ?_)
            · refine lv_iconst (v := (0 : Int32)) hx hb dX8_isGate_131 (by decide) ?_
              refine lv_iadd hx hb dX8_isGate_132 ?_
              refine lv_istore (lv' := [(4, .int (x4 + (0 : Int32))), (0, .ref q0), (1, .long x1), (3, .int x3), (5, .int x5), (6, .int (bI x6)), (7, .int x7)]) hx hb dX8_isGate_133 hl (by decide) rfl (fun ls hl => ?_)
              refine lv_iinc (v := x5 + (1 : Int32)) (lv' := [(5, .int (x5 + (1 : Int32))), (4, .int (x4 + (0 : Int32))), (0, .ref q0), (1, .long x1), (3, .int x3), (6, .int (bI x6)), (7, .int x7)]) hx hb dX8_isGate_135 hl (k := 4) rfl rfl (by decide) rfl (fun ls hl => ?_)
              refine lv_goto (tgt := 6) hx hb dX8_isGate_138 (by decide) ?_
              exact ih.1 _ _ h _ _ _ hP hD hS (lv_sub hl [2, 3, 4, 1, 0] rfl)
            · exact absurd (kx_nz c_22) k_21
          · have k_21 : x6 = true := (kx_nz c_20)
            have h := cw_t k_21 h
            refine lv_aload_n hx hb dX8_isGate_71 rfl (lv_at hl 0 rfl) ?_
            refine va_get (D := D) (ci := 8) (v := .ref q0_cYes) (C := RX8) (T := TX8) (N := 43) hx hb hts in_X8_isGate_X8 hown hK hP 0 rfl rfl 6 (by decide) lk_1 (fun _ h9 => h9) rfl dX8_isGate_72 ?_
            refine lv_iload hx hb dX8_isGate_75 (lv_at hl 6 rfl) ?_
            obtain ⟨b_23, h⟩ := cw_i h
            refine va_lald hx hb hK hP 1 1 rfl rfl b_23 dX8_isGate_77 ?_
            refine lv_aload_n hx hb dX8_isGate_78 rfl (lv_at hl 0 rfl) ?_
            refine va_get (D := D) (ci := 8) (v := .ref q0_cYes) (C := RX8) (T := TX8) (N := 43) hx hb hts in_X8_isGate_X8 hown hK hP 0 rfl rfl 6 (by decide) lk_1 (fun _ h9 => h9) rfl dX8_isGate_79 ?_
            refine lv_iload hx hb dX8_isGate_82 (lv_at hl 4 rfl) ?_
            obtain ⟨b_24, h⟩ := cw_i h
            refine va_lald hx hb hK hP 1 1 rfl rfl b_24 dX8_isGate_84 ?_
            refine W.lcmp hx hb dX8_isGate_85 ?_
            refine lv_if_ne (tgt := 107) hx hb dX8_isGate_86 (by decide) (fun c_25 => ?_) (fun c_25 => ?_)
            · have k_26 : ¬ ((h0_cYes x7.toNatClampNeg) = (h0_cYes x5.toNatClampNeg)) := (fun z9 => c_25 ((lg_cmp_eq _ _).mpr z9))
              have h := cw_f k_26 h
              refine lv_iconst (v := (1 : Int32)) hx hb dX8_isGate_107 (by decide) ?_
              refine lv_goto (tgt := 112) hx hb dX8_isGate_108 (by decide) ?_
              refine lv_istore (lv' := [(6, .int (1 : Int32)), (0, .ref q0), (1, .long x1), (3, .int x3), (4, .int x4), (5, .int x5), (7, .int x7)]) hx hb dX8_isGate_112 hl (by decide) rfl (fun ls hl => ?_)
              refine lv_iinc (v := x7 + (1 : Int32)) (lv' := [(7, .int (x7 + (1 : Int32))), (6, .int (1 : Int32)), (0, .ref q0), (1, .long x1), (3, .int x3), (4, .int x4), (5, .int x5)]) hx hb dX8_isGate_114 hl (k := 6) rfl rfl (by decide) rfl (fun ls hl => ?_)
              refine lv_goto (tgt := 59) hx hb dX8_isGate_117 (by decide) ?_
              exact ih.2 _ _ _ _ h _ _ _ hP hD hS (lv_sub hl [2, 3, 4, 5, 6, 1, 0] rfl)
            · have k_26 : (h0_cYes x7.toNatClampNeg) = (h0_cYes x5.toNatClampNeg) := ((lg_cmp_eq _ _).mp c_25)
              have h := cw_t k_26 h
              refine lv_aload_n hx hb dX8_isGate_89 rfl (lv_at hl 0 rfl) ?_
              refine va_get (D := D) (ci := 8) (v := .ref q0_cNo) (C := RX8) (T := TX8) (N := 43) hx hb hts in_X8_isGate_X8 hown hK hP 0 rfl rfl 7 (by decide) lk_2 (fun _ h9 => h9) rfl dX8_isGate_90 ?_
              refine lv_iload hx hb dX8_isGate_93 (lv_at hl 6 rfl) ?_
              obtain ⟨b_27, h⟩ := cw_i h
              refine va_lald hx hb hK hP 2 1 rfl rfl b_27 dX8_isGate_95 ?_
              refine lv_aload_n hx hb dX8_isGate_96 rfl (lv_at hl 0 rfl) ?_
              refine va_get (D := D) (ci := 8) (v := .ref q0_cNo) (C := RX8) (T := TX8) (N := 43) hx hb hts in_X8_isGate_X8 hown hK hP 0 rfl rfl 7 (by decide) lk_2 (fun _ h9 => h9) rfl dX8_isGate_97 ?_
              refine lv_iload hx hb dX8_isGate_100 (lv_at hl 4 rfl) ?_
              obtain ⟨b_28, h⟩ := cw_i h
              refine va_lald hx hb hK hP 2 1 rfl rfl b_28 dX8_isGate_102 ?_
              refine W.lcmp hx hb dX8_isGate_103 ?_
              refine lv_if_eq (tgt := 111) hx hb dX8_isGate_104 (by decide) (fun c_29 => ?_) (fun c_29 => ?_)
              · have k_30 : (h0_cNo x7.toNatClampNeg) = (h0_cNo x5.toNatClampNeg) := ((lg_cmp_eq _ _).mp c_29)
                have h := cw_t k_30 h
                refine lv_iconst (v := (0 : Int32)) hx hb dX8_isGate_111 (by decide) ?_
                refine lv_istore (lv' := [(6, .int (0 : Int32)), (0, .ref q0), (1, .long x1), (3, .int x3), (4, .int x4), (5, .int x5), (7, .int x7)]) hx hb dX8_isGate_112 hl (by decide) rfl (fun ls hl => ?_)
                refine lv_iinc (v := x7 + (1 : Int32)) (lv' := [(7, .int (x7 + (1 : Int32))), (6, .int (0 : Int32)), (0, .ref q0), (1, .long x1), (3, .int x3), (4, .int x4), (5, .int x5)]) hx hb dX8_isGate_114 hl (k := 6) rfl rfl (by decide) rfl (fun ls hl => ?_)
                refine lv_goto (tgt := 59) hx hb dX8_isGate_117 (by decide) ?_
                exact ih.2 _ _ _ _ h _ _ _ hP hD hS (lv_sub hl [2, 3, 4, 5, 6, 1, 0] rfl)
              · have k_30 : ¬ ((h0_cNo x7.toNatClampNeg) = (h0_cNo x5.toNatClampNeg)) := (fun z9 => c_29 ((lg_cmp_eq _ _).mpr z9))
                have h := cw_f k_30 h
                refine lv_iconst (v := (1 : Int32)) hx hb dX8_isGate_107 (by decide) ?_
                refine lv_goto (tgt := 112) hx hb dX8_isGate_108 (by decide) ?_
                refine lv_istore (lv' := [(6, .int (1 : Int32)), (0, .ref q0), (1, .long x1), (3, .int x3), (4, .int x4), (5, .int x5), (7, .int x7)]) hx hb dX8_isGate_112 hl (by decide) rfl (fun ls hl => ?_)
                refine lv_iinc (v := x7 + (1 : Int32)) (lv' := [(7, .int (x7 + (1 : Int32))), (6, .int (1 : Int32)), (0, .ref q0), (1, .long x1), (3, .int x3), (4, .int x4), (5, .int x5)]) hx hb dX8_isGate_114 hl (k := 6) rfl rfl (by decide) rfl (fun ls hl => ?_)
                refine lv_goto (tgt := 59) hx hb dX8_isGate_117 (by decide) ?_
                exact ih.2 _ _ _ _ h _ _ _ hP hD hS (lv_sub hl [2, 3, 4, 5, 6, 1, 0] rfl)
  have h := h0
  unfold D_X8_isGate at h
  refine lv_iconst (v := (0 : Int32)) hx hb dX8_isGate_0 (by decide) ?_
  refine lv_istore (lv' := [(4, .int (0 : Int32)), (0, .ref q0), (1, .long x1), (3, .int x3)]) hx hb dX8_isGate_1 hl (by decide) rfl (fun ls hl => ?_)
  refine lv_iconst (v := (0 : Int32)) hx hb dX8_isGate_3 (by decide) ?_
  refine lv_istore (lv' := [(5, .int (0 : Int32)), (4, .int (0 : Int32)), (0, .ref q0), (1, .long x1), (3, .int x3)]) hx hb dX8_isGate_4 hl (by decide) rfl (fun ls hl => ?_)
  obtain ⟨n9, hn9⟩ := runw_some h
  exact (hloop n9).1 _ _ hn9 _ _ _ hP hD hS (lv_sub hl [2, 3, 4, 1, 0] rfl)
abbrev S_X8_findGates : Type := (Int64 × Bool × Int32 × (Nat → Int64)) ⊕ (Int64 × Int64 × Int32 × Int32 × (Nat → Int64)) ⊕ (Bool × Int64 × Int32 × Int32 × (Nat → Int64))
noncomputable def b_X8_findGates_9 (f0_clauses : Int32) (n0_cYes : Nat) (h0_cYes : Nat → Int64) (n0_cNo : Nat) (h0_cNo : Nat → Int64) (n0_gSet : Nat) (x1 : Int64) (x3 : Bool) (f0_gateCount : Int32) (h0_gSet : Nat → Int64) : Option (Int32 × (Nat → Int64)) ⊕ S_X8_findGates :=
  cif (x3 = true)
    (.inr (.inr (.inl (x1, (4611686018427387904 : Int64), (0 : Int32), f0_gateCount, h0_gSet))))
    (.inl (some (f0_gateCount, h0_gSet)))
noncomputable def b_X8_findGates_21 (f0_clauses : Int32) (n0_cYes : Nat) (h0_cYes : Nat → Int64) (n0_cNo : Nat) (h0_cNo : Nat → Int64) (n0_gSet : Nat) (x1 : Int64) (x4 : Int64) (x6 : Int32) (f0_gateCount : Int32) (h0_gSet : Nat → Int64) : Option (Int32 × (Nat → Int64)) ⊕ S_X8_findGates :=
  cif (f0_clauses ≤ x6)
    (cif (x4 = (4611686018427387904 : Int64))
      (.inr (.inr (.inr (false, x4, (0 : Int32), f0_gateCount, h0_gSet))))
      (.inr (.inr (.inr (true, x4, (0 : Int32), f0_gateCount, h0_gSet)))))
    (cif (vp_in x6 n0_cYes)
      (cif (vp_in x6 n0_cNo)
        (cif (((h0_cYes x6.toNatClampNeg) ||| (h0_cNo x6.toNatClampNeg)) ≤ x1)
          (.inr (.inr (.inl (x1, x4, x6 + (1 : Int32), f0_gateCount, h0_gSet))))
          (cif (x4 ≤ ((h0_cYes x6.toNatClampNeg) ||| (h0_cNo x6.toNatClampNeg)))
            (.inr (.inr (.inl (x1, x4, x6 + (1 : Int32), f0_gateCount, h0_gSet))))
            (sbd (D_X8_bits ((h0_cYes x6.toNatClampNeg) ||| (h0_cNo x6.toNatClampNeg))) (fun u_13 =>
              sbd (D_X8_isIn u_13.toInt64 (2 : Int64) (4 : Int64)) (fun u_15 =>
                cif (u_15 = true)
                  (.inr (.inr (.inl (x1, (h0_cYes x6.toNatClampNeg) ||| (h0_cNo x6.toNatClampNeg), x6 + (1 : Int32), f0_gateCount, h0_gSet))))
                  (.inr (.inr (.inl (x1, x4, x6 + (1 : Int32), f0_gateCount, h0_gSet)))))))))
        (.inl none))
      (.inl none))
noncomputable def b_X8_findGates_113 (f0_clauses : Int32) (n0_cYes : Nat) (h0_cYes : Nat → Int64) (n0_cNo : Nat) (h0_cNo : Nat → Int64) (n0_gSet : Nat) (x3 : Bool) (x4 : Int64) (x6 : Int32) (f0_gateCount : Int32) (h0_gSet : Nat → Int64) : Option (Int32 × (Nat → Int64)) ⊕ S_X8_findGates :=
  cif ((2 : Int32) ≤ x6)
    (.inr (.inl (x4, x3, f0_gateCount, h0_gSet)))
    (cif (x3 = true)
      (sbd (D_X8_isGate f0_clauses n0_cYes h0_cYes n0_cNo h0_cNo x4 x6) (fun u_23 =>
        cif (u_23 = true)
          (cif (x6 = (1 : Int32))
            (cif (vp_in f0_gateCount n0_gSet)
              (.inr (.inr (.inr (x3, x4, x6 + (1 : Int32), f0_gateCount + (1 : Int32), vp_updL h0_gSet f0_gateCount.toNatClampNeg (x4 ||| (4611686018427387904 : Int64))))))
              (.inl none))
            (cif (vp_in f0_gateCount n0_gSet)
              (.inr (.inr (.inr (x3, x4, x6 + (1 : Int32), f0_gateCount + (1 : Int32), vp_updL h0_gSet f0_gateCount.toNatClampNeg (x4 ||| (0 : Int64))))))
              (.inl none)))
          (.inr (.inr (.inr (x3, x4, x6 + (1 : Int32), f0_gateCount, h0_gSet))))))
      (.inr (.inl (x4, x3, f0_gateCount, h0_gSet))))
noncomputable def st_X8_findGates (f0_clauses : Int32) (n0_cYes : Nat) (h0_cYes : Nat → Int64) (n0_cNo : Nat) (h0_cNo : Nat → Int64) (n0_gSet : Nat) : S_X8_findGates → Option (Int32 × (Nat → Int64)) ⊕ S_X8_findGates := fun x => match x with
  | .inl (x1, x3, f0_gateCount, h0_gSet) => b_X8_findGates_9 f0_clauses n0_cYes h0_cYes n0_cNo h0_cNo n0_gSet x1 x3 f0_gateCount h0_gSet
  | .inr (.inl (x1, x4, x6, f0_gateCount, h0_gSet)) => b_X8_findGates_21 f0_clauses n0_cYes h0_cYes n0_cNo h0_cNo n0_gSet x1 x4 x6 f0_gateCount h0_gSet
  | .inr (.inr (x3, x4, x6, f0_gateCount, h0_gSet)) => b_X8_findGates_113 f0_clauses n0_cYes h0_cYes n0_cNo h0_cNo n0_gSet x3 x4 x6 f0_gateCount h0_gSet
noncomputable def L_X8_findGates_9 (f0_clauses : Int32) (n0_cYes : Nat) (h0_cYes : Nat → Int64) (n0_cNo : Nat) (h0_cNo : Nat → Int64) (n0_gSet : Nat) (x1 : Int64) (x3 : Bool) (f0_gateCount : Int32) (h0_gSet : Nat → Int64) : Option (Int32 × (Nat → Int64)) := runw (st_X8_findGates f0_clauses n0_cYes h0_cYes n0_cNo h0_cNo n0_gSet) (.inl (x1, x3, f0_gateCount, h0_gSet))
noncomputable def L_X8_findGates_21 (f0_clauses : Int32) (n0_cYes : Nat) (h0_cYes : Nat → Int64) (n0_cNo : Nat) (h0_cNo : Nat → Int64) (n0_gSet : Nat) (x1 : Int64) (x4 : Int64) (x6 : Int32) (f0_gateCount : Int32) (h0_gSet : Nat → Int64) : Option (Int32 × (Nat → Int64)) := runw (st_X8_findGates f0_clauses n0_cYes h0_cYes n0_cNo h0_cNo n0_gSet) (.inr (.inl (x1, x4, x6, f0_gateCount, h0_gSet)))
noncomputable def L_X8_findGates_113 (f0_clauses : Int32) (n0_cYes : Nat) (h0_cYes : Nat → Int64) (n0_cNo : Nat) (h0_cNo : Nat → Int64) (n0_gSet : Nat) (x3 : Bool) (x4 : Int64) (x6 : Int32) (f0_gateCount : Int32) (h0_gSet : Nat → Int64) : Option (Int32 × (Nat → Int64)) := runw (st_X8_findGates f0_clauses n0_cYes h0_cYes n0_cNo h0_cNo n0_gSet) (.inr (.inr (x3, x4, x6, f0_gateCount, h0_gSet)))
theorem E_X8_findGates_9 (f0_clauses : Int32) (n0_cYes : Nat) (h0_cYes : Nat → Int64) (n0_cNo : Nat) (h0_cNo : Nat → Int64) (n0_gSet : Nat) (x1 : Int64) (x3 : Bool) (f0_gateCount : Int32) (h0_gSet : Nat → Int64) : L_X8_findGates_9 f0_clauses n0_cYes h0_cYes n0_cNo h0_cNo n0_gSet x1 x3 f0_gateCount h0_gSet =
    cif (x3 = true)
      (L_X8_findGates_21 f0_clauses n0_cYes h0_cYes n0_cNo h0_cNo n0_gSet x1 (4611686018427387904 : Int64) (0 : Int32) f0_gateCount h0_gSet)
      (some (f0_gateCount, h0_gSet)) := by
  show runw (st_X8_findGates f0_clauses n0_cYes h0_cYes n0_cNo h0_cNo n0_gSet) (.inl (x1, x3, f0_gateCount, h0_gSet)) = _
  rw [runw_eq]
  show run1 _ (b_X8_findGates_9 f0_clauses n0_cYes h0_cYes n0_cNo h0_cNo n0_gSet x1 x3 f0_gateCount h0_gSet) = _
  simp only [b_X8_findGates_9, run1_cif, run1_sbd, run1_inl, run1_inr]
  try rfl
theorem E_X8_findGates_21 (f0_clauses : Int32) (n0_cYes : Nat) (h0_cYes : Nat → Int64) (n0_cNo : Nat) (h0_cNo : Nat → Int64) (n0_gSet : Nat) (x1 : Int64) (x4 : Int64) (x6 : Int32) (f0_gateCount : Int32) (h0_gSet : Nat → Int64) : L_X8_findGates_21 f0_clauses n0_cYes h0_cYes n0_cNo h0_cNo n0_gSet x1 x4 x6 f0_gateCount h0_gSet =
    cif (f0_clauses ≤ x6)
      (cif (x4 = (4611686018427387904 : Int64))
        (L_X8_findGates_113 f0_clauses n0_cYes h0_cYes n0_cNo h0_cNo n0_gSet false x4 (0 : Int32) f0_gateCount h0_gSet)
        (L_X8_findGates_113 f0_clauses n0_cYes h0_cYes n0_cNo h0_cNo n0_gSet true x4 (0 : Int32) f0_gateCount h0_gSet))
      (cif (vp_in x6 n0_cYes)
        (cif (vp_in x6 n0_cNo)
          (cif (((h0_cYes x6.toNatClampNeg) ||| (h0_cNo x6.toNatClampNeg)) ≤ x1)
            (L_X8_findGates_21 f0_clauses n0_cYes h0_cYes n0_cNo h0_cNo n0_gSet x1 x4 (x6 + (1 : Int32)) f0_gateCount h0_gSet)
            (cif (x4 ≤ ((h0_cYes x6.toNatClampNeg) ||| (h0_cNo x6.toNatClampNeg)))
              (L_X8_findGates_21 f0_clauses n0_cYes h0_cYes n0_cNo h0_cNo n0_gSet x1 x4 (x6 + (1 : Int32)) f0_gateCount h0_gSet)
              (Option.bind (D_X8_bits ((h0_cYes x6.toNatClampNeg) ||| (h0_cNo x6.toNatClampNeg))) (fun u_13 =>
                Option.bind (D_X8_isIn u_13.toInt64 (2 : Int64) (4 : Int64)) (fun u_15 =>
                  cif (u_15 = true)
                    (L_X8_findGates_21 f0_clauses n0_cYes h0_cYes n0_cNo h0_cNo n0_gSet x1 ((h0_cYes x6.toNatClampNeg) ||| (h0_cNo x6.toNatClampNeg)) (x6 + (1 : Int32)) f0_gateCount h0_gSet)
                    (L_X8_findGates_21 f0_clauses n0_cYes h0_cYes n0_cNo h0_cNo n0_gSet x1 x4 (x6 + (1 : Int32)) f0_gateCount h0_gSet))))))
          (none))
        (none)) := by
  show runw (st_X8_findGates f0_clauses n0_cYes h0_cYes n0_cNo h0_cNo n0_gSet) (.inr (.inl (x1, x4, x6, f0_gateCount, h0_gSet))) = _
  rw [runw_eq]
  show run1 _ (b_X8_findGates_21 f0_clauses n0_cYes h0_cYes n0_cNo h0_cNo n0_gSet x1 x4 x6 f0_gateCount h0_gSet) = _
  simp only [b_X8_findGates_21, run1_cif, run1_sbd, run1_inl, run1_inr]
  try rfl
theorem E_X8_findGates_113 (f0_clauses : Int32) (n0_cYes : Nat) (h0_cYes : Nat → Int64) (n0_cNo : Nat) (h0_cNo : Nat → Int64) (n0_gSet : Nat) (x3 : Bool) (x4 : Int64) (x6 : Int32) (f0_gateCount : Int32) (h0_gSet : Nat → Int64) : L_X8_findGates_113 f0_clauses n0_cYes h0_cYes n0_cNo h0_cNo n0_gSet x3 x4 x6 f0_gateCount h0_gSet =
    cif ((2 : Int32) ≤ x6)
      (L_X8_findGates_9 f0_clauses n0_cYes h0_cYes n0_cNo h0_cNo n0_gSet x4 x3 f0_gateCount h0_gSet)
      (cif (x3 = true)
        (Option.bind (D_X8_isGate f0_clauses n0_cYes h0_cYes n0_cNo h0_cNo x4 x6) (fun u_23 =>
          cif (u_23 = true)
            (cif (x6 = (1 : Int32))
              (cif (vp_in f0_gateCount n0_gSet)
                (L_X8_findGates_113 f0_clauses n0_cYes h0_cYes n0_cNo h0_cNo n0_gSet x3 x4 (x6 + (1 : Int32)) (f0_gateCount + (1 : Int32)) (vp_updL h0_gSet f0_gateCount.toNatClampNeg (x4 ||| (4611686018427387904 : Int64))))
                (none))
              (cif (vp_in f0_gateCount n0_gSet)
                (L_X8_findGates_113 f0_clauses n0_cYes h0_cYes n0_cNo h0_cNo n0_gSet x3 x4 (x6 + (1 : Int32)) (f0_gateCount + (1 : Int32)) (vp_updL h0_gSet f0_gateCount.toNatClampNeg (x4 ||| (0 : Int64))))
                (none)))
            (L_X8_findGates_113 f0_clauses n0_cYes h0_cYes n0_cNo h0_cNo n0_gSet x3 x4 (x6 + (1 : Int32)) f0_gateCount h0_gSet)))
        (L_X8_findGates_9 f0_clauses n0_cYes h0_cYes n0_cNo h0_cNo n0_gSet x4 x3 f0_gateCount h0_gSet)) := by
  show runw (st_X8_findGates f0_clauses n0_cYes h0_cYes n0_cNo h0_cNo n0_gSet) (.inr (.inr (x3, x4, x6, f0_gateCount, h0_gSet))) = _
  rw [runw_eq]
  show run1 _ (b_X8_findGates_113 f0_clauses n0_cYes h0_cYes n0_cNo h0_cNo n0_gSet x3 x4 x6 f0_gateCount h0_gSet) = _
  simp only [b_X8_findGates_113, run1_cif, run1_sbd, run1_inl, run1_inr]
  try rfl
noncomputable def D_X8_findGates (f0_clauses : Int32) (f0_gateCount : Int32) (n0_cYes : Nat) (h0_cYes : Nat → Int64) (n0_cNo : Nat) (h0_cNo : Nat → Int64) (n0_gSet : Nat) (h0_gSet : Nat → Int64) : Option (Int32 × (Nat → Int64)) :=
  L_X8_findGates_9 f0_clauses n0_cYes h0_cYes n0_cNo h0_cNo n0_gSet (0 : Int64) true (0 : Int32) h0_gSet
theorem in_X8_findGates_X8 : ∀ w ∈ wsX80, w ∈ wsX8_findGates := by decide +kernel
theorem lk_0_X8_findGates : Cond.fieldLink RX8 243 "ParityClausesModel" "gateCount" "I" ∈ wsX8_findGates := by decide +kernel
theorem lk_1_X8_findGates : Cond.constantLong RX8 88 (4611686018427387904) ∈ wsX8_findGates := by decide +kernel
theorem lk_2_X8_findGates : Cond.fieldLink RX8 105 "ParityClausesModel" "clauses" "I" ∈ wsX8_findGates := by decide +kernel
theorem lk_3_X8_findGates : Cond.fieldLink RX8 17 "ParityClausesModel" "cYes" "[J" ∈ wsX8_findGates := by decide +kernel
theorem lk_4_X8_findGates : Cond.fieldLink RX8 20 "ParityClausesModel" "cNo" "[J" ∈ wsX8_findGates := by decide +kernel
theorem lk_5_X8_findGates : Cond.constantLong RX8 246 (2) ∈ wsX8_findGates := by decide +kernel
theorem lk_6_X8_findGates : Cond.constantLong RX8 248 (4) ∈ wsX8_findGates := by decide +kernel
theorem lk_7_X8_findGates : Cond.fieldLink RX8 74 "ParityClausesModel" "gSet" "[J" ∈ wsX8_findGates := by decide +kernel
abbrev rm_X8_findGates : Room := { frames := 3, cells := 0, slots := 0, locals := 71 }
set_option maxHeartbeats 4000000 in
set_option maxRecDepth 100000 in
theorem cm_X8_findGates (l : Launch) (D : va_G) (cI cL : ClassId) (q0 q0_cYes q0_cNo q0_gSet : Nat) (n0_cYes n0_cNo n0_gSet : Nat) (f0_clauses : Int32) (f0_gateCount : Int32) (h0_cYes : Nat → Int64) (h0_cNo : Nat → Int64) (h0_gSet : Nat → Int64) (v0_thrown v0_n v0_equations v0_eSet v0_eRight v0_levels v0_levelEquations v0_levelClauses v0_tape v0_tapeSize v0_faultIs v0_faultAt v0_at v0_newEquations v0_newClauses v0_newSet v0_newRight v0_newYes v0_newNo v0_lineYes v0_lineNo v0_rowCount v0_rSet v0_rRight v0_isImpossible v0_sumSet v0_sumOf v0_sumRight v0_empty v0_empties v0_taken v0_ones v0_waitTaken v0_waitOnes v0_nodeCount v0_lastModel v0_modelCount v0_modelIs : Value) (r0 : Int32 × (Nat → Int64)) (h0 : D_X8_findGates f0_clauses f0_gateCount n0_cYes h0_cYes n0_cNo h0_cNo n0_gSet h0_gSet = some r0) (sz : Nat) : Met l yX8_findGates wsX8_findGates rm_X8_findGates (PcW D cI cL [.ref q0] [(q0, .inr (8, [v0_thrown, v0_n, v0_equations, v0_eSet, v0_eRight, .int f0_clauses, .ref q0_cYes, .ref q0_cNo, v0_levels, v0_levelEquations, v0_levelClauses, v0_tape, v0_tapeSize, v0_faultIs, v0_faultAt, v0_at, v0_newEquations, v0_newClauses, v0_newSet, v0_newRight, v0_newYes, v0_newNo, v0_lineYes, v0_lineNo, v0_rowCount, v0_rSet, v0_rRight, v0_isImpossible, v0_sumSet, v0_sumOf, v0_sumRight, v0_empty, v0_empties, v0_taken, v0_ones, v0_waitTaken, v0_waitOnes, v0_nodeCount, v0_lastModel, v0_modelCount, v0_modelIs, .ref q0_gSet, .int f0_gateCount])), (q0_cYes, .inl (cL, n0_cYes, .inr (.inl h0_cYes))), (q0_cNo, .inl (cL, n0_cNo, .inr (.inl h0_cNo))), (q0_gSet, .inl (cL, n0_gSet, .inr (.inl h0_gSet)))] sz) (QvW D [(q0, .inr (8, [v0_thrown, v0_n, v0_equations, v0_eSet, v0_eRight, .int f0_clauses, .ref q0_cYes, .ref q0_cNo, v0_levels, v0_levelEquations, v0_levelClauses, v0_tape, v0_tapeSize, v0_faultIs, v0_faultAt, v0_at, v0_newEquations, v0_newClauses, v0_newSet, v0_newRight, v0_newYes, v0_newNo, v0_lineYes, v0_lineNo, v0_rowCount, v0_rSet, v0_rRight, v0_isImpossible, v0_sumSet, v0_sumOf, v0_sumRight, v0_empty, v0_empties, v0_taken, v0_ones, v0_waitTaken, v0_waitOnes, v0_nodeCount, v0_lastModel, v0_modelCount, v0_modelIs, .ref q0_gSet, .int f0_gateCount])), (q0_cYes, .inl (cL, n0_cYes, .inr (.inl h0_cYes))), (q0_cNo, .inl (cL, n0_cNo, .inr (.inl h0_cNo))), (q0_gSet, .inl (cL, n0_gSet, .inr (.inl h0_gSet)))] (fun _ : Unit => [(q0, .inr (8, [v0_thrown, v0_n, v0_equations, v0_eSet, v0_eRight, .int f0_clauses, .ref q0_cYes, .ref q0_cNo, v0_levels, v0_levelEquations, v0_levelClauses, v0_tape, v0_tapeSize, v0_faultIs, v0_faultAt, v0_at, v0_newEquations, v0_newClauses, v0_newSet, v0_newRight, v0_newYes, v0_newNo, v0_lineYes, v0_lineNo, v0_rowCount, v0_rSet, v0_rRight, v0_isImpossible, v0_sumSet, v0_sumOf, v0_sumRight, v0_empty, v0_empties, v0_taken, v0_ones, v0_waitTaken, v0_waitOnes, v0_nodeCount, v0_lastModel, v0_modelCount, v0_modelIs, .ref q0_gSet, .int r0.1])), (q0_cYes, .inl (cL, n0_cYes, .inr (.inl h0_cYes))), (q0_cNo, .inl (cL, n0_cNo, .inr (.inl h0_cNo))), (q0_gSet, .inl (cL, n0_gSet, .inr (.inl r0.2)))]) tU sz) 0 0 (va_A [(q0, .inr (8, [v0_thrown, v0_n, v0_equations, v0_eSet, v0_eRight, .int f0_clauses, .ref q0_cYes, .ref q0_cNo, v0_levels, v0_levelEquations, v0_levelClauses, v0_tape, v0_tapeSize, v0_faultIs, v0_faultAt, v0_at, v0_newEquations, v0_newClauses, v0_newSet, v0_newRight, v0_newYes, v0_newNo, v0_lineYes, v0_lineNo, v0_rowCount, v0_rSet, v0_rRight, v0_isImpossible, v0_sumSet, v0_sumOf, v0_sumRight, v0_empty, v0_empties, v0_taken, v0_ones, v0_waitTaken, v0_waitOnes, v0_nodeCount, v0_lastModel, v0_modelCount, v0_modelIs, .ref q0_gSet, .int f0_gateCount])), (q0_cYes, .inl (cL, n0_cYes, .inr (.inl h0_cYes))), (q0_cNo, .inl (cL, n0_cNo, .inr (.inl h0_cNo))), (q0_gSet, .inl (cL, n0_gSet, .inr (.inl h0_gSet)))] sz) := by
  refine Met.ofW (cc := cX8_findGates) (maxL := 9) (ret := none) (by decide) rfl ?_
  intro p e s m args below meth c s₁ B hml hv
  obtain ⟨hargs, hsz, hP, hEV, hD0⟩ := hv
  have hx := B.exec
  have hb := B.bytes
  have hr := B.returns
  have hts := atoms_spec (ws := wsX8_findGates) B.pre
  have hown : s.vm.findClass RX8 = some m.cls := findClass_of_methodNamed B.named
  have hlocks := B.notSynchronized
  have hK := hEV.K
  have lk_0 := hts _ lk_0_X8_findGates
  have lk_1 := hts _ lk_1_X8_findGates
  have lk_2 := hts _ lk_2_X8_findGates
  have lk_3 := hts _ lk_3_X8_findGates
  have lk_4 := hts _ lk_4_X8_findGates
  have lk_5 := hts _ lk_5_X8_findGates
  have lk_6 := hts _ lk_6_X8_findGates
  have lk_7 := hts _ lk_7_X8_findGates
  subst hsz
  unfold QvW PoW
  have hD := hD0.self (sz := s.heap.size)
  generalize hAe : va_A [(q0, .inr (8, [v0_thrown, v0_n, v0_equations, v0_eSet, v0_eRight, .int f0_clauses, .ref q0_cYes, .ref q0_cNo, v0_levels, v0_levelEquations, v0_levelClauses, v0_tape, v0_tapeSize, v0_faultIs, v0_faultAt, v0_at, v0_newEquations, v0_newClauses, v0_newSet, v0_newRight, v0_newYes, v0_newNo, v0_lineYes, v0_lineNo, v0_rowCount, v0_rSet, v0_rRight, v0_isImpossible, v0_sumSet, v0_sumOf, v0_sumRight, v0_empty, v0_empties, v0_taken, v0_ones, v0_waitTaken, v0_waitOnes, v0_nodeCount, v0_lastModel, v0_modelCount, v0_modelIs, .ref q0_gSet, .int f0_gateCount])), (q0_cYes, .inl (cL, n0_cYes, .inr (.inl h0_cYes))), (q0_cNo, .inl (cL, n0_cNo, .inr (.inl h0_cNo))), (q0_gSet, .inl (cL, n0_gSet, .inr (.inl h0_gSet)))] s.heap.size = A at hD ⊢
  have hA : ∀ q : Nat, s.heap.size ≤ q → A q := fun q h => by rw [← hAe]; exact Or.inr h
  have hS : va_S A s.heap s.heap [] := va_S.rf
  have hent : entryFrame m args 9 = entryFrame m ([.ref q0] : List Value).toArray 9 := by rw [hargs]
  rw [hent]
  refine kx_Q (fun Q hQ => ?_)
  have hl := lv_entry ([.ref q0]) (n := 9) (Nat.le_of_ble_eq_true rfl)
  rw [lg_entry_eq]
  generalize (lg_sl ([.ref q0]) ++ List.replicate (9 - (lg_sl ([.ref q0])).length) Slot.unset).toArray = ls at hl ⊢
  have hl : lv_has ls 9 [(0, .ref q0)] := hl
  have hloop : ∀ n9 : Nat, (∀ (x1 : Int64) (x3 : Bool) (f0_gateCount : Int32) (h0_gSet : Nat → Int64), iter (st_X8_findGates f0_clauses n0_cYes h0_cYes n0_cNo h0_cNo n0_gSet) n9 (.inl (x1, x3, f0_gateCount, h0_gSet)) = some r0 → ∀ (H : Heap) (locs : List Loc) (ls : Array Slot), va_P D vwCl [(q0, .inr (8, [v0_thrown, v0_n, v0_equations, v0_eSet, v0_eRight, .int f0_clauses, .ref q0_cYes, .ref q0_cNo, v0_levels, v0_levelEquations, v0_levelClauses, v0_tape, v0_tapeSize, v0_faultIs, v0_faultAt, v0_at, v0_newEquations, v0_newClauses, v0_newSet, v0_newRight, v0_newYes, v0_newNo, v0_lineYes, v0_lineNo, v0_rowCount, v0_rSet, v0_rRight, v0_isImpossible, v0_sumSet, v0_sumOf, v0_sumRight, v0_empty, v0_empties, v0_taken, v0_ones, v0_waitTaken, v0_waitOnes, v0_nodeCount, v0_lastModel, v0_modelCount, v0_modelIs, .ref q0_gSet, .int f0_gateCount])), (q0_cYes, .inl (cL, n0_cYes, .inr (.inl h0_cYes))), (q0_cNo, .inl (cL, n0_cNo, .inr (.inl h0_cNo))), (q0_gSet, .inl (cL, n0_gSet, .inr (.inl h0_gSet)))] H → va_D A [(q0, .inr (8, [v0_thrown, v0_n, v0_equations, v0_eSet, v0_eRight, .int f0_clauses, .ref q0_cYes, .ref q0_cNo, v0_levels, v0_levelEquations, v0_levelClauses, v0_tape, v0_tapeSize, v0_faultIs, v0_faultAt, v0_at, v0_newEquations, v0_newClauses, v0_newSet, v0_newRight, v0_newYes, v0_newNo, v0_lineYes, v0_lineNo, v0_rowCount, v0_rSet, v0_rRight, v0_isImpossible, v0_sumSet, v0_sumOf, v0_sumRight, v0_empty, v0_empties, v0_taken, v0_ones, v0_waitTaken, v0_waitOnes, v0_nodeCount, v0_lastModel, v0_modelCount, v0_modelIs, .ref q0_gSet, .int f0_gateCount])), (q0_cYes, .inl (cL, n0_cYes, .inr (.inl h0_cYes))), (q0_cNo, .inl (cL, n0_cNo, .inr (.inl h0_cNo))), (q0_gSet, .inl (cL, n0_gSet, .inr (.inl h0_gSet)))] → va_S A s.heap H locs → lv_has ls 9 [(0, .ref q0), (1, .long x1), (3, .int (bI x3))] → W p l e (headSpec wsX8_findGates rm_X8_findGates).room s m args below meth c H locs 0 0 Q (F0 m 9 ls [])) ∧ (∀ (x1 : Int64) (x4 : Int64) (x6 : Int32) (f0_gateCount : Int32) (h0_gSet : Nat → Int64), iter (st_X8_findGates f0_clauses n0_cYes h0_cYes n0_cNo h0_cNo n0_gSet) n9 (.inr (.inl (x1, x4, x6, f0_gateCount, h0_gSet))) = some r0 → ∀ (H : Heap) (locs : List Loc) (ls : Array Slot), va_P D vwCl [(q0, .inr (8, [v0_thrown, v0_n, v0_equations, v0_eSet, v0_eRight, .int f0_clauses, .ref q0_cYes, .ref q0_cNo, v0_levels, v0_levelEquations, v0_levelClauses, v0_tape, v0_tapeSize, v0_faultIs, v0_faultAt, v0_at, v0_newEquations, v0_newClauses, v0_newSet, v0_newRight, v0_newYes, v0_newNo, v0_lineYes, v0_lineNo, v0_rowCount, v0_rSet, v0_rRight, v0_isImpossible, v0_sumSet, v0_sumOf, v0_sumRight, v0_empty, v0_empties, v0_taken, v0_ones, v0_waitTaken, v0_waitOnes, v0_nodeCount, v0_lastModel, v0_modelCount, v0_modelIs, .ref q0_gSet, .int f0_gateCount])), (q0_cYes, .inl (cL, n0_cYes, .inr (.inl h0_cYes))), (q0_cNo, .inl (cL, n0_cNo, .inr (.inl h0_cNo))), (q0_gSet, .inl (cL, n0_gSet, .inr (.inl h0_gSet)))] H → va_D A [(q0, .inr (8, [v0_thrown, v0_n, v0_equations, v0_eSet, v0_eRight, .int f0_clauses, .ref q0_cYes, .ref q0_cNo, v0_levels, v0_levelEquations, v0_levelClauses, v0_tape, v0_tapeSize, v0_faultIs, v0_faultAt, v0_at, v0_newEquations, v0_newClauses, v0_newSet, v0_newRight, v0_newYes, v0_newNo, v0_lineYes, v0_lineNo, v0_rowCount, v0_rSet, v0_rRight, v0_isImpossible, v0_sumSet, v0_sumOf, v0_sumRight, v0_empty, v0_empties, v0_taken, v0_ones, v0_waitTaken, v0_waitOnes, v0_nodeCount, v0_lastModel, v0_modelCount, v0_modelIs, .ref q0_gSet, .int f0_gateCount])), (q0_cYes, .inl (cL, n0_cYes, .inr (.inl h0_cYes))), (q0_cNo, .inl (cL, n0_cNo, .inr (.inl h0_cNo))), (q0_gSet, .inl (cL, n0_gSet, .inr (.inl h0_gSet)))] → va_S A s.heap H locs → lv_has ls 9 [(0, .ref q0), (1, .long x1), (4, .long x4), (6, .int x6)] → W p l e (headSpec wsX8_findGates rm_X8_findGates).room s m args below meth c H locs 0 0 Q (F0 m 21 ls [])) ∧ (∀ (x3 : Bool) (x4 : Int64) (x6 : Int32) (f0_gateCount : Int32) (h0_gSet : Nat → Int64), iter (st_X8_findGates f0_clauses n0_cYes h0_cYes n0_cNo h0_cNo n0_gSet) n9 (.inr (.inr (x3, x4, x6, f0_gateCount, h0_gSet))) = some r0 → ∀ (H : Heap) (locs : List Loc) (ls : Array Slot), va_P D vwCl [(q0, .inr (8, [v0_thrown, v0_n, v0_equations, v0_eSet, v0_eRight, .int f0_clauses, .ref q0_cYes, .ref q0_cNo, v0_levels, v0_levelEquations, v0_levelClauses, v0_tape, v0_tapeSize, v0_faultIs, v0_faultAt, v0_at, v0_newEquations, v0_newClauses, v0_newSet, v0_newRight, v0_newYes, v0_newNo, v0_lineYes, v0_lineNo, v0_rowCount, v0_rSet, v0_rRight, v0_isImpossible, v0_sumSet, v0_sumOf, v0_sumRight, v0_empty, v0_empties, v0_taken, v0_ones, v0_waitTaken, v0_waitOnes, v0_nodeCount, v0_lastModel, v0_modelCount, v0_modelIs, .ref q0_gSet, .int f0_gateCount])), (q0_cYes, .inl (cL, n0_cYes, .inr (.inl h0_cYes))), (q0_cNo, .inl (cL, n0_cNo, .inr (.inl h0_cNo))), (q0_gSet, .inl (cL, n0_gSet, .inr (.inl h0_gSet)))] H → va_D A [(q0, .inr (8, [v0_thrown, v0_n, v0_equations, v0_eSet, v0_eRight, .int f0_clauses, .ref q0_cYes, .ref q0_cNo, v0_levels, v0_levelEquations, v0_levelClauses, v0_tape, v0_tapeSize, v0_faultIs, v0_faultAt, v0_at, v0_newEquations, v0_newClauses, v0_newSet, v0_newRight, v0_newYes, v0_newNo, v0_lineYes, v0_lineNo, v0_rowCount, v0_rSet, v0_rRight, v0_isImpossible, v0_sumSet, v0_sumOf, v0_sumRight, v0_empty, v0_empties, v0_taken, v0_ones, v0_waitTaken, v0_waitOnes, v0_nodeCount, v0_lastModel, v0_modelCount, v0_modelIs, .ref q0_gSet, .int f0_gateCount])), (q0_cYes, .inl (cL, n0_cYes, .inr (.inl h0_cYes))), (q0_cNo, .inl (cL, n0_cNo, .inr (.inl h0_cNo))), (q0_gSet, .inl (cL, n0_gSet, .inr (.inl h0_gSet)))] → va_S A s.heap H locs → lv_has ls 9 [(0, .ref q0), (3, .int (bI x3)), (4, .long x4), (6, .int x6)] → W p l e (headSpec wsX8_findGates rm_X8_findGates).room s m args below meth c H locs 0 0 Q (F0 m 113 ls [])) := by
    intro n9
    induction n9 with
    | zero => exact ⟨fun _ _ _ _ h => nomatch h, fun _ _ _ _ _ h => nomatch h, fun _ _ _ _ _ h => nomatch h⟩
    | succ n9 ih =>
      refine ⟨?_, ?_, ?_⟩
      · intro x1 x3 f0_gateCount h0_gSet h H locs ls hP hD hS hl
        have h : run1 (iter (st_X8_findGates f0_clauses n0_cYes h0_cYes n0_cNo h0_cNo n0_gSet) n9) (b_X8_findGates_9 f0_clauses n0_cYes h0_cYes n0_cNo h0_cNo n0_gSet x1 x3 f0_gateCount h0_gSet) = some r0 := h
        unfold b_X8_findGates_9 at h
        refine lv_iload_n hx hb dX8_findGates_9 rfl (lv_at hl 2 rfl) ?_
        refine lv_if_eq (tgt := 181) hx hb dX8_findGates_10 (by decide) (fun c_1 => ?_) (fun c_1 => ?_)
        · have k_2 : ¬ (x3 = true) := (kx_z c_1)
          have h := cw_f k_2 h
          have h := Option.some.inj h
          subst h
          subst hQ
          exact W.vret hx hb hr (fun t ht hW => ⟨⟨(), rfl, trivial, by rw [ht]; exact hP, hD⟩, hS.F ht⟩) hS.2.2 dX8_findGates_181
        · have k_2 : x3 = true := (kx_nz c_1)
          have h := cw_t k_2 h
          refine lv_ldc2 hx hb hown lk_1 dX8_findGates_13 ?_
          refine lv_lstore (lv' := [(4, .long (4611686018427387904 : Int64)), (0, .ref q0), (1, .long x1), (3, .int (bI x3))]) hx hb dX8_findGates_16 hl (by decide) rfl (fun ls hl => ?_)
          refine lv_iconst (v := (0 : Int32)) hx hb dX8_findGates_18 (by decide) ?_
          refine lv_istore (lv' := [(6, .int (0 : Int32)), (4, .long (4611686018427387904 : Int64)), (0, .ref q0), (1, .long x1), (3, .int (bI x3))]) hx hb dX8_findGates_19 hl (by decide) rfl (fun ls hl => ?_)
          exact ih.2.1 _ _ _ _ _ h _ _ _ hP hD hS (lv_sub hl [2, 3, 1, 0] rfl)
      · intro x1 x4 x6 f0_gateCount h0_gSet h H locs ls hP hD hS hl
        have h : run1 (iter (st_X8_findGates f0_clauses n0_cYes h0_cYes n0_cNo h0_cNo n0_gSet) n9) (b_X8_findGates_21 f0_clauses n0_cYes h0_cYes n0_cNo h0_cNo n0_gSet x1 x4 x6 f0_gateCount h0_gSet) = some r0 := h
        unfold b_X8_findGates_21 at h
        refine lv_iload hx hb dX8_findGates_21 (lv_at hl 3 rfl) ?_
        refine lv_aload_n hx hb dX8_findGates_23 rfl (lv_at hl 0 rfl) ?_
        refine va_get (D := D) (ci := 8) (v := .int f0_clauses) (C := RX8) (T := TX8) (N := 43) hx hb hts in_X8_findGates_X8 hown hK hP 0 rfl rfl 5 (by decide) lk_2 (fun _ h9 => h9) rfl dX8_findGates_24 ?_
        refine lv_icmp_ge (tgt := 95) hx hb dX8_findGates_27 (by decide) (fun c_3 => ?_) (fun c_3 => ?_)
        · have k_4 : f0_clauses ≤ x6 := c_3
          have h := cw_t k_4 h
          refine lv_lload hx hb dX8_findGates_95 (lv_at hl 2 rfl) ?_
          refine lv_ldc2 hx hb hown lk_1 dX8_findGates_97 ?_
          refine W.lcmp hx hb dX8_findGates_100 ?_
          refine lv_if_eq (tgt := 108) hx hb dX8_findGates_101 (by decide) (fun c_5 => ?_) (fun c_5 => ?_)
          · have k_6 : x4 = (4611686018427387904 : Int64) := ((lg_cmp_eq _ _).mp c_5)
            have h := cw_t k_6 h
            refine lv_iconst (v := (0 : Int32)) hx hb dX8_findGates_108 (by decide) ?_
            refine lv_istore_n (lv' := [(3, .int (0 : Int32)), (0, .ref q0), (1, .long x1), (4, .long x4), (6, .int x6)]) hx hb dX8_findGates_109 rfl hl (by decide) rfl (fun ls hl => ?_)
            refine lv_iconst (v := (0 : Int32)) hx hb dX8_findGates_110 (by decide) ?_
            refine lv_istore (lv' := [(6, .int (0 : Int32)), (3, .int (0 : Int32)), (0, .ref q0), (1, .long x1), (4, .long x4)]) hx hb dX8_findGates_111 hl (by decide) rfl (fun ls hl => ?_)
            exact ih.2.2 _ _ _ _ _ h _ _ _ hP hD hS (lv_sub hl [2, 1, 4, 0] rfl)
          · have k_6 : ¬ (x4 = (4611686018427387904 : Int64)) := (fun z9 => c_5 ((lg_cmp_eq _ _).mpr z9))
            have h := cw_f k_6 h
            refine lv_iconst (v := (1 : Int32)) hx hb dX8_findGates_104 (by decide) ?_
            refine lv_goto (tgt := 109) hx hb dX8_findGates_105 (by decide) ?_
            refine lv_istore_n (lv' := [(3, .int (1 : Int32)), (0, .ref q0), (1, .long x1), (4, .long x4), (6, .int x6)]) hx hb dX8_findGates_109 rfl hl (by decide) rfl (fun ls hl => ?_)
            refine lv_iconst (v := (0 : Int32)) hx hb dX8_findGates_110 (by decide) ?_
            refine lv_istore (lv' := [(6, .int (0 : Int32)), (3, .int (1 : Int32)), (0, .ref q0), (1, .long x1), (4, .long x4)]) hx hb dX8_findGates_111 hl (by decide) rfl (fun ls hl => ?_)
            exact ih.2.2 _ _ _ _ _ h _ _ _ hP hD hS (lv_sub hl [2, 1, 4, 0] rfl)
        · have k_4 : ¬ (f0_clauses ≤ x6) := c_3
          have h := cw_f k_4 h
          refine lv_aload_n hx hb dX8_findGates_30 rfl (lv_at hl 0 rfl) ?_
          refine va_get (D := D) (ci := 8) (v := .ref q0_cYes) (C := RX8) (T := TX8) (N := 43) hx hb hts in_X8_findGates_X8 hown hK hP 0 rfl rfl 6 (by decide) lk_3 (fun _ h9 => h9) rfl dX8_findGates_31 ?_
          refine lv_iload hx hb dX8_findGates_34 (lv_at hl 3 rfl) ?_
          obtain ⟨b_7, h⟩ := cw_i h
          refine va_lald hx hb hK hP 1 1 rfl rfl b_7 dX8_findGates_36 ?_
          refine lv_aload_n hx hb dX8_findGates_37 rfl (lv_at hl 0 rfl) ?_
          refine va_get (D := D) (ci := 8) (v := .ref q0_cNo) (C := RX8) (T := TX8) (N := 43) hx hb hts in_X8_findGates_X8 hown hK hP 0 rfl rfl 7 (by decide) lk_4 (fun _ h9 => h9) rfl dX8_findGates_38 ?_
          refine lv_iload hx hb dX8_findGates_41 (lv_at hl 3 rfl) ?_
          obtain ⟨b_8, h⟩ := cw_i h
          refine va_lald hx hb hK hP 2 1 rfl rfl b_8 dX8_findGates_43 ?_
          refine lv_lor hx hb dX8_findGates_44 ?_
          refine lv_lstore (lv' := [(7, .long ((h0_cYes x6.toNatClampNeg) ||| (h0_cNo x6.toNatClampNeg))), (0, .ref q0), (1, .long x1), (4, .long x4), (6, .int x6)]) hx hb dX8_findGates_45 hl (by decide) rfl (fun ls hl => ?_)
          refine lv_lload hx hb dX8_findGates_47 (lv_at hl 0 rfl) ?_
          refine lv_lload_n hx hb dX8_findGates_49 rfl (lv_at hl 2 rfl) ?_
          refine W.lcmp hx hb dX8_findGates_50 ?_
          refine lv_if_le (tgt := 85) hx hb dX8_findGates_51 (by decide) (fun c_9 => ?_) (fun c_9 => ?_)
          · have k_10 : ((h0_cYes x6.toNatClampNeg) ||| (h0_cNo x6.toNatClampNeg)) ≤ x1 := ((lg_cmp_le _ _).mp c_9)
            have h := cw_t k_10 h
            refine lv_lload hx hb dX8_findGates_85 (lv_at hl 3 rfl) ?_
            refine lv_lstore (lv' := [(4, .long x4), (7, .long ((h0_cYes x6.toNatClampNeg) ||| (h0_cNo x6.toNatClampNeg))), (0, .ref q0), (1, .long x1), (6, .int x6)]) hx hb dX8_findGates_87 hl (by decide) rfl (fun ls hl => ?_)
            refine lv_iinc (v := x6 + (1 : Int32)) (lv' := [(6, .int (x6 + (1 : Int32))), (4, .long x4), (7, .long ((h0_cYes x6.toNatClampNeg) ||| (h0_cNo x6.toNatClampNeg))), (0, .ref q0), (1, .long x1)]) hx hb dX8_findGates_89 hl (k := 4) rfl rfl (by decide) rfl (fun ls hl => ?_)
            refine lv_goto (tgt := 21) hx hb dX8_findGates_92 (by decide) ?_
            exact ih.2.1 _ _ _ _ _ h _ _ _ hP hD hS (lv_sub hl [3, 4, 1, 0] rfl)
          · have k_10 : ¬ (((h0_cYes x6.toNatClampNeg) ||| (h0_cNo x6.toNatClampNeg)) ≤ x1) := (fun z9 => c_9 ((lg_cmp_le _ _).mpr z9))
            have h := cw_f k_10 h
            refine lv_lload hx hb dX8_findGates_54 (lv_at hl 0 rfl) ?_
            refine lv_lload hx hb dX8_findGates_56 (lv_at hl 3 rfl) ?_
            refine W.lcmp hx hb dX8_findGates_58 ?_
            refine lv_if_ge (tgt := 85) hx hb dX8_findGates_59 (by decide) (fun c_11 => ?_) (fun c_11 => ?_)
            · have k_12 : x4 ≤ ((h0_cYes x6.toNatClampNeg) ||| (h0_cNo x6.toNatClampNeg)) := ((lg_cmp_ge _ _).mp c_11)
              have h := cw_t k_12 h
              refine lv_lload hx hb dX8_findGates_85 (lv_at hl 3 rfl) ?_
              refine lv_lstore (lv' := [(4, .long x4), (7, .long ((h0_cYes x6.toNatClampNeg) ||| (h0_cNo x6.toNatClampNeg))), (0, .ref q0), (1, .long x1), (6, .int x6)]) hx hb dX8_findGates_87 hl (by decide) rfl (fun ls hl => ?_)
              refine lv_iinc (v := x6 + (1 : Int32)) (lv' := [(6, .int (x6 + (1 : Int32))), (4, .long x4), (7, .long ((h0_cYes x6.toNatClampNeg) ||| (h0_cNo x6.toNatClampNeg))), (0, .ref q0), (1, .long x1)]) hx hb dX8_findGates_89 hl (k := 4) rfl rfl (by decide) rfl (fun ls hl => ?_)
              refine lv_goto (tgt := 21) hx hb dX8_findGates_92 (by decide) ?_
              exact ih.2.1 _ _ _ _ _ h _ _ _ hP hD hS (lv_sub hl [3, 4, 1, 0] rfl)
            · have k_12 : ¬ (x4 ≤ ((h0_cYes x6.toNatClampNeg) ||| (h0_cNo x6.toNatClampNeg))) := (fun z9 => c_11 ((lg_cmp_ge _ _).mpr z9))
              have h := cw_f k_12 h
              refine lv_lload hx hb dX8_findGates_62 (lv_at hl 0 rfl) ?_
              obtain ⟨u_13, hu_14, h⟩ := cw_b h
              refine kx_i (ws' := fun _ => [(q0, .inr (8, [v0_thrown, v0_n, v0_equations, v0_eSet, v0_eRight, .int f0_clauses, .ref q0_cYes, .ref q0_cNo, v0_levels, v0_levelEquations, v0_levelClauses, v0_tape, v0_tapeSize, v0_faultIs, v0_faultAt, v0_at, v0_newEquations, v0_newClauses, v0_newSet, v0_newRight, v0_newYes, v0_newNo, v0_lineYes, v0_lineNo, v0_rowCount, v0_rSet, v0_rRight, v0_isImpossible, v0_sumSet, v0_sumOf, v0_sumRight, v0_empty, v0_empties, v0_taken, v0_ones, v0_waitTaken, v0_waitOnes, v0_nodeCount, v0_lastModel, v0_modelCount, v0_modelIs, .ref q0_gSet, .int f0_gateCount])), (q0_cYes, .inl (cL, n0_cYes, .inr (.inl h0_cYes))), (q0_cNo, .inl (cL, n0_cNo, .inr (.inl h0_cNo))), (q0_gSet, .inl (cL, n0_gSet, .inr (.inl h0_gSet)))]) hP hD hS hA [] [0, 1, 2, 3] [0, 1, 2, 3] rfl (by decide) (by decide) (by decide) (fun _ => rfl) (by decide) (va_runS (As := [.long ((h0_cYes x6.toNatClampNeg) ||| (h0_cNo x6.toNatClampNeg))]) (rest := []) ⟨hx, hb, hml, hown, hts⟩ (cm_X8_bits l D cI cL (x0 := (h0_cYes x6.toNatClampNeg) ||| (h0_cNo x6.toNatClampNeg)) (r0 := u_13) (h0 := hu_14) (sz := H.size)) (va_cwS 1 hts gX8_findGates_X8_bits rfl rfl rfl (by decide +kernel) ⟨Nat.le_of_ble_eq_true rfl, Nat.le_of_ble_eq_true rfl⟩) (kx_preS hEV hP hD [] rfl (by decide)) rfl rfl hl.1 rfl (lv_room (Nat.le_of_ble_eq_true rfl)) dX8_findGates_64 ⟨Nat.le_refl _, Nat.le_refl _⟩) (fun _ H locs _ hP hD hS => ?_)
              refine lv_i2l (v := u_13.toInt64) hx hb dX8_findGates_67 rfl ?_
              refine lv_ldc2 hx hb hown lk_5 dX8_findGates_68 ?_
              refine lv_ldc2 hx hb hown lk_6 dX8_findGates_71 ?_
              obtain ⟨u_15, hu_16, h⟩ := cw_b h
              refine kx_i (ws' := fun _ => [(q0, .inr (8, [v0_thrown, v0_n, v0_equations, v0_eSet, v0_eRight, .int f0_clauses, .ref q0_cYes, .ref q0_cNo, v0_levels, v0_levelEquations, v0_levelClauses, v0_tape, v0_tapeSize, v0_faultIs, v0_faultAt, v0_at, v0_newEquations, v0_newClauses, v0_newSet, v0_newRight, v0_newYes, v0_newNo, v0_lineYes, v0_lineNo, v0_rowCount, v0_rSet, v0_rRight, v0_isImpossible, v0_sumSet, v0_sumOf, v0_sumRight, v0_empty, v0_empties, v0_taken, v0_ones, v0_waitTaken, v0_waitOnes, v0_nodeCount, v0_lastModel, v0_modelCount, v0_modelIs, .ref q0_gSet, .int f0_gateCount])), (q0_cYes, .inl (cL, n0_cYes, .inr (.inl h0_cYes))), (q0_cNo, .inl (cL, n0_cNo, .inr (.inl h0_cNo))), (q0_gSet, .inl (cL, n0_gSet, .inr (.inl h0_gSet)))]) hP hD hS hA [] [0, 1, 2, 3] [0, 1, 2, 3] rfl (by decide) (by decide) (by decide) (fun _ => rfl) (by decide) (va_runS (As := [.long u_13.toInt64, .long (2 : Int64), .long (4 : Int64)]) (rest := []) ⟨hx, hb, hml, hown, hts⟩ (cm_X8_isIn l D cI cL (x0 := u_13.toInt64) (x2 := (2 : Int64)) (x4 := (4 : Int64)) (r0 := u_15) (h0 := hu_16) (sz := H.size)) (va_cwS 3 hts gX8_findGates_X8_isIn rfl rfl rfl (by decide +kernel) ⟨Nat.le_of_ble_eq_true rfl, Nat.le_of_ble_eq_true rfl⟩) (kx_preS hEV hP hD [] rfl (by decide)) rfl rfl hl.1 rfl (lv_room (Nat.le_of_ble_eq_true rfl)) dX8_findGates_74 ⟨Nat.le_refl _, Nat.le_refl _⟩) (fun _ H locs _ hP hD hS => ?_)
              refine lv_if_eq (tgt := 85) hx hb dX8_findGates_77 (by decide) (fun c_17 => ?_) (fun c_17 => ?_)
              · have k_18 : ¬ (u_15 = true) := (kx_z c_17)
                have h := cw_f k_18 h
                refine lv_lload hx hb dX8_findGates_85 (lv_at hl 3 rfl) ?_
                refine lv_lstore (lv' := [(4, .long x4), (7, .long ((h0_cYes x6.toNatClampNeg) ||| (h0_cNo x6.toNatClampNeg))), (0, .ref q0), (1, .long x1), (6, .int x6)]) hx hb dX8_findGates_87 hl (by decide) rfl (fun ls hl => ?_)
                refine lv_iinc (v := x6 + (1 : Int32)) (lv' := [(6, .int (x6 + (1 : Int32))), (4, .long x4), (7, .long ((h0_cYes x6.toNatClampNeg) ||| (h0_cNo x6.toNatClampNeg))), (0, .ref q0), (1, .long x1)]) hx hb dX8_findGates_89 hl (k := 4) rfl rfl (by decide) rfl (fun ls hl => ?_)
                refine lv_goto (tgt := 21) hx hb dX8_findGates_92 (by decide) ?_
                exact ih.2.1 _ _ _ _ _ h _ _ _ hP hD hS (lv_sub hl [3, 4, 1, 0] rfl)
              · have k_18 : u_15 = true := (kx_nz c_17)
                have h := cw_t k_18 h
                refine lv_lload hx hb dX8_findGates_80 (lv_at hl 0 rfl) ?_
                refine lv_goto (tgt := 87) hx hb dX8_findGates_82 (by decide) ?_
                refine lv_lstore (lv' := [(4, .long ((h0_cYes x6.toNatClampNeg) ||| (h0_cNo x6.toNatClampNeg))), (7, .long ((h0_cYes x6.toNatClampNeg) ||| (h0_cNo x6.toNatClampNeg))), (0, .ref q0), (1, .long x1), (6, .int x6)]) hx hb dX8_findGates_87 hl (by decide) rfl (fun ls hl => ?_)
                refine lv_iinc (v := x6 + (1 : Int32)) (lv' := [(6, .int (x6 + (1 : Int32))), (4, .long ((h0_cYes x6.toNatClampNeg) ||| (h0_cNo x6.toNatClampNeg))), (7, .long ((h0_cYes x6.toNatClampNeg) ||| (h0_cNo x6.toNatClampNeg))), (0, .ref q0), (1, .long x1)]) hx hb dX8_findGates_89 hl (k := 4) rfl rfl (by decide) rfl (fun ls hl => ?_)
                refine lv_goto (tgt := 21) hx hb dX8_findGates_92 (by decide) ?_
                exact ih.2.1 _ _ _ _ _ h _ _ _ hP hD hS (lv_sub hl [3, 4, 1, 0] rfl)
      · intro x3 x4 x6 f0_gateCount h0_gSet h H locs ls hP hD hS hl
        have h : run1 (iter (st_X8_findGates f0_clauses n0_cYes h0_cYes n0_cNo h0_cNo n0_gSet) n9) (b_X8_findGates_113 f0_clauses n0_cYes h0_cYes n0_cNo h0_cNo n0_gSet x3 x4 x6 f0_gateCount h0_gSet) = some r0 := h
        unfold b_X8_findGates_113 at h
        refine lv_iload hx hb dX8_findGates_113 (lv_at hl 3 rfl) ?_
        refine lv_iconst (v := (2 : Int32)) hx hb dX8_findGates_115 (by decide) ?_
        refine lv_icmp_ge (tgt := 175) hx hb dX8_findGates_116 (by decide) (fun c_19 => ?_) (fun c_19 => ?_)
        · have k_20 : (2 : Int32) ≤ x6 := c_19
          have h := cw_t k_20 h
          refine lv_lload hx hb dX8_findGates_175 (lv_at hl 2 rfl) ?_
          refine lv_lstore_n (lv' := [(1, .long x4), (0, .ref q0), (3, .int (bI x3)), (4, .long x4), (6, .int x6)]) hx hb dX8_findGates_177 rfl hl (by decide) rfl (fun ls hl => ?_)
          refine lv_goto (tgt := 9) hx hb dX8_findGates_178 (by decide) ?_
          exact ih.1 _ _ _ _ h _ _ _ hP hD hS (lv_sub hl [1, 0, 2] rfl)
        · have k_20 : ¬ ((2 : Int32) ≤ x6) := c_19
          have h := cw_f k_20 h
          refine lv_iload_n hx hb dX8_findGates_119 rfl (lv_at hl 1 rfl) ?_
          refine lv_if_eq (tgt := 175) hx hb dX8_findGates_120 (by decide) (fun c_21 => ?_) (fun c_21 => ?_)
          · have k_22 : ¬ (x3 = true) := (kx_z c_21)
            have h := cw_f k_22 h
            refine lv_lload hx hb dX8_findGates_175 (lv_at hl 2 rfl) ?_
            refine lv_lstore_n (lv' := [(1, .long x4), (0, .ref q0), (3, .int (bI x3)), (4, .long x4), (6, .int x6)]) hx hb dX8_findGates_177 rfl hl (by decide) rfl (fun ls hl => ?_)
            refine lv_goto (tgt := 9) hx hb dX8_findGates_178 (by decide) ?_
            exact ih.1 _ _ _ _ h _ _ _ hP hD hS (lv_sub hl [1, 0, 2] rfl)
          · have k_22 : x3 = true := (kx_nz c_21)
            have h := cw_t k_22 h
            refine lv_aload_n hx hb dX8_findGates_123 rfl (lv_at hl 0 rfl) ?_
            refine lv_lload hx hb dX8_findGates_124 (lv_at hl 2 rfl) ?_
            refine lv_iload hx hb dX8_findGates_126 (lv_at hl 3 rfl) ?_
            obtain ⟨u_23, hu_24, h⟩ := cw_b h
            refine kx_i (ws' := fun _ => [(q0, .inr (8, [v0_thrown, v0_n, v0_equations, v0_eSet, v0_eRight, .int f0_clauses, .ref q0_cYes, .ref q0_cNo, v0_levels, v0_levelEquations, v0_levelClauses, v0_tape, v0_tapeSize, v0_faultIs, v0_faultAt, v0_at, v0_newEquations, v0_newClauses, v0_newSet, v0_newRight, v0_newYes, v0_newNo, v0_lineYes, v0_lineNo, v0_rowCount, v0_rSet, v0_rRight, v0_isImpossible, v0_sumSet, v0_sumOf, v0_sumRight, v0_empty, v0_empties, v0_taken, v0_ones, v0_waitTaken, v0_waitOnes, v0_nodeCount, v0_lastModel, v0_modelCount, v0_modelIs, .ref q0_gSet, .int f0_gateCount])), (q0_cYes, .inl (cL, n0_cYes, .inr (.inl h0_cYes))), (q0_cNo, .inl (cL, n0_cNo, .inr (.inl h0_cNo))), (q0_gSet, .inl (cL, n0_gSet, .inr (.inl h0_gSet)))]) hP hD hS hA [0, 1, 2] [3] [1, 2, 3, 0] rfl (by decide) (by decide) (by decide) (fun _ => rfl) (by decide) (va_runV (As := [.long x4, .int x6]) (rest := []) ⟨hx, hb, hml, hown, hts⟩ (cm_X8_isGate l D cI cL (q0 := q0) (q0_cYes := q0_cYes) (q0_cNo := q0_cNo) (n0_cYes := n0_cYes) (n0_cNo := n0_cNo) (f0_clauses := f0_clauses) (h0_cYes := h0_cYes) (h0_cNo := h0_cNo) (v0_thrown := v0_thrown) (v0_n := v0_n) (v0_equations := v0_equations) (v0_eSet := v0_eSet) (v0_eRight := v0_eRight) (v0_levels := v0_levels) (v0_levelEquations := v0_levelEquations) (v0_levelClauses := v0_levelClauses) (v0_tape := v0_tape) (v0_tapeSize := v0_tapeSize) (v0_faultIs := v0_faultIs) (v0_faultAt := v0_faultAt) (v0_at := v0_at) (v0_newEquations := v0_newEquations) (v0_newClauses := v0_newClauses) (v0_newSet := v0_newSet) (v0_newRight := v0_newRight) (v0_newYes := v0_newYes) (v0_newNo := v0_newNo) (v0_lineYes := v0_lineYes) (v0_lineNo := v0_lineNo) (v0_rowCount := v0_rowCount) (v0_rSet := v0_rSet) (v0_rRight := v0_rRight) (v0_isImpossible := v0_isImpossible) (v0_sumSet := v0_sumSet) (v0_sumOf := v0_sumOf) (v0_sumRight := v0_sumRight) (v0_empty := v0_empty) (v0_empties := v0_empties) (v0_taken := v0_taken) (v0_ones := v0_ones) (v0_waitTaken := v0_waitTaken) (v0_waitOnes := v0_waitOnes) (v0_nodeCount := v0_nodeCount) (v0_lastModel := v0_lastModel) (v0_modelCount := v0_modelCount) (v0_modelIs := v0_modelIs) (v0_gSet := .ref q0_gSet) (v0_gateCount := .int f0_gateCount) (x1 := x4) (x3 := x6) (r0 := u_23) (h0 := hu_24) (sz := H.size)) (cwV 2 hts gX8_findGates_X8_isGate rfl rfl rfl (by decide +kernel) ⟨Nat.le_of_ble_eq_true rfl, Nat.le_of_ble_eq_true rfl⟩) (kx_preV hEV hP hD [0, 1, 2] rfl (by decide) (k0 := 0) (ci := 8) rfl rfl rfl) rfl rfl hl.1 rfl (lv_room (Nat.le_of_ble_eq_true rfl)) dX8_findGates_128 ⟨Nat.le_refl _, Nat.le_refl _⟩) (fun _ H locs _ hP hD hS => ?_)
            refine lv_if_eq (tgt := 169) hx hb dX8_findGates_131 (by decide) (fun c_25 => ?_) (fun c_25 => ?_)
            · have k_26 : ¬ (u_23 = true) := (kx_z c_25)
              have h := cw_f k_26 h
              refine lv_iinc (v := x6 + (1 : Int32)) (lv' := [(6, .int (x6 + (1 : Int32))), (0, .ref q0), (3, .int (bI x3)), (4, .long x4)]) hx hb dX8_findGates_169 hl (k := 3) rfl rfl (by decide) rfl (fun ls hl => ?_)
              refine lv_goto (tgt := 113) hx hb dX8_findGates_172 (by decide) ?_
              exact ih.2.2 _ _ _ _ _ h _ _ _ hP hD hS (lv_sub hl [1, 2, 3, 0] rfl)
            · have k_26 : u_23 = true := (kx_nz c_25)
              have h := cw_t k_26 h
              refine lv_aload_n hx hb dX8_findGates_134 rfl (lv_at hl 0 rfl) ?_
              refine va_get (D := D) (ci := 8) (v := .ref q0_gSet) (C := RX8) (T := TX8) (N := 43) hx hb hts in_X8_findGates_X8 hown hK hP 0 rfl rfl 41 (by decide) lk_7 (fun _ h9 => h9) rfl dX8_findGates_135 ?_
              refine lv_aload_n hx hb dX8_findGates_138 rfl (lv_at hl 0 rfl) ?_
              refine va_get (D := D) (ci := 8) (v := .int f0_gateCount) (C := RX8) (T := TX8) (N := 43) hx hb hts in_X8_findGates_X8 hown hK hP 0 rfl rfl 42 (by decide) lk_0 (fun _ h9 => h9) rfl dX8_findGates_139 ?_
              refine lv_lload hx hb dX8_findGates_142 (lv_at hl 2 rfl) ?_
              refine lv_iload hx hb dX8_findGates_144 (lv_at hl 3 rfl) ?_
              refine lv_iconst (v := (1 : Int32)) hx hb dX8_findGates_146 (by decide) ?_
              refine lv_icmp_ne (tgt := 156) hx hb dX8_findGates_147 (by decide) (fun c_27 => ?_) (fun c_27 => ?_)
              · have k_28 : ¬ (x6 = (1 : Int32)) := c_27
                have h := cw_f k_28 h
                refine lv_lconst (v := (0 : Int64)) hx hb dX8_findGates_156 (by decide) ?_
                refine lv_lor hx hb dX8_findGates_157 ?_
                obtain ⟨b_29, h⟩ := cw_i h
                refine va_last hx hb hK hP hD hS 3 1 rfl rfl b_29 dX8_findGates_158 (fun H locs hP hD hS => ?_)
                have hP : va_P D vwCl [(q0, .inr (8, [v0_thrown, v0_n, v0_equations, v0_eSet, v0_eRight, .int f0_clauses, .ref q0_cYes, .ref q0_cNo, v0_levels, v0_levelEquations, v0_levelClauses, v0_tape, v0_tapeSize, v0_faultIs, v0_faultAt, v0_at, v0_newEquations, v0_newClauses, v0_newSet, v0_newRight, v0_newYes, v0_newNo, v0_lineYes, v0_lineNo, v0_rowCount, v0_rSet, v0_rRight, v0_isImpossible, v0_sumSet, v0_sumOf, v0_sumRight, v0_empty, v0_empties, v0_taken, v0_ones, v0_waitTaken, v0_waitOnes, v0_nodeCount, v0_lastModel, v0_modelCount, v0_modelIs, .ref q0_gSet, .int f0_gateCount])), (q0_cYes, .inl (cL, n0_cYes, .inr (.inl h0_cYes))), (q0_cNo, .inl (cL, n0_cNo, .inr (.inl h0_cNo))), (q0_gSet, .inl (cL, n0_gSet, .inr (.inl (vp_updL h0_gSet f0_gateCount.toNatClampNeg (x4 ||| (0 : Int64))))))] H := hP
                have hD : va_D A [(q0, .inr (8, [v0_thrown, v0_n, v0_equations, v0_eSet, v0_eRight, .int f0_clauses, .ref q0_cYes, .ref q0_cNo, v0_levels, v0_levelEquations, v0_levelClauses, v0_tape, v0_tapeSize, v0_faultIs, v0_faultAt, v0_at, v0_newEquations, v0_newClauses, v0_newSet, v0_newRight, v0_newYes, v0_newNo, v0_lineYes, v0_lineNo, v0_rowCount, v0_rSet, v0_rRight, v0_isImpossible, v0_sumSet, v0_sumOf, v0_sumRight, v0_empty, v0_empties, v0_taken, v0_ones, v0_waitTaken, v0_waitOnes, v0_nodeCount, v0_lastModel, v0_modelCount, v0_modelIs, .ref q0_gSet, .int f0_gateCount])), (q0_cYes, .inl (cL, n0_cYes, .inr (.inl h0_cYes))), (q0_cNo, .inl (cL, n0_cNo, .inr (.inl h0_cNo))), (q0_gSet, .inl (cL, n0_gSet, .inr (.inl (vp_updL h0_gSet f0_gateCount.toNatClampNeg (x4 ||| (0 : Int64))))))] := hD
                refine lv_aload_n hx hb dX8_findGates_159 rfl (lv_at hl 0 rfl) ?_
                refine lv_dup hx hb dX8_findGates_160 rfl ?_
                refine va_get (D := D) (ci := 8) (v := .int f0_gateCount) (C := RX8) (T := TX8) (N := 43) hx hb hts in_X8_findGates_X8 hown hK hP 0 rfl rfl 42 (by decide) lk_0 (fun _ h9 => h9) rfl dX8_findGates_161 ?_
                refine lv_iconst (v := (1 : Int32)) hx hb dX8_findGates_164 (by decide) ?_
                refine lv_iadd hx hb dX8_findGates_165 ?_
                refine va_put (D := D) (ci := 8) (v := .int (f0_gateCount + (1 : Int32))) (ty := .int) (C := RX8) (T := TX8) (N := 43) hx hb hts in_X8_findGates_X8 tyX8 tyX8_ok nmX8 hown hK hP hD hS 0 rfl rfl 42 (by decide) lk_0 (fun _ h9 => h9) rfl (by decide +kernel) rfl rfl (Nat.le_of_ble_eq_true rfl) dX8_findGates_166 (fun H locs hP hD hS => ?_)
                have hP : va_P D vwCl [(q0, .inr (8, [v0_thrown, v0_n, v0_equations, v0_eSet, v0_eRight, .int f0_clauses, .ref q0_cYes, .ref q0_cNo, v0_levels, v0_levelEquations, v0_levelClauses, v0_tape, v0_tapeSize, v0_faultIs, v0_faultAt, v0_at, v0_newEquations, v0_newClauses, v0_newSet, v0_newRight, v0_newYes, v0_newNo, v0_lineYes, v0_lineNo, v0_rowCount, v0_rSet, v0_rRight, v0_isImpossible, v0_sumSet, v0_sumOf, v0_sumRight, v0_empty, v0_empties, v0_taken, v0_ones, v0_waitTaken, v0_waitOnes, v0_nodeCount, v0_lastModel, v0_modelCount, v0_modelIs, .ref q0_gSet, .int (f0_gateCount + (1 : Int32))])), (q0_cYes, .inl (cL, n0_cYes, .inr (.inl h0_cYes))), (q0_cNo, .inl (cL, n0_cNo, .inr (.inl h0_cNo))), (q0_gSet, .inl (cL, n0_gSet, .inr (.inl (vp_updL h0_gSet f0_gateCount.toNatClampNeg (x4 ||| (0 : Int64))))))] H := hP
                have hD : va_D A [(q0, .inr (8, [v0_thrown, v0_n, v0_equations, v0_eSet, v0_eRight, .int f0_clauses, .ref q0_cYes, .ref q0_cNo, v0_levels, v0_levelEquations, v0_levelClauses, v0_tape, v0_tapeSize, v0_faultIs, v0_faultAt, v0_at, v0_newEquations, v0_newClauses, v0_newSet, v0_newRight, v0_newYes, v0_newNo, v0_lineYes, v0_lineNo, v0_rowCount, v0_rSet, v0_rRight, v0_isImpossible, v0_sumSet, v0_sumOf, v0_sumRight, v0_empty, v0_empties, v0_taken, v0_ones, v0_waitTaken, v0_waitOnes, v0_nodeCount, v0_lastModel, v0_modelCount, v0_modelIs, .ref q0_gSet, .int (f0_gateCount + (1 : Int32))])), (q0_cYes, .inl (cL, n0_cYes, .inr (.inl h0_cYes))), (q0_cNo, .inl (cL, n0_cNo, .inr (.inl h0_cNo))), (q0_gSet, .inl (cL, n0_gSet, .inr (.inl (vp_updL h0_gSet f0_gateCount.toNatClampNeg (x4 ||| (0 : Int64))))))] := hD
                refine lv_iinc (v := x6 + (1 : Int32)) (lv' := [(6, .int (x6 + (1 : Int32))), (0, .ref q0), (3, .int (bI x3)), (4, .long x4)]) hx hb dX8_findGates_169 hl (k := 3) rfl rfl (by decide) rfl (fun ls hl => ?_)
                refine lv_goto (tgt := 113) hx hb dX8_findGates_172 (by decide) ?_
                exact ih.2.2 _ _ _ _ _ h _ _ _ hP hD hS (lv_sub hl [1, 2, 3, 0] rfl)
              · have k_28 : x6 = (1 : Int32) := c_27
                have h := cw_t k_28 h
                refine lv_ldc2 hx hb hown lk_1 dX8_findGates_150 ?_
                refine lv_goto (tgt := 157) hx hb dX8_findGates_153 (by decide) ?_
                refine lv_lor hx hb dX8_findGates_157 ?_
                obtain ⟨b_30, h⟩ := cw_i h
                refine va_last hx hb hK hP hD hS 3 1 rfl rfl b_30 dX8_findGates_158 (fun H locs hP hD hS => ?_)
                have hP : va_P D vwCl [(q0, .inr (8, [v0_thrown, v0_n, v0_equations, v0_eSet, v0_eRight, .int f0_clauses, .ref q0_cYes, .ref q0_cNo, v0_levels, v0_levelEquations, v0_levelClauses, v0_tape, v0_tapeSize, v0_faultIs, v0_faultAt, v0_at, v0_newEquations, v0_newClauses, v0_newSet, v0_newRight, v0_newYes, v0_newNo, v0_lineYes, v0_lineNo, v0_rowCount, v0_rSet, v0_rRight, v0_isImpossible, v0_sumSet, v0_sumOf, v0_sumRight, v0_empty, v0_empties, v0_taken, v0_ones, v0_waitTaken, v0_waitOnes, v0_nodeCount, v0_lastModel, v0_modelCount, v0_modelIs, .ref q0_gSet, .int f0_gateCount])), (q0_cYes, .inl (cL, n0_cYes, .inr (.inl h0_cYes))), (q0_cNo, .inl (cL, n0_cNo, .inr (.inl h0_cNo))), (q0_gSet, .inl (cL, n0_gSet, .inr (.inl (vp_updL h0_gSet f0_gateCount.toNatClampNeg (x4 ||| (4611686018427387904 : Int64))))))] H := hP
                have hD : va_D A [(q0, .inr (8, [v0_thrown, v0_n, v0_equations, v0_eSet, v0_eRight, .int f0_clauses, .ref q0_cYes, .ref q0_cNo, v0_levels, v0_levelEquations, v0_levelClauses, v0_tape, v0_tapeSize, v0_faultIs, v0_faultAt, v0_at, v0_newEquations, v0_newClauses, v0_newSet, v0_newRight, v0_newYes, v0_newNo, v0_lineYes, v0_lineNo, v0_rowCount, v0_rSet, v0_rRight, v0_isImpossible, v0_sumSet, v0_sumOf, v0_sumRight, v0_empty, v0_empties, v0_taken, v0_ones, v0_waitTaken, v0_waitOnes, v0_nodeCount, v0_lastModel, v0_modelCount, v0_modelIs, .ref q0_gSet, .int f0_gateCount])), (q0_cYes, .inl (cL, n0_cYes, .inr (.inl h0_cYes))), (q0_cNo, .inl (cL, n0_cNo, .inr (.inl h0_cNo))), (q0_gSet, .inl (cL, n0_gSet, .inr (.inl (vp_updL h0_gSet f0_gateCount.toNatClampNeg (x4 ||| (4611686018427387904 : Int64))))))] := hD
                refine lv_aload_n hx hb dX8_findGates_159 rfl (lv_at hl 0 rfl) ?_
                refine lv_dup hx hb dX8_findGates_160 rfl ?_
                refine va_get (D := D) (ci := 8) (v := .int f0_gateCount) (C := RX8) (T := TX8) (N := 43) hx hb hts in_X8_findGates_X8 hown hK hP 0 rfl rfl 42 (by decide) lk_0 (fun _ h9 => h9) rfl dX8_findGates_161 ?_
                refine lv_iconst (v := (1 : Int32)) hx hb dX8_findGates_164 (by decide) ?_
                refine lv_iadd hx hb dX8_findGates_165 ?_
                refine va_put (D := D) (ci := 8) (v := .int (f0_gateCount + (1 : Int32))) (ty := .int) (C := RX8) (T := TX8) (N := 43) hx hb hts in_X8_findGates_X8 tyX8 tyX8_ok nmX8 hown hK hP hD hS 0 rfl rfl 42 (by decide) lk_0 (fun _ h9 => h9) rfl (by decide +kernel) rfl rfl (Nat.le_of_ble_eq_true rfl) dX8_findGates_166 (fun H locs hP hD hS => ?_)
                have hP : va_P D vwCl [(q0, .inr (8, [v0_thrown, v0_n, v0_equations, v0_eSet, v0_eRight, .int f0_clauses, .ref q0_cYes, .ref q0_cNo, v0_levels, v0_levelEquations, v0_levelClauses, v0_tape, v0_tapeSize, v0_faultIs, v0_faultAt, v0_at, v0_newEquations, v0_newClauses, v0_newSet, v0_newRight, v0_newYes, v0_newNo, v0_lineYes, v0_lineNo, v0_rowCount, v0_rSet, v0_rRight, v0_isImpossible, v0_sumSet, v0_sumOf, v0_sumRight, v0_empty, v0_empties, v0_taken, v0_ones, v0_waitTaken, v0_waitOnes, v0_nodeCount, v0_lastModel, v0_modelCount, v0_modelIs, .ref q0_gSet, .int (f0_gateCount + (1 : Int32))])), (q0_cYes, .inl (cL, n0_cYes, .inr (.inl h0_cYes))), (q0_cNo, .inl (cL, n0_cNo, .inr (.inl h0_cNo))), (q0_gSet, .inl (cL, n0_gSet, .inr (.inl (vp_updL h0_gSet f0_gateCount.toNatClampNeg (x4 ||| (4611686018427387904 : Int64))))))] H := hP
                have hD : va_D A [(q0, .inr (8, [v0_thrown, v0_n, v0_equations, v0_eSet, v0_eRight, .int f0_clauses, .ref q0_cYes, .ref q0_cNo, v0_levels, v0_levelEquations, v0_levelClauses, v0_tape, v0_tapeSize, v0_faultIs, v0_faultAt, v0_at, v0_newEquations, v0_newClauses, v0_newSet, v0_newRight, v0_newYes, v0_newNo, v0_lineYes, v0_lineNo, v0_rowCount, v0_rSet, v0_rRight, v0_isImpossible, v0_sumSet, v0_sumOf, v0_sumRight, v0_empty, v0_empties, v0_taken, v0_ones, v0_waitTaken, v0_waitOnes, v0_nodeCount, v0_lastModel, v0_modelCount, v0_modelIs, .ref q0_gSet, .int (f0_gateCount + (1 : Int32))])), (q0_cYes, .inl (cL, n0_cYes, .inr (.inl h0_cYes))), (q0_cNo, .inl (cL, n0_cNo, .inr (.inl h0_cNo))), (q0_gSet, .inl (cL, n0_gSet, .inr (.inl (vp_updL h0_gSet f0_gateCount.toNatClampNeg (x4 ||| (4611686018427387904 : Int64))))))] := hD
                refine lv_iinc (v := x6 + (1 : Int32)) (lv' := [(6, .int (x6 + (1 : Int32))), (0, .ref q0), (3, .int (bI x3)), (4, .long x4)]) hx hb dX8_findGates_169 hl (k := 3) rfl rfl (by decide) rfl (fun ls hl => ?_)
                refine lv_goto (tgt := 113) hx hb dX8_findGates_172 (by decide) ?_
                exact ih.2.2 _ _ _ _ _ h _ _ _ hP hD hS (lv_sub hl [1, 2, 3, 0] rfl)
  have h := h0
  unfold D_X8_findGates at h
  refine lv_aload_n hx hb dX8_findGates_0 rfl (lv_at hl 0 rfl) ?_
  refine lv_iconst (v := (0 : Int32)) hx hb dX8_findGates_1 (by decide) ?_
  refine va_put (D := D) (ci := 8) (v := .int (0 : Int32)) (ty := .int) (C := RX8) (T := TX8) (N := 43) hx hb hts in_X8_findGates_X8 tyX8 tyX8_ok nmX8 hown hK hP hD hS 0 rfl rfl 42 (by decide) lk_0 (fun _ h9 => h9) rfl (by decide +kernel) rfl rfl (Nat.le_of_ble_eq_true rfl) dX8_findGates_2 (fun H locs hP hD hS => ?_)
  have hP : va_P D vwCl [(q0, .inr (8, [v0_thrown, v0_n, v0_equations, v0_eSet, v0_eRight, .int f0_clauses, .ref q0_cYes, .ref q0_cNo, v0_levels, v0_levelEquations, v0_levelClauses, v0_tape, v0_tapeSize, v0_faultIs, v0_faultAt, v0_at, v0_newEquations, v0_newClauses, v0_newSet, v0_newRight, v0_newYes, v0_newNo, v0_lineYes, v0_lineNo, v0_rowCount, v0_rSet, v0_rRight, v0_isImpossible, v0_sumSet, v0_sumOf, v0_sumRight, v0_empty, v0_empties, v0_taken, v0_ones, v0_waitTaken, v0_waitOnes, v0_nodeCount, v0_lastModel, v0_modelCount, v0_modelIs, .ref q0_gSet, .int (0 : Int32)])), (q0_cYes, .inl (cL, n0_cYes, .inr (.inl h0_cYes))), (q0_cNo, .inl (cL, n0_cNo, .inr (.inl h0_cNo))), (q0_gSet, .inl (cL, n0_gSet, .inr (.inl h0_gSet)))] H := hP
  have hD : va_D A [(q0, .inr (8, [v0_thrown, v0_n, v0_equations, v0_eSet, v0_eRight, .int f0_clauses, .ref q0_cYes, .ref q0_cNo, v0_levels, v0_levelEquations, v0_levelClauses, v0_tape, v0_tapeSize, v0_faultIs, v0_faultAt, v0_at, v0_newEquations, v0_newClauses, v0_newSet, v0_newRight, v0_newYes, v0_newNo, v0_lineYes, v0_lineNo, v0_rowCount, v0_rSet, v0_rRight, v0_isImpossible, v0_sumSet, v0_sumOf, v0_sumRight, v0_empty, v0_empties, v0_taken, v0_ones, v0_waitTaken, v0_waitOnes, v0_nodeCount, v0_lastModel, v0_modelCount, v0_modelIs, .ref q0_gSet, .int (0 : Int32)])), (q0_cYes, .inl (cL, n0_cYes, .inr (.inl h0_cYes))), (q0_cNo, .inl (cL, n0_cNo, .inr (.inl h0_cNo))), (q0_gSet, .inl (cL, n0_gSet, .inr (.inl h0_gSet)))] := hD
  refine lv_lconst (v := (0 : Int64)) hx hb dX8_findGates_5 (by decide) ?_
  refine lv_lstore_n (lv' := [(1, .long (0 : Int64)), (0, .ref q0)]) hx hb dX8_findGates_6 rfl hl (by decide) rfl (fun ls hl => ?_)
  refine lv_iconst (v := (1 : Int32)) hx hb dX8_findGates_7 (by decide) ?_
  refine lv_istore_n (lv' := [(3, .int (1 : Int32)), (1, .long (0 : Int64)), (0, .ref q0)]) hx hb dX8_findGates_8 rfl hl (by decide) rfl (fun ls hl => ?_)
  obtain ⟨n9, hn9⟩ := runw_some h
  exact (hloop n9).1 _ _ _ _ hn9 _ _ _ hP hD hS (lv_sub hl [2, 1, 0] rfl)
noncomputable def D_X8_gates (f0_thrown : Int32) (f0_clauses : Int32) (f0_gateCount : Int32) (n0_cYes : Nat) (h0_cYes : Nat → Int64) (n0_cNo : Nat) (h0_cNo : Nat → Int64) (n0_gSet : Nat) (h0_gSet : Nat → Int64) : Option (Int32 × Int32 × Int32 × (Nat → Int64)) :=
  Option.bind (D_X8_findGates f0_clauses f0_gateCount n0_cYes h0_cYes n0_cNo h0_cNo n0_gSet h0_gSet) (fun u_1 =>
    some (u_1.1, (0 : Int32), u_1.1, u_1.2))
theorem in_X8_gates_X8 : ∀ w ∈ wsX80, w ∈ wsX8_gates := by decide +kernel
theorem lk_0_X8_gates : Cond.fieldLink RX8 81 "ParityClausesModel" "thrown" "I" ∈ wsX8_gates := by decide +kernel
theorem lk_1_X8_gates : Cond.fieldLink RX8 243 "ParityClausesModel" "gateCount" "I" ∈ wsX8_gates := by decide +kernel
abbrev rm_X8_gates : Room := { frames := 4, cells := 0, slots := 0, locals := 99 }
set_option maxHeartbeats 4000000 in
set_option maxRecDepth 100000 in
theorem cm_X8_gates (l : Launch) (D : va_G) (cI cL : ClassId) (q0 q0_cYes q0_cNo q0_gSet : Nat) (n0_cYes n0_cNo n0_gSet : Nat) (f0_thrown : Int32) (f0_clauses : Int32) (f0_gateCount : Int32) (h0_cYes : Nat → Int64) (h0_cNo : Nat → Int64) (h0_gSet : Nat → Int64) (v0_n v0_equations v0_eSet v0_eRight v0_levels v0_levelEquations v0_levelClauses v0_tape v0_tapeSize v0_faultIs v0_faultAt v0_at v0_newEquations v0_newClauses v0_newSet v0_newRight v0_newYes v0_newNo v0_lineYes v0_lineNo v0_rowCount v0_rSet v0_rRight v0_isImpossible v0_sumSet v0_sumOf v0_sumRight v0_empty v0_empties v0_taken v0_ones v0_waitTaken v0_waitOnes v0_nodeCount v0_lastModel v0_modelCount v0_modelIs : Value) (r0 : Int32 × Int32 × Int32 × (Nat → Int64)) (h0 : D_X8_gates f0_thrown f0_clauses f0_gateCount n0_cYes h0_cYes n0_cNo h0_cNo n0_gSet h0_gSet = some r0) (sz : Nat) : Met l yX8_gates wsX8_gates rm_X8_gates (PcW D cI cL [.ref q0] [(q0, .inr (8, [.int f0_thrown, v0_n, v0_equations, v0_eSet, v0_eRight, .int f0_clauses, .ref q0_cYes, .ref q0_cNo, v0_levels, v0_levelEquations, v0_levelClauses, v0_tape, v0_tapeSize, v0_faultIs, v0_faultAt, v0_at, v0_newEquations, v0_newClauses, v0_newSet, v0_newRight, v0_newYes, v0_newNo, v0_lineYes, v0_lineNo, v0_rowCount, v0_rSet, v0_rRight, v0_isImpossible, v0_sumSet, v0_sumOf, v0_sumRight, v0_empty, v0_empties, v0_taken, v0_ones, v0_waitTaken, v0_waitOnes, v0_nodeCount, v0_lastModel, v0_modelCount, v0_modelIs, .ref q0_gSet, .int f0_gateCount])), (q0_cYes, .inl (cL, n0_cYes, .inr (.inl h0_cYes))), (q0_cNo, .inl (cL, n0_cNo, .inr (.inl h0_cNo))), (q0_gSet, .inl (cL, n0_gSet, .inr (.inl h0_gSet)))] sz) (QiW D [(q0, .inr (8, [.int f0_thrown, v0_n, v0_equations, v0_eSet, v0_eRight, .int f0_clauses, .ref q0_cYes, .ref q0_cNo, v0_levels, v0_levelEquations, v0_levelClauses, v0_tape, v0_tapeSize, v0_faultIs, v0_faultAt, v0_at, v0_newEquations, v0_newClauses, v0_newSet, v0_newRight, v0_newYes, v0_newNo, v0_lineYes, v0_lineNo, v0_rowCount, v0_rSet, v0_rRight, v0_isImpossible, v0_sumSet, v0_sumOf, v0_sumRight, v0_empty, v0_empties, v0_taken, v0_ones, v0_waitTaken, v0_waitOnes, v0_nodeCount, v0_lastModel, v0_modelCount, v0_modelIs, .ref q0_gSet, .int f0_gateCount])), (q0_cYes, .inl (cL, n0_cYes, .inr (.inl h0_cYes))), (q0_cNo, .inl (cL, n0_cNo, .inr (.inl h0_cNo))), (q0_gSet, .inl (cL, n0_gSet, .inr (.inl h0_gSet)))] r0.1 (fun _ : Unit => [(q0, .inr (8, [.int r0.2.1, v0_n, v0_equations, v0_eSet, v0_eRight, .int f0_clauses, .ref q0_cYes, .ref q0_cNo, v0_levels, v0_levelEquations, v0_levelClauses, v0_tape, v0_tapeSize, v0_faultIs, v0_faultAt, v0_at, v0_newEquations, v0_newClauses, v0_newSet, v0_newRight, v0_newYes, v0_newNo, v0_lineYes, v0_lineNo, v0_rowCount, v0_rSet, v0_rRight, v0_isImpossible, v0_sumSet, v0_sumOf, v0_sumRight, v0_empty, v0_empties, v0_taken, v0_ones, v0_waitTaken, v0_waitOnes, v0_nodeCount, v0_lastModel, v0_modelCount, v0_modelIs, .ref q0_gSet, .int r0.2.2.1])), (q0_cYes, .inl (cL, n0_cYes, .inr (.inl h0_cYes))), (q0_cNo, .inl (cL, n0_cNo, .inr (.inl h0_cNo))), (q0_gSet, .inl (cL, n0_gSet, .inr (.inl r0.2.2.2)))]) tU sz) 0 0 (va_A [(q0, .inr (8, [.int f0_thrown, v0_n, v0_equations, v0_eSet, v0_eRight, .int f0_clauses, .ref q0_cYes, .ref q0_cNo, v0_levels, v0_levelEquations, v0_levelClauses, v0_tape, v0_tapeSize, v0_faultIs, v0_faultAt, v0_at, v0_newEquations, v0_newClauses, v0_newSet, v0_newRight, v0_newYes, v0_newNo, v0_lineYes, v0_lineNo, v0_rowCount, v0_rSet, v0_rRight, v0_isImpossible, v0_sumSet, v0_sumOf, v0_sumRight, v0_empty, v0_empties, v0_taken, v0_ones, v0_waitTaken, v0_waitOnes, v0_nodeCount, v0_lastModel, v0_modelCount, v0_modelIs, .ref q0_gSet, .int f0_gateCount])), (q0_cYes, .inl (cL, n0_cYes, .inr (.inl h0_cYes))), (q0_cNo, .inl (cL, n0_cNo, .inr (.inl h0_cNo))), (q0_gSet, .inl (cL, n0_gSet, .inr (.inl h0_gSet)))] sz) := by
  refine Met.ofW (cc := cX8_gates) (maxL := 1) (ret := (some .int)) (by decide) rfl ?_
  intro p e s m args below meth c s₁ B hml hv
  obtain ⟨hargs, hsz, hP, hEV, hD0⟩ := hv
  have hx := B.exec
  have hb := B.bytes
  have hr := B.returns
  have hts := atoms_spec (ws := wsX8_gates) B.pre
  have hown : s.vm.findClass RX8 = some m.cls := findClass_of_methodNamed B.named
  have hlocks := B.notSynchronized
  have hK := hEV.K
  have lk_0 := hts _ lk_0_X8_gates
  have lk_1 := hts _ lk_1_X8_gates
  subst hsz
  unfold QiW PoW
  have hD := hD0.self (sz := s.heap.size)
  generalize hAe : va_A [(q0, .inr (8, [.int f0_thrown, v0_n, v0_equations, v0_eSet, v0_eRight, .int f0_clauses, .ref q0_cYes, .ref q0_cNo, v0_levels, v0_levelEquations, v0_levelClauses, v0_tape, v0_tapeSize, v0_faultIs, v0_faultAt, v0_at, v0_newEquations, v0_newClauses, v0_newSet, v0_newRight, v0_newYes, v0_newNo, v0_lineYes, v0_lineNo, v0_rowCount, v0_rSet, v0_rRight, v0_isImpossible, v0_sumSet, v0_sumOf, v0_sumRight, v0_empty, v0_empties, v0_taken, v0_ones, v0_waitTaken, v0_waitOnes, v0_nodeCount, v0_lastModel, v0_modelCount, v0_modelIs, .ref q0_gSet, .int f0_gateCount])), (q0_cYes, .inl (cL, n0_cYes, .inr (.inl h0_cYes))), (q0_cNo, .inl (cL, n0_cNo, .inr (.inl h0_cNo))), (q0_gSet, .inl (cL, n0_gSet, .inr (.inl h0_gSet)))] s.heap.size = A at hD ⊢
  have hA : ∀ q : Nat, s.heap.size ≤ q → A q := fun q h => by rw [← hAe]; exact Or.inr h
  have hS : va_S A s.heap s.heap [] := va_S.rf
  have hent : entryFrame m args 1 = entryFrame m ([.ref q0] : List Value).toArray 1 := by rw [hargs]
  rw [hent]
  refine kx_Q (fun Q hQ => ?_)
  have hl := lv_entry ([.ref q0]) (n := 1) (Nat.le_of_ble_eq_true rfl)
  rw [lg_entry_eq]
  generalize (lg_sl ([.ref q0]) ++ List.replicate (1 - (lg_sl ([.ref q0])).length) Slot.unset).toArray = ls at hl ⊢
  have hl : lv_has ls 1 [(0, .ref q0)] := hl
  have h := h0
  unfold D_X8_gates at h
  refine lv_aload_n hx hb dX8_gates_0 rfl (lv_at hl 0 rfl) ?_
  refine lv_iconst (v := (0 : Int32)) hx hb dX8_gates_1 (by decide) ?_
  refine va_put (D := D) (ci := 8) (v := .int (0 : Int32)) (ty := .int) (C := RX8) (T := TX8) (N := 43) hx hb hts in_X8_gates_X8 tyX8 tyX8_ok nmX8 hown hK hP hD hS 0 rfl rfl 0 (by decide) lk_0 (fun _ h9 => h9) rfl (by decide +kernel) rfl rfl (Nat.le_of_ble_eq_true rfl) dX8_gates_2 (fun H locs hP hD hS => ?_)
  have hP : va_P D vwCl [(q0, .inr (8, [.int (0 : Int32), v0_n, v0_equations, v0_eSet, v0_eRight, .int f0_clauses, .ref q0_cYes, .ref q0_cNo, v0_levels, v0_levelEquations, v0_levelClauses, v0_tape, v0_tapeSize, v0_faultIs, v0_faultAt, v0_at, v0_newEquations, v0_newClauses, v0_newSet, v0_newRight, v0_newYes, v0_newNo, v0_lineYes, v0_lineNo, v0_rowCount, v0_rSet, v0_rRight, v0_isImpossible, v0_sumSet, v0_sumOf, v0_sumRight, v0_empty, v0_empties, v0_taken, v0_ones, v0_waitTaken, v0_waitOnes, v0_nodeCount, v0_lastModel, v0_modelCount, v0_modelIs, .ref q0_gSet, .int f0_gateCount])), (q0_cYes, .inl (cL, n0_cYes, .inr (.inl h0_cYes))), (q0_cNo, .inl (cL, n0_cNo, .inr (.inl h0_cNo))), (q0_gSet, .inl (cL, n0_gSet, .inr (.inl h0_gSet)))] H := hP
  have hD : va_D A [(q0, .inr (8, [.int (0 : Int32), v0_n, v0_equations, v0_eSet, v0_eRight, .int f0_clauses, .ref q0_cYes, .ref q0_cNo, v0_levels, v0_levelEquations, v0_levelClauses, v0_tape, v0_tapeSize, v0_faultIs, v0_faultAt, v0_at, v0_newEquations, v0_newClauses, v0_newSet, v0_newRight, v0_newYes, v0_newNo, v0_lineYes, v0_lineNo, v0_rowCount, v0_rSet, v0_rRight, v0_isImpossible, v0_sumSet, v0_sumOf, v0_sumRight, v0_empty, v0_empties, v0_taken, v0_ones, v0_waitTaken, v0_waitOnes, v0_nodeCount, v0_lastModel, v0_modelCount, v0_modelIs, .ref q0_gSet, .int f0_gateCount])), (q0_cYes, .inl (cL, n0_cYes, .inr (.inl h0_cYes))), (q0_cNo, .inl (cL, n0_cNo, .inr (.inl h0_cNo))), (q0_gSet, .inl (cL, n0_gSet, .inr (.inl h0_gSet)))] := hD
  refine lv_aload_n hx hb dX8_gates_5 rfl (lv_at hl 0 rfl) ?_
  obtain ⟨u_1, hu_2, h⟩ := co_b h
  refine kx_v (ws' := fun _ => [(q0, .inr (8, [.int (0 : Int32), v0_n, v0_equations, v0_eSet, v0_eRight, .int f0_clauses, .ref q0_cYes, .ref q0_cNo, v0_levels, v0_levelEquations, v0_levelClauses, v0_tape, v0_tapeSize, v0_faultIs, v0_faultAt, v0_at, v0_newEquations, v0_newClauses, v0_newSet, v0_newRight, v0_newYes, v0_newNo, v0_lineYes, v0_lineNo, v0_rowCount, v0_rSet, v0_rRight, v0_isImpossible, v0_sumSet, v0_sumOf, v0_sumRight, v0_empty, v0_empties, v0_taken, v0_ones, v0_waitTaken, v0_waitOnes, v0_nodeCount, v0_lastModel, v0_modelCount, v0_modelIs, .ref q0_gSet, .int u_1.1])), (q0_cYes, .inl (cL, n0_cYes, .inr (.inl h0_cYes))), (q0_cNo, .inl (cL, n0_cNo, .inr (.inl h0_cNo))), (q0_gSet, .inl (cL, n0_gSet, .inr (.inl u_1.2)))]) hP hD hS hA [0, 1, 2, 3] [] [0, 1, 2, 3] rfl (by decide) (by decide) (by decide) (fun _ => rfl) (by decide) (va_runV (As := []) (rest := []) ⟨hx, hb, hml, hown, hts⟩ (cm_X8_findGates l D cI cL (q0 := q0) (q0_cYes := q0_cYes) (q0_cNo := q0_cNo) (q0_gSet := q0_gSet) (n0_cYes := n0_cYes) (n0_cNo := n0_cNo) (n0_gSet := n0_gSet) (f0_clauses := f0_clauses) (f0_gateCount := f0_gateCount) (h0_cYes := h0_cYes) (h0_cNo := h0_cNo) (h0_gSet := h0_gSet) (v0_thrown := .int (0 : Int32)) (v0_n := v0_n) (v0_equations := v0_equations) (v0_eSet := v0_eSet) (v0_eRight := v0_eRight) (v0_levels := v0_levels) (v0_levelEquations := v0_levelEquations) (v0_levelClauses := v0_levelClauses) (v0_tape := v0_tape) (v0_tapeSize := v0_tapeSize) (v0_faultIs := v0_faultIs) (v0_faultAt := v0_faultAt) (v0_at := v0_at) (v0_newEquations := v0_newEquations) (v0_newClauses := v0_newClauses) (v0_newSet := v0_newSet) (v0_newRight := v0_newRight) (v0_newYes := v0_newYes) (v0_newNo := v0_newNo) (v0_lineYes := v0_lineYes) (v0_lineNo := v0_lineNo) (v0_rowCount := v0_rowCount) (v0_rSet := v0_rSet) (v0_rRight := v0_rRight) (v0_isImpossible := v0_isImpossible) (v0_sumSet := v0_sumSet) (v0_sumOf := v0_sumOf) (v0_sumRight := v0_sumRight) (v0_empty := v0_empty) (v0_empties := v0_empties) (v0_taken := v0_taken) (v0_ones := v0_ones) (v0_waitTaken := v0_waitTaken) (v0_waitOnes := v0_waitOnes) (v0_nodeCount := v0_nodeCount) (v0_lastModel := v0_lastModel) (v0_modelCount := v0_modelCount) (v0_modelIs := v0_modelIs) (r0 := u_1) (h0 := hu_2) (sz := H.size)) (cwV 0 hts gX8_gates_X8_findGates rfl rfl rfl (by decide +kernel) ⟨Nat.le_of_ble_eq_true rfl, Nat.le_of_ble_eq_true rfl⟩) (kx_preV hEV hP hD [0, 1, 2, 3] rfl (by decide) (k0 := 0) (ci := 8) rfl rfl rfl) rfl rfl hl.1 rfl (lv_room (Nat.le_of_ble_eq_true rfl)) dX8_gates_6 ⟨Nat.le_refl _, Nat.le_refl _⟩) (fun _ H locs _ hP hD hS => ?_)
  refine lv_aload_n hx hb dX8_gates_9 rfl (lv_at hl 0 rfl) ?_
  refine va_get (D := D) (ci := 8) (v := .int u_1.1) (C := RX8) (T := TX8) (N := 43) hx hb hts in_X8_gates_X8 hown hK hP 0 rfl rfl 42 (by decide) lk_1 (fun _ h9 => h9) rfl dX8_gates_10 ?_
  have h := Option.some.inj h
  subst h
  subst hQ
  exact W.iret (v := u_1.1) hx hb hr (fun t ht hW => ⟨⟨u_1.1, (), rfl, ⟨rfl, trivial⟩, by rw [ht]; exact hP, hD⟩, hS.F ht⟩) hS.2.2 dX8_gates_13
