abbrev S_X8_solution : Type := (Int32 × Int64 × Int32 × Int32 × Int32 × Int32 × Bool × (Nat → Int64) × (Nat → Int32))
noncomputable def b_X8_solution_64 (f0_n : Int32) (f0_equations : Int32) (n0_eSet : Nat) (h0_eSet : Nat → Int64) (n0_eRight : Nat) (h0_eRight : Nat → Int32) (n0_rSet : Nat) (n0_rRight : Nat) (x1 : Int64) (x3 : Int32) (x4 : Int64) (x6 : Int32) (x7 : Int32) (f0_thrown : Int32) (f0_rowCount : Int32) (f0_isImpossible : Bool) (h0_rSet : Nat → Int64) (h0_rRight : Nat → Int32) : Option (Int64 × Int32 × Int32 × Bool × (Nat → Int64) × (Nat → Int32)) ⊕ S_X8_solution :=
  cif (f0_n ≤ x7)
    (.inl (some (x4, f0_thrown, f0_rowCount, f0_isImpossible, h0_rSet, h0_rRight)))
    (cif (f0_rowCount ≤ x6)
      (cif (((jshr x1 (x3 + (-1 : Int32))) &&& (1 : Int64)) = (1 : Int64))
        (.inr (x3 + (-1 : Int32), x4 ||| (jshl (1 : Int64) x7), x6, x7 + (1 : Int32), f0_thrown, f0_rowCount, f0_isImpossible, h0_rSet, h0_rRight))
        (.inr (x3 + (-1 : Int32), x4 ||| (0 : Int64), x6, x7 + (1 : Int32), f0_thrown, f0_rowCount, f0_isImpossible, h0_rSet, h0_rRight)))
      (cif (vp_in x6 n0_rSet)
        (sbd (D_X8_highest (h0_rSet x6.toNatClampNeg)) (fun u_16 =>
          cif (u_16 = (jshl (1 : Int64) x7))
            (cif (vp_in x6 n0_rRight)
              (cif (vp_in x6 n0_rSet)
                (sbd (D_X8_parity ((h0_rSet x6.toNatClampNeg) &&& x4)) (fun u_24 =>
                  cif (((h0_rRight x6.toNatClampNeg) ^^^ u_24) = (1 : Int32))
                    (.inr (x3, x4 ||| (jshl (1 : Int64) x7), x6 + (1 : Int32), x7 + (1 : Int32), f0_thrown, f0_rowCount, f0_isImpossible, h0_rSet, h0_rRight))
                    (.inr (x3, x4 ||| (0 : Int64), x6 + (1 : Int32), x7 + (1 : Int32), f0_thrown, f0_rowCount, f0_isImpossible, h0_rSet, h0_rRight))))
                (.inl none))
              (.inl none))
            (cif (((jshr x1 (x3 + (-1 : Int32))) &&& (1 : Int64)) = (1 : Int64))
              (.inr (x3 + (-1 : Int32), x4 ||| (jshl (1 : Int64) x7), x6, x7 + (1 : Int32), f0_thrown, f0_rowCount, f0_isImpossible, h0_rSet, h0_rRight))
              (.inr (x3 + (-1 : Int32), x4 ||| (0 : Int64), x6, x7 + (1 : Int32), f0_thrown, f0_rowCount, f0_isImpossible, h0_rSet, h0_rRight)))))
        (.inl none)))
noncomputable def st_X8_solution (f0_n : Int32) (f0_equations : Int32) (n0_eSet : Nat) (h0_eSet : Nat → Int64) (n0_eRight : Nat) (h0_eRight : Nat → Int32) (n0_rSet : Nat) (n0_rRight : Nat) (x1 : Int64) : S_X8_solution → Option (Int64 × Int32 × Int32 × Bool × (Nat → Int64) × (Nat → Int32)) ⊕ S_X8_solution := fun x => match x with
  | (x3, x4, x6, x7, f0_thrown, f0_rowCount, f0_isImpossible, h0_rSet, h0_rRight) => b_X8_solution_64 f0_n f0_equations n0_eSet h0_eSet n0_eRight h0_eRight n0_rSet n0_rRight x1 x3 x4 x6 x7 f0_thrown f0_rowCount f0_isImpossible h0_rSet h0_rRight
noncomputable def L_X8_solution_64 (f0_n : Int32) (f0_equations : Int32) (n0_eSet : Nat) (h0_eSet : Nat → Int64) (n0_eRight : Nat) (h0_eRight : Nat → Int32) (n0_rSet : Nat) (n0_rRight : Nat) (x1 : Int64) (x3 : Int32) (x4 : Int64) (x6 : Int32) (x7 : Int32) (f0_thrown : Int32) (f0_rowCount : Int32) (f0_isImpossible : Bool) (h0_rSet : Nat → Int64) (h0_rRight : Nat → Int32) : Option (Int64 × Int32 × Int32 × Bool × (Nat → Int64) × (Nat → Int32)) := runw (st_X8_solution f0_n f0_equations n0_eSet h0_eSet n0_eRight h0_eRight n0_rSet n0_rRight x1) (x3, x4, x6, x7, f0_thrown, f0_rowCount, f0_isImpossible, h0_rSet, h0_rRight)
theorem E_X8_solution_64 (f0_n : Int32) (f0_equations : Int32) (n0_eSet : Nat) (h0_eSet : Nat → Int64) (n0_eRight : Nat) (h0_eRight : Nat → Int32) (n0_rSet : Nat) (n0_rRight : Nat) (x1 : Int64) (x3 : Int32) (x4 : Int64) (x6 : Int32) (x7 : Int32) (f0_thrown : Int32) (f0_rowCount : Int32) (f0_isImpossible : Bool) (h0_rSet : Nat → Int64) (h0_rRight : Nat → Int32) : L_X8_solution_64 f0_n f0_equations n0_eSet h0_eSet n0_eRight h0_eRight n0_rSet n0_rRight x1 x3 x4 x6 x7 f0_thrown f0_rowCount f0_isImpossible h0_rSet h0_rRight =
    cif (f0_n ≤ x7)
      (some (x4, f0_thrown, f0_rowCount, f0_isImpossible, h0_rSet, h0_rRight))
      (cif (f0_rowCount ≤ x6)
        (cif (((jshr x1 (x3 + (-1 : Int32))) &&& (1 : Int64)) = (1 : Int64))
          (L_X8_solution_64 f0_n f0_equations n0_eSet h0_eSet n0_eRight h0_eRight n0_rSet n0_rRight x1 (x3 + (-1 : Int32)) (x4 ||| (jshl (1 : Int64) x7)) x6 (x7 + (1 : Int32)) f0_thrown f0_rowCount f0_isImpossible h0_rSet h0_rRight)
          (L_X8_solution_64 f0_n f0_equations n0_eSet h0_eSet n0_eRight h0_eRight n0_rSet n0_rRight x1 (x3 + (-1 : Int32)) (x4 ||| (0 : Int64)) x6 (x7 + (1 : Int32)) f0_thrown f0_rowCount f0_isImpossible h0_rSet h0_rRight))
        (cif (vp_in x6 n0_rSet)
          (Option.bind (D_X8_highest (h0_rSet x6.toNatClampNeg)) (fun u_16 =>
            cif (u_16 = (jshl (1 : Int64) x7))
              (cif (vp_in x6 n0_rRight)
                (cif (vp_in x6 n0_rSet)
                  (Option.bind (D_X8_parity ((h0_rSet x6.toNatClampNeg) &&& x4)) (fun u_24 =>
                    cif (((h0_rRight x6.toNatClampNeg) ^^^ u_24) = (1 : Int32))
                      (L_X8_solution_64 f0_n f0_equations n0_eSet h0_eSet n0_eRight h0_eRight n0_rSet n0_rRight x1 x3 (x4 ||| (jshl (1 : Int64) x7)) (x6 + (1 : Int32)) (x7 + (1 : Int32)) f0_thrown f0_rowCount f0_isImpossible h0_rSet h0_rRight)
                      (L_X8_solution_64 f0_n f0_equations n0_eSet h0_eSet n0_eRight h0_eRight n0_rSet n0_rRight x1 x3 (x4 ||| (0 : Int64)) (x6 + (1 : Int32)) (x7 + (1 : Int32)) f0_thrown f0_rowCount f0_isImpossible h0_rSet h0_rRight)))
                  (none))
                (none))
              (cif (((jshr x1 (x3 + (-1 : Int32))) &&& (1 : Int64)) = (1 : Int64))
                (L_X8_solution_64 f0_n f0_equations n0_eSet h0_eSet n0_eRight h0_eRight n0_rSet n0_rRight x1 (x3 + (-1 : Int32)) (x4 ||| (jshl (1 : Int64) x7)) x6 (x7 + (1 : Int32)) f0_thrown f0_rowCount f0_isImpossible h0_rSet h0_rRight)
                (L_X8_solution_64 f0_n f0_equations n0_eSet h0_eSet n0_eRight h0_eRight n0_rSet n0_rRight x1 (x3 + (-1 : Int32)) (x4 ||| (0 : Int64)) x6 (x7 + (1 : Int32)) f0_thrown f0_rowCount f0_isImpossible h0_rSet h0_rRight))))
          (none))) := by
  show runw (st_X8_solution f0_n f0_equations n0_eSet h0_eSet n0_eRight h0_eRight n0_rSet n0_rRight x1) (x3, x4, x6, x7, f0_thrown, f0_rowCount, f0_isImpossible, h0_rSet, h0_rRight) = _
  rw [runw_eq]
  show run1 _ (b_X8_solution_64 f0_n f0_equations n0_eSet h0_eSet n0_eRight h0_eRight n0_rSet n0_rRight x1 x3 x4 x6 x7 f0_thrown f0_rowCount f0_isImpossible h0_rSet h0_rRight) = _
  simp only [b_X8_solution_64, run1_cif, run1_sbd, run1_inl, run1_inr]
  try rfl
noncomputable def D_X8_solution (f0_thrown : Int32) (f0_n : Int32) (f0_equations : Int32) (f0_rowCount : Int32) (f0_isImpossible : Bool) (n0_eSet : Nat) (h0_eSet : Nat → Int64) (n0_eRight : Nat) (h0_eRight : Nat → Int32) (n0_rSet : Nat) (h0_rSet : Nat → Int64) (n0_rRight : Nat) (h0_rRight : Nat → Int32) (x1 : Int64) : Option (Int64 × Int32 × Int32 × Bool × (Nat → Int64) × (Nat → Int32)) :=
  Option.bind (D_X8_makeRows f0_equations f0_rowCount f0_isImpossible n0_eSet h0_eSet n0_eRight h0_eRight n0_rSet h0_rSet n0_rRight h0_rRight (0 : Int64) (0 : Int64) false) (fun u_1 =>
    cif (u_1.2.1 = true)
      (some ((-1 : Int64), (0 : Int32), u_1.1, u_1.2.1, u_1.2.2.1, u_1.2.2.2))
      (cif (x1 < (0 : Int64))
        (some ((-1 : Int64), (0 : Int32), u_1.1, u_1.2.1, u_1.2.2.1, u_1.2.2.2))
        (cif (x1 < (jshl (1 : Int64) (f0_n - u_1.1)))
          (L_X8_solution_64 f0_n f0_equations n0_eSet h0_eSet n0_eRight h0_eRight n0_rSet n0_rRight x1 (f0_n - u_1.1) (0 : Int64) (0 : Int32) (0 : Int32) (0 : Int32) u_1.1 u_1.2.1 u_1.2.2.1 u_1.2.2.2)
          (some ((-1 : Int64), (0 : Int32), u_1.1, u_1.2.1, u_1.2.2.1, u_1.2.2.2)))))
theorem in_X8_solution_X8 : ∀ w ∈ wsX80, w ∈ wsX8_solution := by decide +kernel
theorem lk_0_X8_solution : Cond.fieldLink RX8 81 "ParityClausesModel" "thrown" "I" ∈ wsX8_solution := by decide +kernel
theorem lk_1_X8_solution : Cond.fieldLink RX8 175 "ParityClausesModel" "isImpossible" "Z" ∈ wsX8_solution := by decide +kernel
theorem lk_2_X8_solution : Cond.constantLong RX8 68 (-1) ∈ wsX8_solution := by decide +kernel
theorem lk_3_X8_solution : Cond.fieldLink RX8 77 "ParityClausesModel" "n" "I" ∈ wsX8_solution := by decide +kernel
theorem lk_4_X8_solution : Cond.fieldLink RX8 172 "ParityClausesModel" "rowCount" "I" ∈ wsX8_solution := by decide +kernel
theorem lk_5_X8_solution : Cond.fieldLink RX8 44 "ParityClausesModel" "rSet" "[J" ∈ wsX8_solution := by decide +kernel
theorem lk_6_X8_solution : Cond.fieldLink RX8 47 "ParityClausesModel" "rRight" "[I" ∈ wsX8_solution := by decide +kernel
abbrev rm_X8_solution : Room := { frames := 4, cells := 0, slots := 0, locals := 103 }
set_option maxHeartbeats 4000000 in
set_option maxRecDepth 100000 in
theorem cm_X8_solution (l : Launch) (D : va_G) (cI cL : ClassId) (q0 q0_eSet q0_eRight q0_rSet q0_rRight : Nat) (n0_eSet n0_eRight n0_rSet n0_rRight : Nat) (f0_thrown : Int32) (f0_n : Int32) (f0_equations : Int32) (f0_rowCount : Int32) (f0_isImpossible : Bool) (h0_eSet : Nat → Int64) (h0_eRight : Nat → Int32) (h0_rSet : Nat → Int64) (h0_rRight : Nat → Int32) (v0_clauses v0_cYes v0_cNo v0_levels v0_levelEquations v0_levelClauses v0_tape v0_tapeSize v0_faultIs v0_faultAt v0_at v0_newEquations v0_newClauses v0_newSet v0_newRight v0_newYes v0_newNo v0_lineYes v0_lineNo v0_sumSet v0_sumOf v0_sumRight v0_empty v0_empties v0_taken v0_ones v0_waitTaken v0_waitOnes v0_nodeCount v0_lastModel v0_modelCount v0_modelIs v0_gSet v0_gateCount : Value) (x1 : Int64) (r0 : Int64 × Int32 × Int32 × Bool × (Nat → Int64) × (Nat → Int32)) (h0 : D_X8_solution f0_thrown f0_n f0_equations f0_rowCount f0_isImpossible n0_eSet h0_eSet n0_eRight h0_eRight n0_rSet h0_rSet n0_rRight h0_rRight x1 = some r0) (sz : Nat) : Met l yX8_solution wsX8_solution rm_X8_solution (PcW D cI cL [.ref q0, .long x1] [(q0, .inr (8, [.int f0_thrown, .int f0_n, .int f0_equations, .ref q0_eSet, .ref q0_eRight, v0_clauses, v0_cYes, v0_cNo, v0_levels, v0_levelEquations, v0_levelClauses, v0_tape, v0_tapeSize, v0_faultIs, v0_faultAt, v0_at, v0_newEquations, v0_newClauses, v0_newSet, v0_newRight, v0_newYes, v0_newNo, v0_lineYes, v0_lineNo, .int f0_rowCount, .ref q0_rSet, .ref q0_rRight, .int (bI f0_isImpossible), v0_sumSet, v0_sumOf, v0_sumRight, v0_empty, v0_empties, v0_taken, v0_ones, v0_waitTaken, v0_waitOnes, v0_nodeCount, v0_lastModel, v0_modelCount, v0_modelIs, v0_gSet, v0_gateCount])), (q0_eSet, .inl (cL, n0_eSet, .inr (.inl h0_eSet))), (q0_eRight, .inl (cI, n0_eRight, .inl h0_eRight)), (q0_rSet, .inl (cL, n0_rSet, .inr (.inl h0_rSet))), (q0_rRight, .inl (cI, n0_rRight, .inl h0_rRight))] sz) (QlW D [(q0, .inr (8, [.int f0_thrown, .int f0_n, .int f0_equations, .ref q0_eSet, .ref q0_eRight, v0_clauses, v0_cYes, v0_cNo, v0_levels, v0_levelEquations, v0_levelClauses, v0_tape, v0_tapeSize, v0_faultIs, v0_faultAt, v0_at, v0_newEquations, v0_newClauses, v0_newSet, v0_newRight, v0_newYes, v0_newNo, v0_lineYes, v0_lineNo, .int f0_rowCount, .ref q0_rSet, .ref q0_rRight, .int (bI f0_isImpossible), v0_sumSet, v0_sumOf, v0_sumRight, v0_empty, v0_empties, v0_taken, v0_ones, v0_waitTaken, v0_waitOnes, v0_nodeCount, v0_lastModel, v0_modelCount, v0_modelIs, v0_gSet, v0_gateCount])), (q0_eSet, .inl (cL, n0_eSet, .inr (.inl h0_eSet))), (q0_eRight, .inl (cI, n0_eRight, .inl h0_eRight)), (q0_rSet, .inl (cL, n0_rSet, .inr (.inl h0_rSet))), (q0_rRight, .inl (cI, n0_rRight, .inl h0_rRight))] r0.1 (fun _ : Unit => [(q0, .inr (8, [.int r0.2.1, .int f0_n, .int f0_equations, .ref q0_eSet, .ref q0_eRight, v0_clauses, v0_cYes, v0_cNo, v0_levels, v0_levelEquations, v0_levelClauses, v0_tape, v0_tapeSize, v0_faultIs, v0_faultAt, v0_at, v0_newEquations, v0_newClauses, v0_newSet, v0_newRight, v0_newYes, v0_newNo, v0_lineYes, v0_lineNo, .int r0.2.2.1, .ref q0_rSet, .ref q0_rRight, .int (bI r0.2.2.2.1), v0_sumSet, v0_sumOf, v0_sumRight, v0_empty, v0_empties, v0_taken, v0_ones, v0_waitTaken, v0_waitOnes, v0_nodeCount, v0_lastModel, v0_modelCount, v0_modelIs, v0_gSet, v0_gateCount])), (q0_eSet, .inl (cL, n0_eSet, .inr (.inl h0_eSet))), (q0_eRight, .inl (cI, n0_eRight, .inl h0_eRight)), (q0_rSet, .inl (cL, n0_rSet, .inr (.inl r0.2.2.2.2.1))), (q0_rRight, .inl (cI, n0_rRight, .inl r0.2.2.2.2.2))]) tU sz) 0 0 (va_A [(q0, .inr (8, [.int f0_thrown, .int f0_n, .int f0_equations, .ref q0_eSet, .ref q0_eRight, v0_clauses, v0_cYes, v0_cNo, v0_levels, v0_levelEquations, v0_levelClauses, v0_tape, v0_tapeSize, v0_faultIs, v0_faultAt, v0_at, v0_newEquations, v0_newClauses, v0_newSet, v0_newRight, v0_newYes, v0_newNo, v0_lineYes, v0_lineNo, .int f0_rowCount, .ref q0_rSet, .ref q0_rRight, .int (bI f0_isImpossible), v0_sumSet, v0_sumOf, v0_sumRight, v0_empty, v0_empties, v0_taken, v0_ones, v0_waitTaken, v0_waitOnes, v0_nodeCount, v0_lastModel, v0_modelCount, v0_modelIs, v0_gSet, v0_gateCount])), (q0_eSet, .inl (cL, n0_eSet, .inr (.inl h0_eSet))), (q0_eRight, .inl (cI, n0_eRight, .inl h0_eRight)), (q0_rSet, .inl (cL, n0_rSet, .inr (.inl h0_rSet))), (q0_rRight, .inl (cI, n0_rRight, .inl h0_rRight))] sz) := by
  refine Met.ofW (cc := cX8_solution) (maxL := 10) (ret := (some .long)) (by decide) rfl ?_
  intro p e s m args below meth c s₁ B hml hv
  obtain ⟨hargs, hsz, hP, hEV, hD0⟩ := hv
  have hx := B.exec
  have hb := B.bytes
  have hr := B.returns
  have hts := atoms_spec (ws := wsX8_solution) B.pre
  have hown : s.vm.findClass RX8 = some m.cls := findClass_of_methodNamed B.named
  have hlocks := B.notSynchronized
  have hK := hEV.K
  have lk_0 := hts _ lk_0_X8_solution
  have lk_1 := hts _ lk_1_X8_solution
  have lk_2 := hts _ lk_2_X8_solution
  have lk_3 := hts _ lk_3_X8_solution
  have lk_4 := hts _ lk_4_X8_solution
  have lk_5 := hts _ lk_5_X8_solution
  have lk_6 := hts _ lk_6_X8_solution
  subst hsz
  unfold QlW PoW
  have hD := hD0.self (sz := s.heap.size)
  generalize hAe : va_A [(q0, .inr (8, [.int f0_thrown, .int f0_n, .int f0_equations, .ref q0_eSet, .ref q0_eRight, v0_clauses, v0_cYes, v0_cNo, v0_levels, v0_levelEquations, v0_levelClauses, v0_tape, v0_tapeSize, v0_faultIs, v0_faultAt, v0_at, v0_newEquations, v0_newClauses, v0_newSet, v0_newRight, v0_newYes, v0_newNo, v0_lineYes, v0_lineNo, .int f0_rowCount, .ref q0_rSet, .ref q0_rRight, .int (bI f0_isImpossible), v0_sumSet, v0_sumOf, v0_sumRight, v0_empty, v0_empties, v0_taken, v0_ones, v0_waitTaken, v0_waitOnes, v0_nodeCount, v0_lastModel, v0_modelCount, v0_modelIs, v0_gSet, v0_gateCount])), (q0_eSet, .inl (cL, n0_eSet, .inr (.inl h0_eSet))), (q0_eRight, .inl (cI, n0_eRight, .inl h0_eRight)), (q0_rSet, .inl (cL, n0_rSet, .inr (.inl h0_rSet))), (q0_rRight, .inl (cI, n0_rRight, .inl h0_rRight))] s.heap.size = A at hD ⊢
  have hA : ∀ q : Nat, s.heap.size ≤ q → A q := fun q h => by rw [← hAe]; exact Or.inr h
  have hS : va_S A s.heap s.heap [] := va_S.rf
  have hent : entryFrame m args 10 = entryFrame m ([.ref q0, .long x1] : List Value).toArray 10 := by rw [hargs]
  rw [hent]
  refine kx_Q (fun Q hQ => ?_)
  have hl := lv_entry ([.ref q0, .long x1]) (n := 10) (Nat.le_of_ble_eq_true rfl)
  rw [lg_entry_eq]
  generalize (lg_sl ([.ref q0, .long x1]) ++ List.replicate (10 - (lg_sl ([.ref q0, .long x1])).length) Slot.unset).toArray = ls at hl ⊢
  have hl : lv_has ls 10 [(0, .ref q0), (1, .long x1)] := hl
  have hloop : ∀ n9 : Nat, (∀ (x3 : Int32) (x4 : Int64) (x6 : Int32) (x7 : Int32) (f0_thrown : Int32) (f0_rowCount : Int32) (f0_isImpossible : Bool) (h0_rSet : Nat → Int64) (h0_rRight : Nat → Int32), iter (st_X8_solution f0_n f0_equations n0_eSet h0_eSet n0_eRight h0_eRight n0_rSet n0_rRight x1) n9 (x3, x4, x6, x7, f0_thrown, f0_rowCount, f0_isImpossible, h0_rSet, h0_rRight) = some r0 → ∀ (H : Heap) (locs : List Loc) (ls : Array Slot), va_P D vwCl [(q0, .inr (8, [.int f0_thrown, .int f0_n, .int f0_equations, .ref q0_eSet, .ref q0_eRight, v0_clauses, v0_cYes, v0_cNo, v0_levels, v0_levelEquations, v0_levelClauses, v0_tape, v0_tapeSize, v0_faultIs, v0_faultAt, v0_at, v0_newEquations, v0_newClauses, v0_newSet, v0_newRight, v0_newYes, v0_newNo, v0_lineYes, v0_lineNo, .int f0_rowCount, .ref q0_rSet, .ref q0_rRight, .int (bI f0_isImpossible), v0_sumSet, v0_sumOf, v0_sumRight, v0_empty, v0_empties, v0_taken, v0_ones, v0_waitTaken, v0_waitOnes, v0_nodeCount, v0_lastModel, v0_modelCount, v0_modelIs, v0_gSet, v0_gateCount])), (q0_eSet, .inl (cL, n0_eSet, .inr (.inl h0_eSet))), (q0_eRight, .inl (cI, n0_eRight, .inl h0_eRight)), (q0_rSet, .inl (cL, n0_rSet, .inr (.inl h0_rSet))), (q0_rRight, .inl (cI, n0_rRight, .inl h0_rRight))] H → va_D A [(q0, .inr (8, [.int f0_thrown, .int f0_n, .int f0_equations, .ref q0_eSet, .ref q0_eRight, v0_clauses, v0_cYes, v0_cNo, v0_levels, v0_levelEquations, v0_levelClauses, v0_tape, v0_tapeSize, v0_faultIs, v0_faultAt, v0_at, v0_newEquations, v0_newClauses, v0_newSet, v0_newRight, v0_newYes, v0_newNo, v0_lineYes, v0_lineNo, .int f0_rowCount, .ref q0_rSet, .ref q0_rRight, .int (bI f0_isImpossible), v0_sumSet, v0_sumOf, v0_sumRight, v0_empty, v0_empties, v0_taken, v0_ones, v0_waitTaken, v0_waitOnes, v0_nodeCount, v0_lastModel, v0_modelCount, v0_modelIs, v0_gSet, v0_gateCount])), (q0_eSet, .inl (cL, n0_eSet, .inr (.inl h0_eSet))), (q0_eRight, .inl (cI, n0_eRight, .inl h0_eRight)), (q0_rSet, .inl (cL, n0_rSet, .inr (.inl h0_rSet))), (q0_rRight, .inl (cI, n0_rRight, .inl h0_rRight))] → va_S A s.heap H locs → lv_has ls 10 [(0, .ref q0), (1, .long x1), (3, .int x3), (4, .long x4), (6, .int x6), (7, .int x7)] → W p l e (headSpec wsX8_solution rm_X8_solution).room s m args below meth c H locs 0 0 Q (F0 m 64 ls [])) := by
    intro n9
    induction n9 with
    | zero => exact fun _ _ _ _ _ _ _ _ _ h => nomatch h
    | succ n9 ih =>
      intro x3 x4 x6 x7 f0_thrown f0_rowCount f0_isImpossible h0_rSet h0_rRight h H locs ls hP hD hS hl
      have h : run1 (iter (st_X8_solution f0_n f0_equations n0_eSet h0_eSet n0_eRight h0_eRight n0_rSet n0_rRight x1) n9) (b_X8_solution_64 f0_n f0_equations n0_eSet h0_eSet n0_eRight h0_eRight n0_rSet n0_rRight x1 x3 x4 x6 x7 f0_thrown f0_rowCount f0_isImpossible h0_rSet h0_rRight) = some r0 := h
      unfold b_X8_solution_64 at h
      refine lv_iload hx hb dX8_solution_64 (lv_at hl 5 rfl) ?_
      refine lv_aload_n hx hb dX8_solution_66 rfl (lv_at hl 0 rfl) ?_
      refine va_get (D := D) (ci := 8) (v := .int f0_n) (C := RX8) (T := TX8) (N := 43) hx hb hts in_X8_solution_X8 hown hK hP 0 rfl rfl 1 (by decide) lk_3 (fun _ h9 => h9) rfl dX8_solution_67 ?_
      refine lv_icmp_ge (tgt := 176) hx hb dX8_solution_70 (by decide) (fun c_9 => ?_) (fun c_9 => ?_)
      · have k_10 : f0_n ≤ x7 := c_9
        have h := cw_t k_10 h
        refine lv_lload hx hb dX8_solution_176 (lv_at hl 3 rfl) ?_
        have h := Option.some.inj h
        subst h
        subst hQ
        exact W.lret (v := x4) hx hb hr (fun t ht hW => ⟨⟨x4, (), rfl, ⟨rfl, trivial⟩, by rw [ht]; exact hP, hD⟩, hS.F ht⟩) hS.2.2 dX8_solution_178
      · have k_10 : ¬ (f0_n ≤ x7) := c_9
        have h := cw_f k_10 h
        refine lv_lconst (v := (1 : Int64)) hx hb dX8_solution_73 (by decide) ?_
        refine lv_iload hx hb dX8_solution_74 (lv_at hl 5 rfl) ?_
        refine lv_lshl (v := jshl (1 : Int64) x7) hx hb dX8_solution_76 rfl ?_
        refine lv_lstore (lv' := [(8, .long (jshl (1 : Int64) x7)), (0, .ref q0), (1, .long x1), (3, .int x3), (4, .long x4), (6, .int x6), (7, .int x7)]) hx hb dX8_solution_77 hl (by decide) rfl (fun ls hl => ?_)
        refine lv_iload hx hb dX8_solution_79 (lv_at hl 5 rfl) ?_
        refine lv_aload_n hx hb dX8_solution_81 rfl (lv_at hl 1 rfl) ?_
        refine va_get (D := D) (ci := 8) (v := .int f0_rowCount) (C := RX8) (T := TX8) (N := 43) hx hb hts in_X8_solution_X8 hown hK hP 0 rfl rfl 24 (by decide) lk_4 (fun _ h9 => h9) rfl dX8_solution_82 ?_
        refine lv_icmp_ge (tgt := 146) hx hb dX8_solution_85 (by decide) (fun c_11 => ?_) (fun c_11 => ?_)
        · have k_12 : f0_rowCount ≤ x6 := c_11
          have h := cw_t k_12 h
          refine lv_iinc (v := x3 + (-1 : Int32)) (lv' := [(3, .int (x3 + (-1 : Int32))), (8, .long (jshl (1 : Int64) x7)), (0, .ref q0), (1, .long x1), (4, .long x4), (6, .int x6), (7, .int x7)]) hx hb dX8_solution_146 hl (k := 3) rfl rfl (by decide) rfl (fun ls hl => ?_)
          refine lv_lload hx hb dX8_solution_149 (lv_at hl 4 rfl) ?_
          refine lv_lload_n hx hb dX8_solution_151 rfl (lv_at hl 3 rfl) ?_
          refine lv_iload_n hx hb dX8_solution_152 rfl (lv_at hl 0 rfl) ?_
          refine lv_lshr (v := jshr x1 (x3 + (-1 : Int32))) hx hb dX8_solution_153 rfl ?_
          refine lv_lconst (v := (1 : Int64)) hx hb dX8_solution_154 (by decide) ?_
          refine lv_land hx hb dX8_solution_155 ?_
          refine lv_lconst (v := (1 : Int64)) hx hb dX8_solution_156 (by decide) ?_
          refine W.lcmp hx hb dX8_solution_157 ?_
          refine lv_if_ne (tgt := 166) hx hb dX8_solution_158 (by decide) (fun c_13 => ?_) (fun c_13 => ?_)
          · have k_14 : ¬ (((jshr x1 (x3 + (-1 : Int32))) &&& (1 : Int64)) = (1 : Int64)) := (fun z9 => c_13 ((lg_cmp_eq _ _).mpr z9))
            have h := cw_f k_14 h
            refine lv_lconst (v := (0 : Int64)) hx hb dX8_solution_166 (by decide) ?_
            refine lv_lor hx hb dX8_solution_167 ?_
            refine lv_lstore (lv' := [(4, .long (x4 ||| (0 : Int64))), (3, .int (x3 + (-1 : Int32))), (8, .long (jshl (1 : Int64) x7)), (0, .ref q0), (1, .long x1), (6, .int x6), (7, .int x7)]) hx hb dX8_solution_168 hl (by decide) rfl (fun ls hl => ?_)
            refine lv_iinc (v := x7 + (1 : Int32)) (lv' := [(7, .int (x7 + (1 : Int32))), (4, .long (x4 ||| (0 : Int64))), (3, .int (x3 + (-1 : Int32))), (8, .long (jshl (1 : Int64) x7)), (0, .ref q0), (1, .long x1), (6, .int x6)]) hx hb dX8_solution_170 hl (k := 6) rfl rfl (by decide) rfl (fun ls hl => ?_)
            refine lv_goto (tgt := 64) hx hb dX8_solution_173 (by decide) ?_
            exact ih _ _ _ _ _ _ _ _ _ h _ _ _ hP hD hS (lv_sub hl [4, 5, 2, 1, 6, 0] rfl)
          · have k_14 : ((jshr x1 (x3 + (-1 : Int32))) &&& (1 : Int64)) = (1 : Int64) := ((lg_cmp_eq _ _).mp c_13)
            have h := cw_t k_14 h
            refine lv_lload hx hb dX8_solution_161 (lv_at hl 1 rfl) ?_
            refine lv_goto (tgt := 167) hx hb dX8_solution_163 (by decide) ?_
            refine lv_lor hx hb dX8_solution_167 ?_
            refine lv_lstore (lv' := [(4, .long (x4 ||| (jshl (1 : Int64) x7))), (3, .int (x3 + (-1 : Int32))), (8, .long (jshl (1 : Int64) x7)), (0, .ref q0), (1, .long x1), (6, .int x6), (7, .int x7)]) hx hb dX8_solution_168 hl (by decide) rfl (fun ls hl => ?_)
            refine lv_iinc (v := x7 + (1 : Int32)) (lv' := [(7, .int (x7 + (1 : Int32))), (4, .long (x4 ||| (jshl (1 : Int64) x7))), (3, .int (x3 + (-1 : Int32))), (8, .long (jshl (1 : Int64) x7)), (0, .ref q0), (1, .long x1), (6, .int x6)]) hx hb dX8_solution_170 hl (k := 6) rfl rfl (by decide) rfl (fun ls hl => ?_)
            refine lv_goto (tgt := 64) hx hb dX8_solution_173 (by decide) ?_
            exact ih _ _ _ _ _ _ _ _ _ h _ _ _ hP hD hS (lv_sub hl [4, 5, 2, 1, 6, 0] rfl)
        · have k_12 : ¬ (f0_rowCount ≤ x6) := c_11
          have h := cw_f k_12 h
          refine lv_aload_n hx hb dX8_solution_88 rfl (lv_at hl 1 rfl) ?_
          refine va_get (D := D) (ci := 8) (v := .ref q0_rSet) (C := RX8) (T := TX8) (N := 43) hx hb hts in_X8_solution_X8 hown hK hP 0 rfl rfl 25 (by decide) lk_5 (fun _ h9 => h9) rfl dX8_solution_89 ?_
          refine lv_iload hx hb dX8_solution_92 (lv_at hl 5 rfl) ?_
          obtain ⟨b_15, h⟩ := cw_i h
          refine va_lald hx hb hK hP 3 1 rfl rfl b_15 dX8_solution_94 ?_
          obtain ⟨u_16, hu_17, h⟩ := cw_b h
          refine kx_l (ws' := fun _ => [(q0, .inr (8, [.int f0_thrown, .int f0_n, .int f0_equations, .ref q0_eSet, .ref q0_eRight, v0_clauses, v0_cYes, v0_cNo, v0_levels, v0_levelEquations, v0_levelClauses, v0_tape, v0_tapeSize, v0_faultIs, v0_faultAt, v0_at, v0_newEquations, v0_newClauses, v0_newSet, v0_newRight, v0_newYes, v0_newNo, v0_lineYes, v0_lineNo, .int f0_rowCount, .ref q0_rSet, .ref q0_rRight, .int (bI f0_isImpossible), v0_sumSet, v0_sumOf, v0_sumRight, v0_empty, v0_empties, v0_taken, v0_ones, v0_waitTaken, v0_waitOnes, v0_nodeCount, v0_lastModel, v0_modelCount, v0_modelIs, v0_gSet, v0_gateCount])), (q0_eSet, .inl (cL, n0_eSet, .inr (.inl h0_eSet))), (q0_eRight, .inl (cI, n0_eRight, .inl h0_eRight)), (q0_rSet, .inl (cL, n0_rSet, .inr (.inl h0_rSet))), (q0_rRight, .inl (cI, n0_rRight, .inl h0_rRight))]) hP hD hS hA [] [0, 1, 2, 3, 4] [0, 1, 2, 3, 4] rfl (by decide) (by decide) (by decide) (fun _ => rfl) (by decide) (va_runS (As := [.long (h0_rSet x6.toNatClampNeg)]) (rest := []) ⟨hx, hb, hml, hown, hts⟩ (cm_X8_highest l D cI cL (x0 := h0_rSet x6.toNatClampNeg) (r0 := u_16) (h0 := hu_17) (sz := H.size)) (va_cwS 1 hts gX8_solution_X8_highest rfl rfl rfl (by decide +kernel) ⟨Nat.le_of_ble_eq_true rfl, Nat.le_of_ble_eq_true rfl⟩) (kx_preS hEV hP hD [] rfl (by decide)) rfl rfl hl.1 rfl (lv_room (Nat.le_of_ble_eq_true rfl)) dX8_solution_95 ⟨Nat.le_refl _, Nat.le_refl _⟩) (fun _ H locs _ hP hD hS => ?_)
          refine lv_lload hx hb dX8_solution_98 (lv_at hl 0 rfl) ?_
          refine W.lcmp hx hb dX8_solution_100 ?_
          refine lv_if_ne (tgt := 146) hx hb dX8_solution_101 (by decide) (fun c_18 => ?_) (fun c_18 => ?_)
          · have k_19 : ¬ (u_16 = (jshl (1 : Int64) x7)) := (fun z9 => c_18 ((lg_cmp_eq _ _).mpr z9))
            have h := cw_f k_19 h
            refine lv_iinc (v := x3 + (-1 : Int32)) (lv' := [(3, .int (x3 + (-1 : Int32))), (8, .long (jshl (1 : Int64) x7)), (0, .ref q0), (1, .long x1), (4, .long x4), (6, .int x6), (7, .int x7)]) hx hb dX8_solution_146 hl (k := 3) rfl rfl (by decide) rfl (fun ls hl => ?_)
            refine lv_lload hx hb dX8_solution_149 (lv_at hl 4 rfl) ?_
            refine lv_lload_n hx hb dX8_solution_151 rfl (lv_at hl 3 rfl) ?_
            refine lv_iload_n hx hb dX8_solution_152 rfl (lv_at hl 0 rfl) ?_
            refine lv_lshr (v := jshr x1 (x3 + (-1 : Int32))) hx hb dX8_solution_153 rfl ?_
            refine lv_lconst (v := (1 : Int64)) hx hb dX8_solution_154 (by decide) ?_
            refine lv_land hx hb dX8_solution_155 ?_
            refine lv_lconst (v := (1 : Int64)) hx hb dX8_solution_156 (by decide) ?_
            refine W.lcmp hx hb dX8_solution_157 ?_
            refine lv_if_ne (tgt := 166) hx hb dX8_solution_158 (by decide) (fun c_20 => ?_) (fun c_20 => ?_)
            · have k_21 : ¬ (((jshr x1 (x3 + (-1 : Int32))) &&& (1 : Int64)) = (1 : Int64)) := (fun z9 => c_20 ((lg_cmp_eq _ _).mpr z9))
              have h := cw_f k_21 h
              refine lv_lconst (v := (0 : Int64)) hx hb dX8_solution_166 (by decide) ?_
              refine lv_lor hx hb dX8_solution_167 ?_
              refine lv_lstore (lv' := [(4, .long (x4 ||| (0 : Int64))), (3, .int (x3 + (-1 : Int32))), (8, .long (jshl (1 : Int64) x7)), (0, .ref q0), (1, .long x1), (6, .int x6), (7, .int x7)]) hx hb dX8_solution_168 hl (by decide) rfl (fun ls hl => ?_)
              refine lv_iinc (v := x7 + (1 : Int32)) (lv' := [(7, .int (x7 + (1 : Int32))), (4, .long (x4 ||| (0 : Int64))), (3, .int (x3 + (-1 : Int32))), (8, .long (jshl (1 : Int64) x7)), (0, .ref q0), (1, .long x1), (6, .int x6)]) hx hb dX8_solution_170 hl (k := 6) rfl rfl (by decide) rfl (fun ls hl => ?_)
              refine lv_goto (tgt := 64) hx hb dX8_solution_173 (by decide) ?_
              exact ih _ _ _ _ _ _ _ _ _ h _ _ _ hP hD hS (lv_sub hl [4, 5, 2, 1, 6, 0] rfl)
            · have k_21 : ((jshr x1 (x3 + (-1 : Int32))) &&& (1 : Int64)) = (1 : Int64) := ((lg_cmp_eq _ _).mp c_20)
              have h := cw_t k_21 h
              refine lv_lload hx hb dX8_solution_161 (lv_at hl 1 rfl) ?_
              refine lv_goto (tgt := 167) hx hb dX8_solution_163 (by decide) ?_
              refine lv_lor hx hb dX8_solution_167 ?_
              refine lv_lstore (lv' := [(4, .long (x4 ||| (jshl (1 : Int64) x7))), (3, .int (x3 + (-1 : Int32))), (8, .long (jshl (1 : Int64) x7)), (0, .ref q0), (1, .long x1), (6, .int x6), (7, .int x7)]) hx hb dX8_solution_168 hl (by decide) rfl (fun ls hl => ?_)
              refine lv_iinc (v := x7 + (1 : Int32)) (lv' := [(7, .int (x7 + (1 : Int32))), (4, .long (x4 ||| (jshl (1 : Int64) x7))), (3, .int (x3 + (-1 : Int32))), (8, .long (jshl (1 : Int64) x7)), (0, .ref q0), (1, .long x1), (6, .int x6)]) hx hb dX8_solution_170 hl (k := 6) rfl rfl (by decide) rfl (fun ls hl => ?_)
              refine lv_goto (tgt := 64) hx hb dX8_solution_173 (by decide) ?_
              exact ih _ _ _ _ _ _ _ _ _ h _ _ _ hP hD hS (lv_sub hl [4, 5, 2, 1, 6, 0] rfl)
          · have k_19 : u_16 = (jshl (1 : Int64) x7) := ((lg_cmp_eq _ _).mp c_18)
            have h := cw_t k_19 h
            refine lv_lload hx hb dX8_solution_104 (lv_at hl 4 rfl) ?_
            refine lv_aload_n hx hb dX8_solution_106 rfl (lv_at hl 1 rfl) ?_
            refine va_get (D := D) (ci := 8) (v := .ref q0_rRight) (C := RX8) (T := TX8) (N := 43) hx hb hts in_X8_solution_X8 hown hK hP 0 rfl rfl 26 (by decide) lk_6 (fun _ h9 => h9) rfl dX8_solution_107 ?_
            refine lv_iload hx hb dX8_solution_110 (lv_at hl 5 rfl) ?_
            obtain ⟨b_22, h⟩ := cw_i h
            refine va_iald hx hb hK hP 4 0 rfl rfl b_22 dX8_solution_112 ?_
            refine lv_aload_n hx hb dX8_solution_113 rfl (lv_at hl 1 rfl) ?_
            refine va_get (D := D) (ci := 8) (v := .ref q0_rSet) (C := RX8) (T := TX8) (N := 43) hx hb hts in_X8_solution_X8 hown hK hP 0 rfl rfl 25 (by decide) lk_5 (fun _ h9 => h9) rfl dX8_solution_114 ?_
            refine lv_iload hx hb dX8_solution_117 (lv_at hl 5 rfl) ?_
            obtain ⟨b_23, h⟩ := cw_i h
            refine va_lald hx hb hK hP 3 1 rfl rfl b_23 dX8_solution_119 ?_
            refine lv_lload hx hb dX8_solution_120 (lv_at hl 4 rfl) ?_
            refine lv_land hx hb dX8_solution_122 ?_
            obtain ⟨u_24, hu_25, h⟩ := cw_b h
            refine kx_i (ws' := fun _ => [(q0, .inr (8, [.int f0_thrown, .int f0_n, .int f0_equations, .ref q0_eSet, .ref q0_eRight, v0_clauses, v0_cYes, v0_cNo, v0_levels, v0_levelEquations, v0_levelClauses, v0_tape, v0_tapeSize, v0_faultIs, v0_faultAt, v0_at, v0_newEquations, v0_newClauses, v0_newSet, v0_newRight, v0_newYes, v0_newNo, v0_lineYes, v0_lineNo, .int f0_rowCount, .ref q0_rSet, .ref q0_rRight, .int (bI f0_isImpossible), v0_sumSet, v0_sumOf, v0_sumRight, v0_empty, v0_empties, v0_taken, v0_ones, v0_waitTaken, v0_waitOnes, v0_nodeCount, v0_lastModel, v0_modelCount, v0_modelIs, v0_gSet, v0_gateCount])), (q0_eSet, .inl (cL, n0_eSet, .inr (.inl h0_eSet))), (q0_eRight, .inl (cI, n0_eRight, .inl h0_eRight)), (q0_rSet, .inl (cL, n0_rSet, .inr (.inl h0_rSet))), (q0_rRight, .inl (cI, n0_rRight, .inl h0_rRight))]) hP hD hS hA [] [0, 1, 2, 3, 4] [0, 1, 2, 3, 4] rfl (by decide) (by decide) (by decide) (fun _ => rfl) (by decide) (va_runS (As := [.long ((h0_rSet x6.toNatClampNeg) &&& x4)]) (rest := [.int (h0_rRight x6.toNatClampNeg), .long x4]) ⟨hx, hb, hml, hown, hts⟩ (cm_X8_parity l D cI cL (x0 := (h0_rSet x6.toNatClampNeg) &&& x4) (r0 := u_24) (h0 := hu_25) (sz := H.size)) (va_cwS 1 hts gX8_solution_X8_parity rfl rfl rfl (by decide +kernel) ⟨Nat.le_of_ble_eq_true rfl, Nat.le_of_ble_eq_true rfl⟩) (kx_preS hEV hP hD [] rfl (by decide)) rfl rfl hl.1 rfl (lv_room (Nat.le_of_ble_eq_true rfl)) dX8_solution_123 ⟨Nat.le_refl _, Nat.le_refl _⟩) (fun _ H locs _ hP hD hS => ?_)
            refine lv_ixor hx hb dX8_solution_126 ?_
            refine lv_iconst (v := (1 : Int32)) hx hb dX8_solution_127 (by decide) ?_
            refine lv_icmp_ne (tgt := 136) hx hb dX8_solution_128 (by decide) (fun c_26 => ?_) (fun c_26 => ?_)
            · have k_27 : ¬ (((h0_rRight x6.toNatClampNeg) ^^^ u_24) = (1 : Int32)) := c_26
              have h := cw_f k_27 h
              refine lv_lconst (v := (0 : Int64)) hx hb dX8_solution_136 (by decide) ?_
              refine lv_lor hx hb dX8_solution_137 ?_
              refine lv_lstore (lv' := [(4, .long (x4 ||| (0 : Int64))), (8, .long (jshl (1 : Int64) x7)), (0, .ref q0), (1, .long x1), (3, .int x3), (6, .int x6), (7, .int x7)]) hx hb dX8_solution_138 hl (by decide) rfl (fun ls hl => ?_)
              refine lv_iinc (v := x6 + (1 : Int32)) (lv' := [(6, .int (x6 + (1 : Int32))), (4, .long (x4 ||| (0 : Int64))), (8, .long (jshl (1 : Int64) x7)), (0, .ref q0), (1, .long x1), (3, .int x3), (7, .int x7)]) hx hb dX8_solution_140 hl (k := 5) rfl rfl (by decide) rfl (fun ls hl => ?_)
              refine lv_goto (tgt := 170) hx hb dX8_solution_143 (by decide) ?_
              refine lv_iinc (v := x7 + (1 : Int32)) (lv' := [(7, .int (x7 + (1 : Int32))), (6, .int (x6 + (1 : Int32))), (4, .long (x4 ||| (0 : Int64))), (8, .long (jshl (1 : Int64) x7)), (0, .ref q0), (1, .long x1), (3, .int x3)]) hx hb dX8_solution_170 hl (k := 6) rfl rfl (by decide) rfl (fun ls hl => ?_)
              refine lv_goto (tgt := 64) hx hb dX8_solution_173 (by decide) ?_
              exact ih _ _ _ _ _ _ _ _ _ h _ _ _ hP hD hS (lv_sub hl [4, 5, 6, 2, 1, 0] rfl)
            · have k_27 : ((h0_rRight x6.toNatClampNeg) ^^^ u_24) = (1 : Int32) := c_26
              have h := cw_t k_27 h
              refine lv_lload hx hb dX8_solution_131 (lv_at hl 0 rfl) ?_
              refine lv_goto (tgt := 137) hx hb dX8_solution_133 (by decide) ?_
              refine lv_lor hx hb dX8_solution_137 ?_
              refine lv_lstore (lv' := [(4, .long (x4 ||| (jshl (1 : Int64) x7))), (8, .long (jshl (1 : Int64) x7)), (0, .ref q0), (1, .long x1), (3, .int x3), (6, .int x6), (7, .int x7)]) hx hb dX8_solution_138 hl (by decide) rfl (fun ls hl => ?_)
              refine lv_iinc (v := x6 + (1 : Int32)) (lv' := [(6, .int (x6 + (1 : Int32))), (4, .long (x4 ||| (jshl (1 : Int64) x7))), (8, .long (jshl (1 : Int64) x7)), (0, .ref q0), (1, .long x1), (3, .int x3), (7, .int x7)]) hx hb dX8_solution_140 hl (k := 5) rfl rfl (by decide) rfl (fun ls hl => ?_)
              refine lv_goto (tgt := 170) hx hb dX8_solution_143 (by decide) ?_
              refine lv_iinc (v := x7 + (1 : Int32)) (lv' := [(7, .int (x7 + (1 : Int32))), (6, .int (x6 + (1 : Int32))), (4, .long (x4 ||| (jshl (1 : Int64) x7))), (8, .long (jshl (1 : Int64) x7)), (0, .ref q0), (1, .long x1), (3, .int x3)]) hx hb dX8_solution_170 hl (k := 6) rfl rfl (by decide) rfl (fun ls hl => ?_)
              refine lv_goto (tgt := 64) hx hb dX8_solution_173 (by decide) ?_
              exact ih _ _ _ _ _ _ _ _ _ h _ _ _ hP hD hS (lv_sub hl [4, 5, 6, 2, 1, 0] rfl)
  have h := h0
  unfold D_X8_solution at h
  refine lv_aload_n hx hb dX8_solution_0 rfl (lv_at hl 0 rfl) ?_
  refine lv_iconst (v := (0 : Int32)) hx hb dX8_solution_1 (by decide) ?_
  refine va_put (D := D) (ci := 8) (v := .int (0 : Int32)) (ty := .int) (C := RX8) (T := TX8) (N := 43) hx hb hts in_X8_solution_X8 tyX8 tyX8_ok nmX8 hown hK hP hD hS 0 rfl rfl 0 (by decide) lk_0 (fun _ h9 => h9) rfl (by decide +kernel) rfl rfl (Nat.le_of_ble_eq_true rfl) dX8_solution_2 (fun H locs hP hD hS => ?_)
  have hP : va_P D vwCl [(q0, .inr (8, [.int (0 : Int32), .int f0_n, .int f0_equations, .ref q0_eSet, .ref q0_eRight, v0_clauses, v0_cYes, v0_cNo, v0_levels, v0_levelEquations, v0_levelClauses, v0_tape, v0_tapeSize, v0_faultIs, v0_faultAt, v0_at, v0_newEquations, v0_newClauses, v0_newSet, v0_newRight, v0_newYes, v0_newNo, v0_lineYes, v0_lineNo, .int f0_rowCount, .ref q0_rSet, .ref q0_rRight, .int (bI f0_isImpossible), v0_sumSet, v0_sumOf, v0_sumRight, v0_empty, v0_empties, v0_taken, v0_ones, v0_waitTaken, v0_waitOnes, v0_nodeCount, v0_lastModel, v0_modelCount, v0_modelIs, v0_gSet, v0_gateCount])), (q0_eSet, .inl (cL, n0_eSet, .inr (.inl h0_eSet))), (q0_eRight, .inl (cI, n0_eRight, .inl h0_eRight)), (q0_rSet, .inl (cL, n0_rSet, .inr (.inl h0_rSet))), (q0_rRight, .inl (cI, n0_rRight, .inl h0_rRight))] H := hP
  have hD : va_D A [(q0, .inr (8, [.int (0 : Int32), .int f0_n, .int f0_equations, .ref q0_eSet, .ref q0_eRight, v0_clauses, v0_cYes, v0_cNo, v0_levels, v0_levelEquations, v0_levelClauses, v0_tape, v0_tapeSize, v0_faultIs, v0_faultAt, v0_at, v0_newEquations, v0_newClauses, v0_newSet, v0_newRight, v0_newYes, v0_newNo, v0_lineYes, v0_lineNo, .int f0_rowCount, .ref q0_rSet, .ref q0_rRight, .int (bI f0_isImpossible), v0_sumSet, v0_sumOf, v0_sumRight, v0_empty, v0_empties, v0_taken, v0_ones, v0_waitTaken, v0_waitOnes, v0_nodeCount, v0_lastModel, v0_modelCount, v0_modelIs, v0_gSet, v0_gateCount])), (q0_eSet, .inl (cL, n0_eSet, .inr (.inl h0_eSet))), (q0_eRight, .inl (cI, n0_eRight, .inl h0_eRight)), (q0_rSet, .inl (cL, n0_rSet, .inr (.inl h0_rSet))), (q0_rRight, .inl (cI, n0_rRight, .inl h0_rRight))] := hD
  refine lv_aload_n hx hb dX8_solution_5 rfl (lv_at hl 0 rfl) ?_
  refine lv_lconst (v := (0 : Int64)) hx hb dX8_solution_6 (by decide) ?_
  refine lv_lconst (v := (0 : Int64)) hx hb dX8_solution_7 (by decide) ?_
  refine lv_iconst (v := (0 : Int32)) hx hb dX8_solution_8 (by decide) ?_
  obtain ⟨u_1, hu_2, h⟩ := co_b h
  refine kx_v (ws' := fun _ => [(q0, .inr (8, [.int (0 : Int32), .int f0_n, .int f0_equations, .ref q0_eSet, .ref q0_eRight, v0_clauses, v0_cYes, v0_cNo, v0_levels, v0_levelEquations, v0_levelClauses, v0_tape, v0_tapeSize, v0_faultIs, v0_faultAt, v0_at, v0_newEquations, v0_newClauses, v0_newSet, v0_newRight, v0_newYes, v0_newNo, v0_lineYes, v0_lineNo, .int u_1.1, .ref q0_rSet, .ref q0_rRight, .int (bI u_1.2.1), v0_sumSet, v0_sumOf, v0_sumRight, v0_empty, v0_empties, v0_taken, v0_ones, v0_waitTaken, v0_waitOnes, v0_nodeCount, v0_lastModel, v0_modelCount, v0_modelIs, v0_gSet, v0_gateCount])), (q0_eSet, .inl (cL, n0_eSet, .inr (.inl h0_eSet))), (q0_eRight, .inl (cI, n0_eRight, .inl h0_eRight)), (q0_rSet, .inl (cL, n0_rSet, .inr (.inl u_1.2.2.1))), (q0_rRight, .inl (cI, n0_rRight, .inl u_1.2.2.2))]) hP hD hS hA [0, 1, 2, 3, 4] [] [0, 1, 2, 3, 4] rfl (by decide) (by decide) (by decide) (fun _ => rfl) (by decide) (va_runV (As := [.long (0 : Int64), .long (0 : Int64), .int (bI false)]) (rest := []) ⟨hx, hb, hml, hown, hts⟩ (cm_X8_makeRows l D cI cL (q0 := q0) (q0_eSet := q0_eSet) (q0_eRight := q0_eRight) (q0_rSet := q0_rSet) (q0_rRight := q0_rRight) (n0_eSet := n0_eSet) (n0_eRight := n0_eRight) (n0_rSet := n0_rSet) (n0_rRight := n0_rRight) (f0_equations := f0_equations) (f0_rowCount := f0_rowCount) (f0_isImpossible := f0_isImpossible) (h0_eSet := h0_eSet) (h0_eRight := h0_eRight) (h0_rSet := h0_rSet) (h0_rRight := h0_rRight) (v0_thrown := .int (0 : Int32)) (v0_n := .int f0_n) (v0_clauses := v0_clauses) (v0_cYes := v0_cYes) (v0_cNo := v0_cNo) (v0_levels := v0_levels) (v0_levelEquations := v0_levelEquations) (v0_levelClauses := v0_levelClauses) (v0_tape := v0_tape) (v0_tapeSize := v0_tapeSize) (v0_faultIs := v0_faultIs) (v0_faultAt := v0_faultAt) (v0_at := v0_at) (v0_newEquations := v0_newEquations) (v0_newClauses := v0_newClauses) (v0_newSet := v0_newSet) (v0_newRight := v0_newRight) (v0_newYes := v0_newYes) (v0_newNo := v0_newNo) (v0_lineYes := v0_lineYes) (v0_lineNo := v0_lineNo) (v0_sumSet := v0_sumSet) (v0_sumOf := v0_sumOf) (v0_sumRight := v0_sumRight) (v0_empty := v0_empty) (v0_empties := v0_empties) (v0_taken := v0_taken) (v0_ones := v0_ones) (v0_waitTaken := v0_waitTaken) (v0_waitOnes := v0_waitOnes) (v0_nodeCount := v0_nodeCount) (v0_lastModel := v0_lastModel) (v0_modelCount := v0_modelCount) (v0_modelIs := v0_modelIs) (v0_gSet := v0_gSet) (v0_gateCount := v0_gateCount) (x1 := (0 : Int64)) (x3 := (0 : Int64)) (x5 := false) (r0 := u_1) (h0 := hu_2) (sz := H.size)) (cwV 3 hts gX8_solution_X8_makeRows rfl rfl rfl (by decide +kernel) ⟨Nat.le_of_ble_eq_true rfl, Nat.le_of_ble_eq_true rfl⟩) (kx_preV hEV hP hD [0, 1, 2, 3, 4] rfl (by decide) (k0 := 0) (ci := 8) rfl rfl rfl) rfl rfl hl.1 rfl (lv_room (Nat.le_of_ble_eq_true rfl)) dX8_solution_9 ⟨Nat.le_refl _, Nat.le_refl _⟩) (fun _ H locs _ hP hD hS => ?_)
  refine lv_aload_n hx hb dX8_solution_12 rfl (lv_at hl 0 rfl) ?_
  refine va_get (D := D) (ci := 8) (v := .int (bI u_1.2.1)) (C := RX8) (T := TX8) (N := 43) hx hb hts in_X8_solution_X8 hown hK hP 0 rfl rfl 27 (by decide) lk_1 (fun _ h9 => h9) rfl dX8_solution_13 ?_
  refine lv_if_ne (tgt := 41) hx hb dX8_solution_16 (by decide) (fun c_3 => ?_) (fun c_3 => ?_)
  · have k_4 : u_1.2.1 = true := (kx_nz c_3)
    have h := co_t k_4 h
    refine lv_ldc2 hx hb hown lk_2 dX8_solution_41 ?_
    have h := Option.some.inj h
    subst h
    subst hQ
    exact W.lret (v := (-1 : Int64)) hx hb hr (fun t ht hW => ⟨⟨(-1 : Int64), (), rfl, ⟨rfl, trivial⟩, by rw [ht]; exact hP, hD⟩, hS.F ht⟩) hS.2.2 dX8_solution_44
  · have k_4 : ¬ (u_1.2.1 = true) := (kx_z c_3)
    have h := co_f k_4 h
    refine lv_lload_n hx hb dX8_solution_19 rfl (lv_at hl 1 rfl) ?_
    refine lv_lconst (v := (0 : Int64)) hx hb dX8_solution_20 (by decide) ?_
    refine W.lcmp hx hb dX8_solution_21 ?_
    refine lv_if_lt (tgt := 41) hx hb dX8_solution_22 (by decide) (fun c_5 => ?_) (fun c_5 => ?_)
    · have k_6 : x1 < (0 : Int64) := ((lg_cmp_lt _ _).mp c_5)
      have h := co_t k_6 h
      refine lv_ldc2 hx hb hown lk_2 dX8_solution_41 ?_
      have h := Option.some.inj h
      subst h
      subst hQ
      exact W.lret (v := (-1 : Int64)) hx hb hr (fun t ht hW => ⟨⟨(-1 : Int64), (), rfl, ⟨rfl, trivial⟩, by rw [ht]; exact hP, hD⟩, hS.F ht⟩) hS.2.2 dX8_solution_44
    · have k_6 : ¬ (x1 < (0 : Int64)) := (fun z9 => c_5 ((lg_cmp_lt _ _).mpr z9))
      have h := co_f k_6 h
      refine lv_lload_n hx hb dX8_solution_25 rfl (lv_at hl 1 rfl) ?_
      refine lv_lconst (v := (1 : Int64)) hx hb dX8_solution_26 (by decide) ?_
      refine lv_aload_n hx hb dX8_solution_27 rfl (lv_at hl 0 rfl) ?_
      refine va_get (D := D) (ci := 8) (v := .int f0_n) (C := RX8) (T := TX8) (N := 43) hx hb hts in_X8_solution_X8 hown hK hP 0 rfl rfl 1 (by decide) lk_3 (fun _ h9 => h9) rfl dX8_solution_28 ?_
      refine lv_aload_n hx hb dX8_solution_31 rfl (lv_at hl 0 rfl) ?_
      refine va_get (D := D) (ci := 8) (v := .int u_1.1) (C := RX8) (T := TX8) (N := 43) hx hb hts in_X8_solution_X8 hown hK hP 0 rfl rfl 24 (by decide) lk_4 (fun _ h9 => h9) rfl dX8_solution_32 ?_
      refine lv_isub hx hb dX8_solution_35 ?_
      refine lv_lshl (v := jshl (1 : Int64) (f0_n - u_1.1)) hx hb dX8_solution_36 rfl ?_
      refine W.lcmp hx hb dX8_solution_37 ?_
      refine lv_if_lt (tgt := 45) hx hb dX8_solution_38 (by decide) (fun c_7 => ?_) (fun c_7 => ?_)
      · have k_8 : x1 < (jshl (1 : Int64) (f0_n - u_1.1)) := ((lg_cmp_lt _ _).mp c_7)
        have h := co_t k_8 h
        refine lv_aload_n hx hb dX8_solution_45 rfl (lv_at hl 0 rfl) ?_
        refine va_get (D := D) (ci := 8) (v := .int f0_n) (C := RX8) (T := TX8) (N := 43) hx hb hts in_X8_solution_X8 hown hK hP 0 rfl rfl 1 (by decide) lk_3 (fun _ h9 => h9) rfl dX8_solution_46 ?_
        refine lv_aload_n hx hb dX8_solution_49 rfl (lv_at hl 0 rfl) ?_
        refine va_get (D := D) (ci := 8) (v := .int u_1.1) (C := RX8) (T := TX8) (N := 43) hx hb hts in_X8_solution_X8 hown hK hP 0 rfl rfl 24 (by decide) lk_4 (fun _ h9 => h9) rfl dX8_solution_50 ?_
        refine lv_isub hx hb dX8_solution_53 ?_
        refine lv_istore_n (lv' := [(3, .int (f0_n - u_1.1)), (0, .ref q0), (1, .long x1)]) hx hb dX8_solution_54 rfl hl (by decide) rfl (fun ls hl => ?_)
        refine lv_lconst (v := (0 : Int64)) hx hb dX8_solution_55 (by decide) ?_
        refine lv_lstore (lv' := [(4, .long (0 : Int64)), (3, .int (f0_n - u_1.1)), (0, .ref q0), (1, .long x1)]) hx hb dX8_solution_56 hl (by decide) rfl (fun ls hl => ?_)
        refine lv_iconst (v := (0 : Int32)) hx hb dX8_solution_58 (by decide) ?_
        refine lv_istore (lv' := [(6, .int (0 : Int32)), (4, .long (0 : Int64)), (3, .int (f0_n - u_1.1)), (0, .ref q0), (1, .long x1)]) hx hb dX8_solution_59 hl (by decide) rfl (fun ls hl => ?_)
        refine lv_iconst (v := (0 : Int32)) hx hb dX8_solution_61 (by decide) ?_
        refine lv_istore (lv' := [(7, .int (0 : Int32)), (6, .int (0 : Int32)), (4, .long (0 : Int64)), (3, .int (f0_n - u_1.1)), (0, .ref q0), (1, .long x1)]) hx hb dX8_solution_62 hl (by decide) rfl (fun ls hl => ?_)
        obtain ⟨n9, hn9⟩ := runw_some h
        exact (hloop n9) _ _ _ _ _ _ _ _ _ hn9 _ _ _ hP hD hS (lv_sub hl [4, 5, 3, 2, 1, 0] rfl)
      · have k_8 : ¬ (x1 < (jshl (1 : Int64) (f0_n - u_1.1))) := (fun z9 => c_7 ((lg_cmp_lt _ _).mpr z9))
        have h := co_f k_8 h
        refine lv_ldc2 hx hb hown lk_2 dX8_solution_41 ?_
        have h := Option.some.inj h
        subst h
        subst hQ
        exact W.lret (v := (-1 : Int64)) hx hb hr (fun t ht hW => ⟨⟨(-1 : Int64), (), rfl, ⟨rfl, trivial⟩, by rw [ht]; exact hP, hD⟩, hS.F ht⟩) hS.2.2 dX8_solution_44
abbrev S_X8_sum : Type := (Int64 × Int32 × Int32 × Int32 × Int32 × Bool × (Nat → Int64) × (Nat → Int32))
noncomputable def b_X8_sum_40 (f0_n : Int32) (f0_equations : Int32) (n0_eSet : Nat) (h0_eSet : Nat → Int64) (n0_eRight : Nat) (h0_eRight : Nat → Int32) (n0_rSet : Nat) (n0_rRight : Nat) (x1 : Int64) (x3 : Int64) (x5 : Int32) (x6 : Int32) (f0_thrown : Int32) (f0_rowCount : Int32) (f0_isImpossible : Bool) (h0_rSet : Nat → Int64) (h0_rRight : Nat → Int32) : Option (Int32 × Int32 × Int32 × Bool × (Nat → Int64) × (Nat → Int32)) ⊕ S_X8_sum :=
  cif (f0_rowCount ≤ x6)
    (cif (x3 = (0 : Int64))
      (.inl (some (x5, f0_thrown, f0_rowCount, f0_isImpossible, h0_rSet, h0_rRight)))
      (.inl (some ((-1 : Int32), f0_thrown, f0_rowCount, f0_isImpossible, h0_rSet, h0_rRight))))
    (cif (vp_in x6 n0_rSet)
      (sbd (D_X8_lowest (h0_rSet x6.toNatClampNeg)) (fun u_16 =>
        cif ((x3 &&& u_16) = (0 : Int64))
          (.inr (x3, x5, x6 + (1 : Int32), f0_thrown, f0_rowCount, f0_isImpossible, h0_rSet, h0_rRight))
          (cif (vp_in x6 n0_rSet)
            (cif (vp_in x6 n0_rRight)
              (.inr (x3 ^^^ (h0_rSet x6.toNatClampNeg), x5 ^^^ (h0_rRight x6.toNatClampNeg), x6 + (1 : Int32), f0_thrown, f0_rowCount, f0_isImpossible, h0_rSet, h0_rRight))
              (.inl none))
            (.inl none))))
      (.inl none))
noncomputable def st_X8_sum (f0_n : Int32) (f0_equations : Int32) (n0_eSet : Nat) (h0_eSet : Nat → Int64) (n0_eRight : Nat) (h0_eRight : Nat → Int32) (n0_rSet : Nat) (n0_rRight : Nat) (x1 : Int64) : S_X8_sum → Option (Int32 × Int32 × Int32 × Bool × (Nat → Int64) × (Nat → Int32)) ⊕ S_X8_sum := fun x => match x with
  | (x3, x5, x6, f0_thrown, f0_rowCount, f0_isImpossible, h0_rSet, h0_rRight) => b_X8_sum_40 f0_n f0_equations n0_eSet h0_eSet n0_eRight h0_eRight n0_rSet n0_rRight x1 x3 x5 x6 f0_thrown f0_rowCount f0_isImpossible h0_rSet h0_rRight
noncomputable def L_X8_sum_40 (f0_n : Int32) (f0_equations : Int32) (n0_eSet : Nat) (h0_eSet : Nat → Int64) (n0_eRight : Nat) (h0_eRight : Nat → Int32) (n0_rSet : Nat) (n0_rRight : Nat) (x1 : Int64) (x3 : Int64) (x5 : Int32) (x6 : Int32) (f0_thrown : Int32) (f0_rowCount : Int32) (f0_isImpossible : Bool) (h0_rSet : Nat → Int64) (h0_rRight : Nat → Int32) : Option (Int32 × Int32 × Int32 × Bool × (Nat → Int64) × (Nat → Int32)) := runw (st_X8_sum f0_n f0_equations n0_eSet h0_eSet n0_eRight h0_eRight n0_rSet n0_rRight x1) (x3, x5, x6, f0_thrown, f0_rowCount, f0_isImpossible, h0_rSet, h0_rRight)
theorem E_X8_sum_40 (f0_n : Int32) (f0_equations : Int32) (n0_eSet : Nat) (h0_eSet : Nat → Int64) (n0_eRight : Nat) (h0_eRight : Nat → Int32) (n0_rSet : Nat) (n0_rRight : Nat) (x1 : Int64) (x3 : Int64) (x5 : Int32) (x6 : Int32) (f0_thrown : Int32) (f0_rowCount : Int32) (f0_isImpossible : Bool) (h0_rSet : Nat → Int64) (h0_rRight : Nat → Int32) : L_X8_sum_40 f0_n f0_equations n0_eSet h0_eSet n0_eRight h0_eRight n0_rSet n0_rRight x1 x3 x5 x6 f0_thrown f0_rowCount f0_isImpossible h0_rSet h0_rRight =
    cif (f0_rowCount ≤ x6)
      (cif (x3 = (0 : Int64))
        (some (x5, f0_thrown, f0_rowCount, f0_isImpossible, h0_rSet, h0_rRight))
        (some ((-1 : Int32), f0_thrown, f0_rowCount, f0_isImpossible, h0_rSet, h0_rRight)))
      (cif (vp_in x6 n0_rSet)
        (Option.bind (D_X8_lowest (h0_rSet x6.toNatClampNeg)) (fun u_16 =>
          cif ((x3 &&& u_16) = (0 : Int64))
            (L_X8_sum_40 f0_n f0_equations n0_eSet h0_eSet n0_eRight h0_eRight n0_rSet n0_rRight x1 x3 x5 (x6 + (1 : Int32)) f0_thrown f0_rowCount f0_isImpossible h0_rSet h0_rRight)
            (cif (vp_in x6 n0_rSet)
              (cif (vp_in x6 n0_rRight)
                (L_X8_sum_40 f0_n f0_equations n0_eSet h0_eSet n0_eRight h0_eRight n0_rSet n0_rRight x1 (x3 ^^^ (h0_rSet x6.toNatClampNeg)) (x5 ^^^ (h0_rRight x6.toNatClampNeg)) (x6 + (1 : Int32)) f0_thrown f0_rowCount f0_isImpossible h0_rSet h0_rRight)
                (none))
              (none))))
        (none)) := by
  show runw (st_X8_sum f0_n f0_equations n0_eSet h0_eSet n0_eRight h0_eRight n0_rSet n0_rRight x1) (x3, x5, x6, f0_thrown, f0_rowCount, f0_isImpossible, h0_rSet, h0_rRight) = _
  rw [runw_eq]
  show run1 _ (b_X8_sum_40 f0_n f0_equations n0_eSet h0_eSet n0_eRight h0_eRight n0_rSet n0_rRight x1 x3 x5 x6 f0_thrown f0_rowCount f0_isImpossible h0_rSet h0_rRight) = _
  simp only [b_X8_sum_40, run1_cif, run1_sbd, run1_inl, run1_inr]
  try rfl
noncomputable def D_X8_sum (f0_thrown : Int32) (f0_n : Int32) (f0_equations : Int32) (f0_rowCount : Int32) (f0_isImpossible : Bool) (n0_eSet : Nat) (h0_eSet : Nat → Int64) (n0_eRight : Nat) (h0_eRight : Nat → Int32) (n0_rSet : Nat) (h0_rSet : Nat → Int64) (n0_rRight : Nat) (h0_rRight : Nat → Int32) (x1 : Int64) : Option (Int32 × Int32 × Int32 × Bool × (Nat → Int64) × (Nat → Int32)) :=
  Option.bind (D_X8_areThere f0_n x1) (fun u_1 =>
    Option.bind (D_X8_may f0_thrown u_1 true) (fun u_3 =>
      cif (u_3.1 = true)
        (Option.bind (D_X8_makeRows f0_equations f0_rowCount f0_isImpossible n0_eSet h0_eSet n0_eRight h0_eRight n0_rSet h0_rSet n0_rRight h0_rRight (0 : Int64) (0 : Int64) true) (fun u_7 =>
          cif (u_7.2.1 = true)
            (some ((-2 : Int32), u_3.2, u_7.1, u_7.2.1, u_7.2.2.1, u_7.2.2.2))
            (L_X8_sum_40 f0_n f0_equations n0_eSet h0_eSet n0_eRight h0_eRight n0_rSet n0_rRight x1 x1 (0 : Int32) (0 : Int32) u_3.2 u_7.1 u_7.2.1 u_7.2.2.1 u_7.2.2.2)))
        (some ((0 : Int32), u_3.2, f0_rowCount, f0_isImpossible, h0_rSet, h0_rRight))))
theorem in_X8_sum_X8 : ∀ w ∈ wsX80, w ∈ wsX8_sum := by decide +kernel
theorem lk_0_X8_sum : Cond.fieldLink RX8 175 "ParityClausesModel" "isImpossible" "Z" ∈ wsX8_sum := by decide +kernel
theorem lk_1_X8_sum : Cond.fieldLink RX8 172 "ParityClausesModel" "rowCount" "I" ∈ wsX8_sum := by decide +kernel
theorem lk_2_X8_sum : Cond.fieldLink RX8 44 "ParityClausesModel" "rSet" "[J" ∈ wsX8_sum := by decide +kernel
theorem lk_3_X8_sum : Cond.fieldLink RX8 47 "ParityClausesModel" "rRight" "[I" ∈ wsX8_sum := by decide +kernel
abbrev rm_X8_sum : Room := { frames := 4, cells := 0, slots := 0, locals := 103 }
set_option maxHeartbeats 4000000 in
set_option maxRecDepth 100000 in
theorem cm_X8_sum (l : Launch) (D : va_G) (cI cL : ClassId) (q0 q0_eSet q0_eRight q0_rSet q0_rRight : Nat) (n0_eSet n0_eRight n0_rSet n0_rRight : Nat) (f0_thrown : Int32) (f0_n : Int32) (f0_equations : Int32) (f0_rowCount : Int32) (f0_isImpossible : Bool) (h0_eSet : Nat → Int64) (h0_eRight : Nat → Int32) (h0_rSet : Nat → Int64) (h0_rRight : Nat → Int32) (v0_clauses v0_cYes v0_cNo v0_levels v0_levelEquations v0_levelClauses v0_tape v0_tapeSize v0_faultIs v0_faultAt v0_at v0_newEquations v0_newClauses v0_newSet v0_newRight v0_newYes v0_newNo v0_lineYes v0_lineNo v0_sumSet v0_sumOf v0_sumRight v0_empty v0_empties v0_taken v0_ones v0_waitTaken v0_waitOnes v0_nodeCount v0_lastModel v0_modelCount v0_modelIs v0_gSet v0_gateCount : Value) (x1 : Int64) (r0 : Int32 × Int32 × Int32 × Bool × (Nat → Int64) × (Nat → Int32)) (h0 : D_X8_sum f0_thrown f0_n f0_equations f0_rowCount f0_isImpossible n0_eSet h0_eSet n0_eRight h0_eRight n0_rSet h0_rSet n0_rRight h0_rRight x1 = some r0) (sz : Nat) : Met l yX8_sum wsX8_sum rm_X8_sum (PcW D cI cL [.ref q0, .long x1] [(q0, .inr (8, [.int f0_thrown, .int f0_n, .int f0_equations, .ref q0_eSet, .ref q0_eRight, v0_clauses, v0_cYes, v0_cNo, v0_levels, v0_levelEquations, v0_levelClauses, v0_tape, v0_tapeSize, v0_faultIs, v0_faultAt, v0_at, v0_newEquations, v0_newClauses, v0_newSet, v0_newRight, v0_newYes, v0_newNo, v0_lineYes, v0_lineNo, .int f0_rowCount, .ref q0_rSet, .ref q0_rRight, .int (bI f0_isImpossible), v0_sumSet, v0_sumOf, v0_sumRight, v0_empty, v0_empties, v0_taken, v0_ones, v0_waitTaken, v0_waitOnes, v0_nodeCount, v0_lastModel, v0_modelCount, v0_modelIs, v0_gSet, v0_gateCount])), (q0_eSet, .inl (cL, n0_eSet, .inr (.inl h0_eSet))), (q0_eRight, .inl (cI, n0_eRight, .inl h0_eRight)), (q0_rSet, .inl (cL, n0_rSet, .inr (.inl h0_rSet))), (q0_rRight, .inl (cI, n0_rRight, .inl h0_rRight))] sz) (QiW D [(q0, .inr (8, [.int f0_thrown, .int f0_n, .int f0_equations, .ref q0_eSet, .ref q0_eRight, v0_clauses, v0_cYes, v0_cNo, v0_levels, v0_levelEquations, v0_levelClauses, v0_tape, v0_tapeSize, v0_faultIs, v0_faultAt, v0_at, v0_newEquations, v0_newClauses, v0_newSet, v0_newRight, v0_newYes, v0_newNo, v0_lineYes, v0_lineNo, .int f0_rowCount, .ref q0_rSet, .ref q0_rRight, .int (bI f0_isImpossible), v0_sumSet, v0_sumOf, v0_sumRight, v0_empty, v0_empties, v0_taken, v0_ones, v0_waitTaken, v0_waitOnes, v0_nodeCount, v0_lastModel, v0_modelCount, v0_modelIs, v0_gSet, v0_gateCount])), (q0_eSet, .inl (cL, n0_eSet, .inr (.inl h0_eSet))), (q0_eRight, .inl (cI, n0_eRight, .inl h0_eRight)), (q0_rSet, .inl (cL, n0_rSet, .inr (.inl h0_rSet))), (q0_rRight, .inl (cI, n0_rRight, .inl h0_rRight))] r0.1 (fun _ : Unit => [(q0, .inr (8, [.int r0.2.1, .int f0_n, .int f0_equations, .ref q0_eSet, .ref q0_eRight, v0_clauses, v0_cYes, v0_cNo, v0_levels, v0_levelEquations, v0_levelClauses, v0_tape, v0_tapeSize, v0_faultIs, v0_faultAt, v0_at, v0_newEquations, v0_newClauses, v0_newSet, v0_newRight, v0_newYes, v0_newNo, v0_lineYes, v0_lineNo, .int r0.2.2.1, .ref q0_rSet, .ref q0_rRight, .int (bI r0.2.2.2.1), v0_sumSet, v0_sumOf, v0_sumRight, v0_empty, v0_empties, v0_taken, v0_ones, v0_waitTaken, v0_waitOnes, v0_nodeCount, v0_lastModel, v0_modelCount, v0_modelIs, v0_gSet, v0_gateCount])), (q0_eSet, .inl (cL, n0_eSet, .inr (.inl h0_eSet))), (q0_eRight, .inl (cI, n0_eRight, .inl h0_eRight)), (q0_rSet, .inl (cL, n0_rSet, .inr (.inl r0.2.2.2.2.1))), (q0_rRight, .inl (cI, n0_rRight, .inl r0.2.2.2.2.2))]) tU sz) 0 0 (va_A [(q0, .inr (8, [.int f0_thrown, .int f0_n, .int f0_equations, .ref q0_eSet, .ref q0_eRight, v0_clauses, v0_cYes, v0_cNo, v0_levels, v0_levelEquations, v0_levelClauses, v0_tape, v0_tapeSize, v0_faultIs, v0_faultAt, v0_at, v0_newEquations, v0_newClauses, v0_newSet, v0_newRight, v0_newYes, v0_newNo, v0_lineYes, v0_lineNo, .int f0_rowCount, .ref q0_rSet, .ref q0_rRight, .int (bI f0_isImpossible), v0_sumSet, v0_sumOf, v0_sumRight, v0_empty, v0_empties, v0_taken, v0_ones, v0_waitTaken, v0_waitOnes, v0_nodeCount, v0_lastModel, v0_modelCount, v0_modelIs, v0_gSet, v0_gateCount])), (q0_eSet, .inl (cL, n0_eSet, .inr (.inl h0_eSet))), (q0_eRight, .inl (cI, n0_eRight, .inl h0_eRight)), (q0_rSet, .inl (cL, n0_rSet, .inr (.inl h0_rSet))), (q0_rRight, .inl (cI, n0_rRight, .inl h0_rRight))] sz) := by
  refine Met.ofW (cc := cX8_sum) (maxL := 7) (ret := (some .int)) (by decide) rfl ?_
  intro p e s m args below meth c s₁ B hml hv
  obtain ⟨hargs, hsz, hP, hEV, hD0⟩ := hv
  have hx := B.exec
  have hb := B.bytes
  have hr := B.returns
  have hts := atoms_spec (ws := wsX8_sum) B.pre
  have hown : s.vm.findClass RX8 = some m.cls := findClass_of_methodNamed B.named
  have hlocks := B.notSynchronized
  have hK := hEV.K
  have lk_0 := hts _ lk_0_X8_sum
  have lk_1 := hts _ lk_1_X8_sum
  have lk_2 := hts _ lk_2_X8_sum
  have lk_3 := hts _ lk_3_X8_sum
  subst hsz
  unfold QiW PoW
  have hD := hD0.self (sz := s.heap.size)
  generalize hAe : va_A [(q0, .inr (8, [.int f0_thrown, .int f0_n, .int f0_equations, .ref q0_eSet, .ref q0_eRight, v0_clauses, v0_cYes, v0_cNo, v0_levels, v0_levelEquations, v0_levelClauses, v0_tape, v0_tapeSize, v0_faultIs, v0_faultAt, v0_at, v0_newEquations, v0_newClauses, v0_newSet, v0_newRight, v0_newYes, v0_newNo, v0_lineYes, v0_lineNo, .int f0_rowCount, .ref q0_rSet, .ref q0_rRight, .int (bI f0_isImpossible), v0_sumSet, v0_sumOf, v0_sumRight, v0_empty, v0_empties, v0_taken, v0_ones, v0_waitTaken, v0_waitOnes, v0_nodeCount, v0_lastModel, v0_modelCount, v0_modelIs, v0_gSet, v0_gateCount])), (q0_eSet, .inl (cL, n0_eSet, .inr (.inl h0_eSet))), (q0_eRight, .inl (cI, n0_eRight, .inl h0_eRight)), (q0_rSet, .inl (cL, n0_rSet, .inr (.inl h0_rSet))), (q0_rRight, .inl (cI, n0_rRight, .inl h0_rRight))] s.heap.size = A at hD ⊢
  have hA : ∀ q : Nat, s.heap.size ≤ q → A q := fun q h => by rw [← hAe]; exact Or.inr h
  have hS : va_S A s.heap s.heap [] := va_S.rf
  have hent : entryFrame m args 7 = entryFrame m ([.ref q0, .long x1] : List Value).toArray 7 := by rw [hargs]
  rw [hent]
  refine kx_Q (fun Q hQ => ?_)
  have hl := lv_entry ([.ref q0, .long x1]) (n := 7) (Nat.le_of_ble_eq_true rfl)
  rw [lg_entry_eq]
  generalize (lg_sl ([.ref q0, .long x1]) ++ List.replicate (7 - (lg_sl ([.ref q0, .long x1])).length) Slot.unset).toArray = ls at hl ⊢
  have hl : lv_has ls 7 [(0, .ref q0), (1, .long x1)] := hl
  have hloop : ∀ n9 : Nat, (∀ (x3 : Int64) (x5 : Int32) (x6 : Int32) (f0_thrown : Int32) (f0_rowCount : Int32) (f0_isImpossible : Bool) (h0_rSet : Nat → Int64) (h0_rRight : Nat → Int32), iter (st_X8_sum f0_n f0_equations n0_eSet h0_eSet n0_eRight h0_eRight n0_rSet n0_rRight x1) n9 (x3, x5, x6, f0_thrown, f0_rowCount, f0_isImpossible, h0_rSet, h0_rRight) = some r0 → ∀ (H : Heap) (locs : List Loc) (ls : Array Slot), va_P D vwCl [(q0, .inr (8, [.int f0_thrown, .int f0_n, .int f0_equations, .ref q0_eSet, .ref q0_eRight, v0_clauses, v0_cYes, v0_cNo, v0_levels, v0_levelEquations, v0_levelClauses, v0_tape, v0_tapeSize, v0_faultIs, v0_faultAt, v0_at, v0_newEquations, v0_newClauses, v0_newSet, v0_newRight, v0_newYes, v0_newNo, v0_lineYes, v0_lineNo, .int f0_rowCount, .ref q0_rSet, .ref q0_rRight, .int (bI f0_isImpossible), v0_sumSet, v0_sumOf, v0_sumRight, v0_empty, v0_empties, v0_taken, v0_ones, v0_waitTaken, v0_waitOnes, v0_nodeCount, v0_lastModel, v0_modelCount, v0_modelIs, v0_gSet, v0_gateCount])), (q0_eSet, .inl (cL, n0_eSet, .inr (.inl h0_eSet))), (q0_eRight, .inl (cI, n0_eRight, .inl h0_eRight)), (q0_rSet, .inl (cL, n0_rSet, .inr (.inl h0_rSet))), (q0_rRight, .inl (cI, n0_rRight, .inl h0_rRight))] H → va_D A [(q0, .inr (8, [.int f0_thrown, .int f0_n, .int f0_equations, .ref q0_eSet, .ref q0_eRight, v0_clauses, v0_cYes, v0_cNo, v0_levels, v0_levelEquations, v0_levelClauses, v0_tape, v0_tapeSize, v0_faultIs, v0_faultAt, v0_at, v0_newEquations, v0_newClauses, v0_newSet, v0_newRight, v0_newYes, v0_newNo, v0_lineYes, v0_lineNo, .int f0_rowCount, .ref q0_rSet, .ref q0_rRight, .int (bI f0_isImpossible), v0_sumSet, v0_sumOf, v0_sumRight, v0_empty, v0_empties, v0_taken, v0_ones, v0_waitTaken, v0_waitOnes, v0_nodeCount, v0_lastModel, v0_modelCount, v0_modelIs, v0_gSet, v0_gateCount])), (q0_eSet, .inl (cL, n0_eSet, .inr (.inl h0_eSet))), (q0_eRight, .inl (cI, n0_eRight, .inl h0_eRight)), (q0_rSet, .inl (cL, n0_rSet, .inr (.inl h0_rSet))), (q0_rRight, .inl (cI, n0_rRight, .inl h0_rRight))] → va_S A s.heap H locs → lv_has ls 7 [(0, .ref q0), (3, .long x3), (5, .int x5), (6, .int x6)] → W p l e (headSpec wsX8_sum rm_X8_sum).room s m args below meth c H locs 0 0 Q (F0 m 40 ls [])) := by
    intro n9
    induction n9 with
    | zero => exact fun _ _ _ _ _ _ _ _ h => nomatch h
    | succ n9 ih =>
      intro x3 x5 x6 f0_thrown f0_rowCount f0_isImpossible h0_rSet h0_rRight h H locs ls hP hD hS hl
      have h : run1 (iter (st_X8_sum f0_n f0_equations n0_eSet h0_eSet n0_eRight h0_eRight n0_rSet n0_rRight x1) n9) (b_X8_sum_40 f0_n f0_equations n0_eSet h0_eSet n0_eRight h0_eRight n0_rSet n0_rRight x1 x3 x5 x6 f0_thrown f0_rowCount f0_isImpossible h0_rSet h0_rRight) = some r0 := h
      unfold b_X8_sum_40 at h
      refine lv_iload hx hb dX8_sum_40 (lv_at hl 3 rfl) ?_
      refine lv_aload_n hx hb dX8_sum_42 rfl (lv_at hl 0 rfl) ?_
      refine va_get (D := D) (ci := 8) (v := .int f0_rowCount) (C := RX8) (T := TX8) (N := 43) hx hb hts in_X8_sum_X8 hown hK hP 0 rfl rfl 24 (by decide) lk_1 (fun _ h9 => h9) rfl dX8_sum_43 ?_
      refine lv_icmp_ge (tgt := 94) hx hb dX8_sum_46 (by decide) (fun c_11 => ?_) (fun c_11 => ?_)
      · have k_12 : f0_rowCount ≤ x6 := c_11
        have h := cw_t k_12 h
        refine lv_lload_n hx hb dX8_sum_94 rfl (lv_at hl 1 rfl) ?_
        refine lv_lconst (v := (0 : Int64)) hx hb dX8_sum_95 (by decide) ?_
        refine W.lcmp hx hb dX8_sum_96 ?_
        refine lv_if_ne (tgt := 105) hx hb dX8_sum_97 (by decide) (fun c_13 => ?_) (fun c_13 => ?_)
        · have k_14 : ¬ (x3 = (0 : Int64)) := (fun z9 => c_13 ((lg_cmp_eq _ _).mpr z9))
          have h := cw_f k_14 h
          refine lv_iconst (v := (-1 : Int32)) hx hb dX8_sum_105 (by decide) ?_
          have h := Option.some.inj h
          subst h
          subst hQ
          exact W.iret (v := (-1 : Int32)) hx hb hr (fun t ht hW => ⟨⟨(-1 : Int32), (), rfl, ⟨rfl, trivial⟩, by rw [ht]; exact hP, hD⟩, hS.F ht⟩) hS.2.2 dX8_sum_106
        · have k_14 : x3 = (0 : Int64) := ((lg_cmp_eq _ _).mp c_13)
          have h := cw_t k_14 h
          refine lv_iload hx hb dX8_sum_100 (lv_at hl 2 rfl) ?_
          refine lv_goto (tgt := 106) hx hb dX8_sum_102 (by decide) ?_
          have h := Option.some.inj h
          subst h
          subst hQ
          exact W.iret (v := x5) hx hb hr (fun t ht hW => ⟨⟨x5, (), rfl, ⟨rfl, trivial⟩, by rw [ht]; exact hP, hD⟩, hS.F ht⟩) hS.2.2 dX8_sum_106
      · have k_12 : ¬ (f0_rowCount ≤ x6) := c_11
        have h := cw_f k_12 h
        refine lv_lload_n hx hb dX8_sum_49 rfl (lv_at hl 1 rfl) ?_
        refine lv_aload_n hx hb dX8_sum_50 rfl (lv_at hl 0 rfl) ?_
        refine va_get (D := D) (ci := 8) (v := .ref q0_rSet) (C := RX8) (T := TX8) (N := 43) hx hb hts in_X8_sum_X8 hown hK hP 0 rfl rfl 25 (by decide) lk_2 (fun _ h9 => h9) rfl dX8_sum_51 ?_
        refine lv_iload hx hb dX8_sum_54 (lv_at hl 3 rfl) ?_
        obtain ⟨b_15, h⟩ := cw_i h
        refine va_lald hx hb hK hP 3 1 rfl rfl b_15 dX8_sum_56 ?_
        obtain ⟨u_16, hu_17, h⟩ := cw_b h
        refine kx_l (ws' := fun _ => [(q0, .inr (8, [.int f0_thrown, .int f0_n, .int f0_equations, .ref q0_eSet, .ref q0_eRight, v0_clauses, v0_cYes, v0_cNo, v0_levels, v0_levelEquations, v0_levelClauses, v0_tape, v0_tapeSize, v0_faultIs, v0_faultAt, v0_at, v0_newEquations, v0_newClauses, v0_newSet, v0_newRight, v0_newYes, v0_newNo, v0_lineYes, v0_lineNo, .int f0_rowCount, .ref q0_rSet, .ref q0_rRight, .int (bI f0_isImpossible), v0_sumSet, v0_sumOf, v0_sumRight, v0_empty, v0_empties, v0_taken, v0_ones, v0_waitTaken, v0_waitOnes, v0_nodeCount, v0_lastModel, v0_modelCount, v0_modelIs, v0_gSet, v0_gateCount])), (q0_eSet, .inl (cL, n0_eSet, .inr (.inl h0_eSet))), (q0_eRight, .inl (cI, n0_eRight, .inl h0_eRight)), (q0_rSet, .inl (cL, n0_rSet, .inr (.inl h0_rSet))), (q0_rRight, .inl (cI, n0_rRight, .inl h0_rRight))]) hP hD hS hA [] [0, 1, 2, 3, 4] [0, 1, 2, 3, 4] rfl (by decide) (by decide) (by decide) (fun _ => rfl) (by decide) (va_runS (As := [.long (h0_rSet x6.toNatClampNeg)]) (rest := [.long x3]) ⟨hx, hb, hml, hown, hts⟩ (cm_X8_lowest l D cI cL (x0 := h0_rSet x6.toNatClampNeg) (r0 := u_16) (h0 := hu_17) (sz := H.size)) (va_cwS 1 hts gX8_sum_X8_lowest rfl rfl rfl (by decide +kernel) ⟨Nat.le_of_ble_eq_true rfl, Nat.le_of_ble_eq_true rfl⟩) (kx_preS hEV hP hD [] rfl (by decide)) rfl rfl hl.1 rfl (lv_room (Nat.le_of_ble_eq_true rfl)) dX8_sum_57 ⟨Nat.le_refl _, Nat.le_refl _⟩) (fun _ H locs _ hP hD hS => ?_)
        refine lv_land hx hb dX8_sum_60 ?_
        refine lv_lconst (v := (0 : Int64)) hx hb dX8_sum_61 (by decide) ?_
        refine W.lcmp hx hb dX8_sum_62 ?_
        refine lv_if_eq (tgt := 88) hx hb dX8_sum_63 (by decide) (fun c_18 => ?_) (fun c_18 => ?_)
        · have k_19 : (x3 &&& u_16) = (0 : Int64) := ((lg_cmp_eq _ _).mp c_18)
          have h := cw_t k_19 h
          refine lv_iinc (v := x6 + (1 : Int32)) (lv' := [(6, .int (x6 + (1 : Int32))), (0, .ref q0), (3, .long x3), (5, .int x5)]) hx hb dX8_sum_88 hl (k := 3) rfl rfl (by decide) rfl (fun ls hl => ?_)
          refine lv_goto (tgt := 40) hx hb dX8_sum_91 (by decide) ?_
          exact ih _ _ _ _ _ _ _ _ h _ _ _ hP hD hS (lv_sub hl [1, 2, 3, 0] rfl)
        · have k_19 : ¬ ((x3 &&& u_16) = (0 : Int64)) := (fun z9 => c_18 ((lg_cmp_eq _ _).mpr z9))
          have h := cw_f k_19 h
          refine lv_lload_n hx hb dX8_sum_66 rfl (lv_at hl 1 rfl) ?_
          refine lv_aload_n hx hb dX8_sum_67 rfl (lv_at hl 0 rfl) ?_
          refine va_get (D := D) (ci := 8) (v := .ref q0_rSet) (C := RX8) (T := TX8) (N := 43) hx hb hts in_X8_sum_X8 hown hK hP 0 rfl rfl 25 (by decide) lk_2 (fun _ h9 => h9) rfl dX8_sum_68 ?_
          refine lv_iload hx hb dX8_sum_71 (lv_at hl 3 rfl) ?_
          obtain ⟨b_20, h⟩ := cw_i h
          refine va_lald hx hb hK hP 3 1 rfl rfl b_20 dX8_sum_73 ?_
          refine lv_lxor hx hb dX8_sum_74 ?_
          refine lv_lstore_n (lv' := [(3, .long (x3 ^^^ (h0_rSet x6.toNatClampNeg))), (0, .ref q0), (5, .int x5), (6, .int x6)]) hx hb dX8_sum_75 rfl hl (by decide) rfl (fun ls hl => ?_)
          refine lv_iload hx hb dX8_sum_76 (lv_at hl 2 rfl) ?_
          refine lv_aload_n hx hb dX8_sum_78 rfl (lv_at hl 1 rfl) ?_
          refine va_get (D := D) (ci := 8) (v := .ref q0_rRight) (C := RX8) (T := TX8) (N := 43) hx hb hts in_X8_sum_X8 hown hK hP 0 rfl rfl 26 (by decide) lk_3 (fun _ h9 => h9) rfl dX8_sum_79 ?_
          refine lv_iload hx hb dX8_sum_82 (lv_at hl 3 rfl) ?_
          obtain ⟨b_21, h⟩ := cw_i h
          refine va_iald hx hb hK hP 4 0 rfl rfl b_21 dX8_sum_84 ?_
          refine lv_ixor hx hb dX8_sum_85 ?_
          refine lv_istore (lv' := [(5, .int (x5 ^^^ (h0_rRight x6.toNatClampNeg))), (3, .long (x3 ^^^ (h0_rSet x6.toNatClampNeg))), (0, .ref q0), (6, .int x6)]) hx hb dX8_sum_86 hl (by decide) rfl (fun ls hl => ?_)
          refine lv_iinc (v := x6 + (1 : Int32)) (lv' := [(6, .int (x6 + (1 : Int32))), (5, .int (x5 ^^^ (h0_rRight x6.toNatClampNeg))), (3, .long (x3 ^^^ (h0_rSet x6.toNatClampNeg))), (0, .ref q0)]) hx hb dX8_sum_88 hl (k := 3) rfl rfl (by decide) rfl (fun ls hl => ?_)
          refine lv_goto (tgt := 40) hx hb dX8_sum_91 (by decide) ?_
          exact ih _ _ _ _ _ _ _ _ h _ _ _ hP hD hS (lv_sub hl [3, 2, 1, 0] rfl)
  have h := h0
  unfold D_X8_sum at h
  refine lv_aload_n hx hb dX8_sum_0 rfl (lv_at hl 0 rfl) ?_
  refine lv_aload_n hx hb dX8_sum_1 rfl (lv_at hl 0 rfl) ?_
  refine lv_lload_n hx hb dX8_sum_2 rfl (lv_at hl 1 rfl) ?_
  obtain ⟨u_1, hu_2, h⟩ := co_b h
  refine kx_i (ws' := fun _ => [(q0, .inr (8, [.int f0_thrown, .int f0_n, .int f0_equations, .ref q0_eSet, .ref q0_eRight, v0_clauses, v0_cYes, v0_cNo, v0_levels, v0_levelEquations, v0_levelClauses, v0_tape, v0_tapeSize, v0_faultIs, v0_faultAt, v0_at, v0_newEquations, v0_newClauses, v0_newSet, v0_newRight, v0_newYes, v0_newNo, v0_lineYes, v0_lineNo, .int f0_rowCount, .ref q0_rSet, .ref q0_rRight, .int (bI f0_isImpossible), v0_sumSet, v0_sumOf, v0_sumRight, v0_empty, v0_empties, v0_taken, v0_ones, v0_waitTaken, v0_waitOnes, v0_nodeCount, v0_lastModel, v0_modelCount, v0_modelIs, v0_gSet, v0_gateCount])), (q0_eSet, .inl (cL, n0_eSet, .inr (.inl h0_eSet))), (q0_eRight, .inl (cI, n0_eRight, .inl h0_eRight)), (q0_rSet, .inl (cL, n0_rSet, .inr (.inl h0_rSet))), (q0_rRight, .inl (cI, n0_rRight, .inl h0_rRight))]) hP hD hS hA [0] [1, 2, 3, 4] [4, 0, 1, 2, 3] rfl (by decide) (by decide) (by decide) (fun _ => rfl) (by decide) (va_runV (As := [.long x1]) (rest := [.ref q0]) ⟨hx, hb, hml, hown, hts⟩ (cm_X8_areThere l D cI cL (q0 := q0) (f0_n := f0_n) (v0_thrown := .int f0_thrown) (v0_equations := .int f0_equations) (v0_eSet := .ref q0_eSet) (v0_eRight := .ref q0_eRight) (v0_clauses := v0_clauses) (v0_cYes := v0_cYes) (v0_cNo := v0_cNo) (v0_levels := v0_levels) (v0_levelEquations := v0_levelEquations) (v0_levelClauses := v0_levelClauses) (v0_tape := v0_tape) (v0_tapeSize := v0_tapeSize) (v0_faultIs := v0_faultIs) (v0_faultAt := v0_faultAt) (v0_at := v0_at) (v0_newEquations := v0_newEquations) (v0_newClauses := v0_newClauses) (v0_newSet := v0_newSet) (v0_newRight := v0_newRight) (v0_newYes := v0_newYes) (v0_newNo := v0_newNo) (v0_lineYes := v0_lineYes) (v0_lineNo := v0_lineNo) (v0_rowCount := .int f0_rowCount) (v0_rSet := .ref q0_rSet) (v0_rRight := .ref q0_rRight) (v0_isImpossible := .int (bI f0_isImpossible)) (v0_sumSet := v0_sumSet) (v0_sumOf := v0_sumOf) (v0_sumRight := v0_sumRight) (v0_empty := v0_empty) (v0_empties := v0_empties) (v0_taken := v0_taken) (v0_ones := v0_ones) (v0_waitTaken := v0_waitTaken) (v0_waitOnes := v0_waitOnes) (v0_nodeCount := v0_nodeCount) (v0_lastModel := v0_lastModel) (v0_modelCount := v0_modelCount) (v0_modelIs := v0_modelIs) (v0_gSet := v0_gSet) (v0_gateCount := v0_gateCount) (x1 := x1) (r0 := u_1) (h0 := hu_2) (sz := H.size)) (cwV 1 hts gX8_sum_X8_areThere rfl rfl rfl (by decide +kernel) ⟨Nat.le_of_ble_eq_true rfl, Nat.le_of_ble_eq_true rfl⟩) (kx_preV hEV hP hD [0] rfl (by decide) (k0 := 0) (ci := 8) rfl rfl rfl) rfl rfl hl.1 rfl (lv_room (Nat.le_of_ble_eq_true rfl)) dX8_sum_3 ⟨Nat.le_refl _, Nat.le_refl _⟩) (fun _ H locs _ hP hD hS => ?_)
  refine lv_iconst (v := (1 : Int32)) hx hb dX8_sum_6 (by decide) ?_
  obtain ⟨u_3, hu_4, h⟩ := co_b h
  refine kx_i (ws' := fun _ => [(q0, .inr (8, [.int u_3.2, .int f0_n, .int f0_equations, .ref q0_eSet, .ref q0_eRight, v0_clauses, v0_cYes, v0_cNo, v0_levels, v0_levelEquations, v0_levelClauses, v0_tape, v0_tapeSize, v0_faultIs, v0_faultAt, v0_at, v0_newEquations, v0_newClauses, v0_newSet, v0_newRight, v0_newYes, v0_newNo, v0_lineYes, v0_lineNo, .int f0_rowCount, .ref q0_rSet, .ref q0_rRight, .int (bI f0_isImpossible), v0_sumSet, v0_sumOf, v0_sumRight, v0_empty, v0_empties, v0_taken, v0_ones, v0_waitTaken, v0_waitOnes, v0_nodeCount, v0_lastModel, v0_modelCount, v0_modelIs, v0_gSet, v0_gateCount])), (q0_eSet, .inl (cL, n0_eSet, .inr (.inl h0_eSet))), (q0_eRight, .inl (cI, n0_eRight, .inl h0_eRight)), (q0_rSet, .inl (cL, n0_rSet, .inr (.inl h0_rSet))), (q0_rRight, .inl (cI, n0_rRight, .inl h0_rRight))]) hP hD hS hA [0] [1, 2, 3, 4] [4, 0, 1, 2, 3] rfl (by decide) (by decide) (by decide) (fun _ => rfl) (by decide) (va_runV (As := [.int (bI u_1), .int (bI true)]) (rest := []) ⟨hx, hb, hml, hown, hts⟩ (cm_X8_may l D cI cL (q0 := q0) (f0_thrown := f0_thrown) (v0_n := .int f0_n) (v0_equations := .int f0_equations) (v0_eSet := .ref q0_eSet) (v0_eRight := .ref q0_eRight) (v0_clauses := v0_clauses) (v0_cYes := v0_cYes) (v0_cNo := v0_cNo) (v0_levels := v0_levels) (v0_levelEquations := v0_levelEquations) (v0_levelClauses := v0_levelClauses) (v0_tape := v0_tape) (v0_tapeSize := v0_tapeSize) (v0_faultIs := v0_faultIs) (v0_faultAt := v0_faultAt) (v0_at := v0_at) (v0_newEquations := v0_newEquations) (v0_newClauses := v0_newClauses) (v0_newSet := v0_newSet) (v0_newRight := v0_newRight) (v0_newYes := v0_newYes) (v0_newNo := v0_newNo) (v0_lineYes := v0_lineYes) (v0_lineNo := v0_lineNo) (v0_rowCount := .int f0_rowCount) (v0_rSet := .ref q0_rSet) (v0_rRight := .ref q0_rRight) (v0_isImpossible := .int (bI f0_isImpossible)) (v0_sumSet := v0_sumSet) (v0_sumOf := v0_sumOf) (v0_sumRight := v0_sumRight) (v0_empty := v0_empty) (v0_empties := v0_empties) (v0_taken := v0_taken) (v0_ones := v0_ones) (v0_waitTaken := v0_waitTaken) (v0_waitOnes := v0_waitOnes) (v0_nodeCount := v0_nodeCount) (v0_lastModel := v0_lastModel) (v0_modelCount := v0_modelCount) (v0_modelIs := v0_modelIs) (v0_gSet := v0_gSet) (v0_gateCount := v0_gateCount) (x1 := u_1) (x2 := true) (r0 := u_3) (h0 := hu_4) (sz := H.size)) (cwV 2 hts gX8_sum_X8_may rfl rfl rfl (by decide +kernel) ⟨Nat.le_of_ble_eq_true rfl, Nat.le_of_ble_eq_true rfl⟩) (kx_preV hEV hP hD [0] rfl (by decide) (k0 := 0) (ci := 8) rfl rfl rfl) rfl rfl hl.1 rfl (lv_room (Nat.le_of_ble_eq_true rfl)) dX8_sum_7 ⟨Nat.le_refl _, Nat.le_refl _⟩) (fun _ H locs _ hP hD hS => ?_)
  refine lv_if_ne (tgt := 15) hx hb dX8_sum_10 (by decide) (fun c_5 => ?_) (fun c_5 => ?_)
  · have k_6 : u_3.1 = true := (kx_nz c_5)
    have h := co_t k_6 h
    refine lv_aload_n hx hb dX8_sum_15 rfl (lv_at hl 0 rfl) ?_
    refine lv_lconst (v := (0 : Int64)) hx hb dX8_sum_16 (by decide) ?_
    refine lv_lconst (v := (0 : Int64)) hx hb dX8_sum_17 (by decide) ?_
    refine lv_iconst (v := (1 : Int32)) hx hb dX8_sum_18 (by decide) ?_
    obtain ⟨u_7, hu_8, h⟩ := co_b h
    refine kx_v (ws' := fun _ => [(q0, .inr (8, [.int u_3.2, .int f0_n, .int f0_equations, .ref q0_eSet, .ref q0_eRight, v0_clauses, v0_cYes, v0_cNo, v0_levels, v0_levelEquations, v0_levelClauses, v0_tape, v0_tapeSize, v0_faultIs, v0_faultAt, v0_at, v0_newEquations, v0_newClauses, v0_newSet, v0_newRight, v0_newYes, v0_newNo, v0_lineYes, v0_lineNo, .int u_7.1, .ref q0_rSet, .ref q0_rRight, .int (bI u_7.2.1), v0_sumSet, v0_sumOf, v0_sumRight, v0_empty, v0_empties, v0_taken, v0_ones, v0_waitTaken, v0_waitOnes, v0_nodeCount, v0_lastModel, v0_modelCount, v0_modelIs, v0_gSet, v0_gateCount])), (q0_eSet, .inl (cL, n0_eSet, .inr (.inl h0_eSet))), (q0_eRight, .inl (cI, n0_eRight, .inl h0_eRight)), (q0_rSet, .inl (cL, n0_rSet, .inr (.inl u_7.2.2.1))), (q0_rRight, .inl (cI, n0_rRight, .inl u_7.2.2.2))]) hP hD hS hA [0, 1, 2, 3, 4] [] [0, 1, 2, 3, 4] rfl (by decide) (by decide) (by decide) (fun _ => rfl) (by decide) (va_runV (As := [.long (0 : Int64), .long (0 : Int64), .int (bI true)]) (rest := []) ⟨hx, hb, hml, hown, hts⟩ (cm_X8_makeRows l D cI cL (q0 := q0) (q0_eSet := q0_eSet) (q0_eRight := q0_eRight) (q0_rSet := q0_rSet) (q0_rRight := q0_rRight) (n0_eSet := n0_eSet) (n0_eRight := n0_eRight) (n0_rSet := n0_rSet) (n0_rRight := n0_rRight) (f0_equations := f0_equations) (f0_rowCount := f0_rowCount) (f0_isImpossible := f0_isImpossible) (h0_eSet := h0_eSet) (h0_eRight := h0_eRight) (h0_rSet := h0_rSet) (h0_rRight := h0_rRight) (v0_thrown := .int u_3.2) (v0_n := .int f0_n) (v0_clauses := v0_clauses) (v0_cYes := v0_cYes) (v0_cNo := v0_cNo) (v0_levels := v0_levels) (v0_levelEquations := v0_levelEquations) (v0_levelClauses := v0_levelClauses) (v0_tape := v0_tape) (v0_tapeSize := v0_tapeSize) (v0_faultIs := v0_faultIs) (v0_faultAt := v0_faultAt) (v0_at := v0_at) (v0_newEquations := v0_newEquations) (v0_newClauses := v0_newClauses) (v0_newSet := v0_newSet) (v0_newRight := v0_newRight) (v0_newYes := v0_newYes) (v0_newNo := v0_newNo) (v0_lineYes := v0_lineYes) (v0_lineNo := v0_lineNo) (v0_sumSet := v0_sumSet) (v0_sumOf := v0_sumOf) (v0_sumRight := v0_sumRight) (v0_empty := v0_empty) (v0_empties := v0_empties) (v0_taken := v0_taken) (v0_ones := v0_ones) (v0_waitTaken := v0_waitTaken) (v0_waitOnes := v0_waitOnes) (v0_nodeCount := v0_nodeCount) (v0_lastModel := v0_lastModel) (v0_modelCount := v0_modelCount) (v0_modelIs := v0_modelIs) (v0_gSet := v0_gSet) (v0_gateCount := v0_gateCount) (x1 := (0 : Int64)) (x3 := (0 : Int64)) (x5 := true) (r0 := u_7) (h0 := hu_8) (sz := H.size)) (cwV 3 hts gX8_sum_X8_makeRows rfl rfl rfl (by decide +kernel) ⟨Nat.le_of_ble_eq_true rfl, Nat.le_of_ble_eq_true rfl⟩) (kx_preV hEV hP hD [0, 1, 2, 3, 4] rfl (by decide) (k0 := 0) (ci := 8) rfl rfl rfl) rfl rfl hl.1 rfl (lv_room (Nat.le_of_ble_eq_true rfl)) dX8_sum_19 ⟨Nat.le_refl _, Nat.le_refl _⟩) (fun _ H locs _ hP hD hS => ?_)
    refine lv_aload_n hx hb dX8_sum_22 rfl (lv_at hl 0 rfl) ?_
    refine va_get (D := D) (ci := 8) (v := .int (bI u_7.2.1)) (C := RX8) (T := TX8) (N := 43) hx hb hts in_X8_sum_X8 hown hK hP 0 rfl rfl 27 (by decide) lk_0 (fun _ h9 => h9) rfl dX8_sum_23 ?_
    refine lv_if_eq (tgt := 32) hx hb dX8_sum_26 (by decide) (fun c_9 => ?_) (fun c_9 => ?_)
    · have k_10 : ¬ (u_7.2.1 = true) := (kx_z c_9)
      have h := co_f k_10 h
      refine lv_lload_n hx hb dX8_sum_32 rfl (lv_at hl 1 rfl) ?_
      refine lv_lstore_n (lv' := [(3, .long x1), (0, .ref q0), (1, .long x1)]) hx hb dX8_sum_33 rfl hl (by decide) rfl (fun ls hl => ?_)
      refine lv_iconst (v := (0 : Int32)) hx hb dX8_sum_34 (by decide) ?_
      refine lv_istore (lv' := [(5, .int (0 : Int32)), (3, .long x1), (0, .ref q0), (1, .long x1)]) hx hb dX8_sum_35 hl (by decide) rfl (fun ls hl => ?_)
      refine lv_iconst (v := (0 : Int32)) hx hb dX8_sum_37 (by decide) ?_
      refine lv_istore (lv' := [(6, .int (0 : Int32)), (5, .int (0 : Int32)), (3, .long x1), (0, .ref q0), (1, .long x1)]) hx hb dX8_sum_38 hl (by decide) rfl (fun ls hl => ?_)
      obtain ⟨n9, hn9⟩ := runw_some h
      exact (hloop n9) _ _ _ _ _ _ _ _ hn9 _ _ _ hP hD hS (lv_sub hl [3, 2, 1, 0] rfl)
    · have k_10 : u_7.2.1 = true := (kx_nz c_9)
      have h := co_t k_10 h
      refine lv_bipush (v := (-2 : Int32)) hx hb dX8_sum_29 (by decide) ?_
      have h := Option.some.inj h
      subst h
      subst hQ
      exact W.iret (v := (-2 : Int32)) hx hb hr (fun t ht hW => ⟨⟨(-2 : Int32), (), rfl, ⟨rfl, trivial⟩, by rw [ht]; exact hP, hD⟩, hS.F ht⟩) hS.2.2 dX8_sum_31
  · have k_6 : ¬ (u_3.1 = true) := (kx_z c_5)
    have h := co_f k_6 h
    refine lv_iconst (v := (0 : Int32)) hx hb dX8_sum_13 (by decide) ?_
    have h := Option.some.inj h
    subst h
    subst hQ
    exact W.iret (v := (0 : Int32)) hx hb hr (fun t ht hW => ⟨⟨(0 : Int32), (), rfl, ⟨rfl, trivial⟩, by rw [ht]; exact hP, hD⟩, hS.F ht⟩) hS.2.2 dX8_sum_14
noncomputable def D_X8_take (f0_taken : Int64) (f0_ones : Int64) (x1 : Int64) (x3 : Bool) : Option (Bool × Int64 × Int64) :=
  cif (x3 = true)
    (some (true, f0_taken ||| x1, f0_ones ||| x1))
    (some (true, f0_taken ||| x1, f0_ones ||| (0 : Int64)))
theorem in_X8_take_X8 : ∀ w ∈ wsX80, w ∈ wsX8_take := by decide +kernel
theorem lk_0_X8_take : Cond.fieldLink RX8 209 "ParityClausesModel" "taken" "J" ∈ wsX8_take := by decide +kernel
theorem lk_1_X8_take : Cond.fieldLink RX8 212 "ParityClausesModel" "ones" "J" ∈ wsX8_take := by decide +kernel
abbrev rm_X8_take : Room := { frames := 0, cells := 0, slots := 0, locals := 0 }
set_option maxHeartbeats 4000000 in
set_option maxRecDepth 100000 in
theorem cm_X8_take (l : Launch) (D : va_G) (cI cL : ClassId) (q0 : Nat) (f0_taken : Int64) (f0_ones : Int64) (v0_thrown v0_n v0_equations v0_eSet v0_eRight v0_clauses v0_cYes v0_cNo v0_levels v0_levelEquations v0_levelClauses v0_tape v0_tapeSize v0_faultIs v0_faultAt v0_at v0_newEquations v0_newClauses v0_newSet v0_newRight v0_newYes v0_newNo v0_lineYes v0_lineNo v0_rowCount v0_rSet v0_rRight v0_isImpossible v0_sumSet v0_sumOf v0_sumRight v0_empty v0_empties v0_waitTaken v0_waitOnes v0_nodeCount v0_lastModel v0_modelCount v0_modelIs v0_gSet v0_gateCount : Value) (x1 : Int64) (x3 : Bool) (r0 : Bool × Int64 × Int64) (h0 : D_X8_take f0_taken f0_ones x1 x3 = some r0) (sz : Nat) : Met l yX8_take wsX8_take rm_X8_take (PcW D cI cL [.ref q0, .long x1, .int (bI x3)] [(q0, .inr (8, [v0_thrown, v0_n, v0_equations, v0_eSet, v0_eRight, v0_clauses, v0_cYes, v0_cNo, v0_levels, v0_levelEquations, v0_levelClauses, v0_tape, v0_tapeSize, v0_faultIs, v0_faultAt, v0_at, v0_newEquations, v0_newClauses, v0_newSet, v0_newRight, v0_newYes, v0_newNo, v0_lineYes, v0_lineNo, v0_rowCount, v0_rSet, v0_rRight, v0_isImpossible, v0_sumSet, v0_sumOf, v0_sumRight, v0_empty, v0_empties, .long f0_taken, .long f0_ones, v0_waitTaken, v0_waitOnes, v0_nodeCount, v0_lastModel, v0_modelCount, v0_modelIs, v0_gSet, v0_gateCount]))] sz) (QiW D [(q0, .inr (8, [v0_thrown, v0_n, v0_equations, v0_eSet, v0_eRight, v0_clauses, v0_cYes, v0_cNo, v0_levels, v0_levelEquations, v0_levelClauses, v0_tape, v0_tapeSize, v0_faultIs, v0_faultAt, v0_at, v0_newEquations, v0_newClauses, v0_newSet, v0_newRight, v0_newYes, v0_newNo, v0_lineYes, v0_lineNo, v0_rowCount, v0_rSet, v0_rRight, v0_isImpossible, v0_sumSet, v0_sumOf, v0_sumRight, v0_empty, v0_empties, .long f0_taken, .long f0_ones, v0_waitTaken, v0_waitOnes, v0_nodeCount, v0_lastModel, v0_modelCount, v0_modelIs, v0_gSet, v0_gateCount]))] (bI r0.1) (fun _ : Unit => [(q0, .inr (8, [v0_thrown, v0_n, v0_equations, v0_eSet, v0_eRight, v0_clauses, v0_cYes, v0_cNo, v0_levels, v0_levelEquations, v0_levelClauses, v0_tape, v0_tapeSize, v0_faultIs, v0_faultAt, v0_at, v0_newEquations, v0_newClauses, v0_newSet, v0_newRight, v0_newYes, v0_newNo, v0_lineYes, v0_lineNo, v0_rowCount, v0_rSet, v0_rRight, v0_isImpossible, v0_sumSet, v0_sumOf, v0_sumRight, v0_empty, v0_empties, .long r0.2.1, .long r0.2.2, v0_waitTaken, v0_waitOnes, v0_nodeCount, v0_lastModel, v0_modelCount, v0_modelIs, v0_gSet, v0_gateCount]))]) tU sz) 0 0 (va_A [(q0, .inr (8, [v0_thrown, v0_n, v0_equations, v0_eSet, v0_eRight, v0_clauses, v0_cYes, v0_cNo, v0_levels, v0_levelEquations, v0_levelClauses, v0_tape, v0_tapeSize, v0_faultIs, v0_faultAt, v0_at, v0_newEquations, v0_newClauses, v0_newSet, v0_newRight, v0_newYes, v0_newNo, v0_lineYes, v0_lineNo, v0_rowCount, v0_rSet, v0_rRight, v0_isImpossible, v0_sumSet, v0_sumOf, v0_sumRight, v0_empty, v0_empties, .long f0_taken, .long f0_ones, v0_waitTaken, v0_waitOnes, v0_nodeCount, v0_lastModel, v0_modelCount, v0_modelIs, v0_gSet, v0_gateCount]))] sz) := by
  refine Met.ofW (cc := cX8_take) (maxL := 4) (ret := (some .boolean)) (by decide) rfl ?_
  intro p e s m args below meth c s₁ B hml hv
  obtain ⟨hargs, hsz, hP, hEV, hD0⟩ := hv
  have hx := B.exec
  have hb := B.bytes
  have hr := B.returns
  have hts := atoms_spec (ws := wsX8_take) B.pre
  have hown : s.vm.findClass RX8 = some m.cls := findClass_of_methodNamed B.named
  have hlocks := B.notSynchronized
  have hK := hEV.K
  have lk_0 := hts _ lk_0_X8_take
  have lk_1 := hts _ lk_1_X8_take
  subst hsz
  unfold QiW PoW
  have hD := hD0.self (sz := s.heap.size)
  generalize hAe : va_A [(q0, .inr (8, [v0_thrown, v0_n, v0_equations, v0_eSet, v0_eRight, v0_clauses, v0_cYes, v0_cNo, v0_levels, v0_levelEquations, v0_levelClauses, v0_tape, v0_tapeSize, v0_faultIs, v0_faultAt, v0_at, v0_newEquations, v0_newClauses, v0_newSet, v0_newRight, v0_newYes, v0_newNo, v0_lineYes, v0_lineNo, v0_rowCount, v0_rSet, v0_rRight, v0_isImpossible, v0_sumSet, v0_sumOf, v0_sumRight, v0_empty, v0_empties, .long f0_taken, .long f0_ones, v0_waitTaken, v0_waitOnes, v0_nodeCount, v0_lastModel, v0_modelCount, v0_modelIs, v0_gSet, v0_gateCount]))] s.heap.size = A at hD ⊢
  have hA : ∀ q : Nat, s.heap.size ≤ q → A q := fun q h => by rw [← hAe]; exact Or.inr h
  have hS : va_S A s.heap s.heap [] := va_S.rf
  have hent : entryFrame m args 4 = entryFrame m ([.ref q0, .long x1, .int (bI x3)] : List Value).toArray 4 := by rw [hargs]
  rw [hent]
  refine kx_Q (fun Q hQ => ?_)
  have hl := lv_entry ([.ref q0, .long x1, .int (bI x3)]) (n := 4) (Nat.le_of_ble_eq_true rfl)
  rw [lg_entry_eq]
  generalize (lg_sl ([.ref q0, .long x1, .int (bI x3)]) ++ List.replicate (4 - (lg_sl ([.ref q0, .long x1, .int (bI x3)])).length) Slot.unset).toArray = ls at hl ⊢
  have hl : lv_has ls 4 [(0, .ref q0), (1, .long x1), (3, .int (bI x3))] := hl
  have h := h0
  unfold D_X8_take at h
  refine lv_aload_n hx hb dX8_take_0 rfl (lv_at hl 0 rfl) ?_
  refine lv_dup hx hb dX8_take_1 rfl ?_
  refine va_get (D := D) (ci := 8) (v := .long f0_taken) (C := RX8) (T := TX8) (N := 43) hx hb hts in_X8_take_X8 hown hK hP 0 rfl rfl 33 (by decide) lk_0 (fun _ h9 => h9) rfl dX8_take_2 ?_
  refine lv_lload_n hx hb dX8_take_5 rfl (lv_at hl 1 rfl) ?_
  refine lv_lor hx hb dX8_take_6 ?_
  refine va_put (D := D) (ci := 8) (v := .long (f0_taken ||| x1)) (ty := .long) (C := RX8) (T := TX8) (N := 43) hx hb hts in_X8_take_X8 tyX8 tyX8_ok nmX8 hown hK hP hD hS 0 rfl rfl 33 (by decide) lk_0 (fun _ h9 => h9) rfl (by decide +kernel) rfl rfl (Nat.le_of_ble_eq_true rfl) dX8_take_7 (fun H locs hP hD hS => ?_)
  have hP : va_P D vwCl [(q0, .inr (8, [v0_thrown, v0_n, v0_equations, v0_eSet, v0_eRight, v0_clauses, v0_cYes, v0_cNo, v0_levels, v0_levelEquations, v0_levelClauses, v0_tape, v0_tapeSize, v0_faultIs, v0_faultAt, v0_at, v0_newEquations, v0_newClauses, v0_newSet, v0_newRight, v0_newYes, v0_newNo, v0_lineYes, v0_lineNo, v0_rowCount, v0_rSet, v0_rRight, v0_isImpossible, v0_sumSet, v0_sumOf, v0_sumRight, v0_empty, v0_empties, .long (f0_taken ||| x1), .long f0_ones, v0_waitTaken, v0_waitOnes, v0_nodeCount, v0_lastModel, v0_modelCount, v0_modelIs, v0_gSet, v0_gateCount]))] H := hP
  have hD : va_D A [(q0, .inr (8, [v0_thrown, v0_n, v0_equations, v0_eSet, v0_eRight, v0_clauses, v0_cYes, v0_cNo, v0_levels, v0_levelEquations, v0_levelClauses, v0_tape, v0_tapeSize, v0_faultIs, v0_faultAt, v0_at, v0_newEquations, v0_newClauses, v0_newSet, v0_newRight, v0_newYes, v0_newNo, v0_lineYes, v0_lineNo, v0_rowCount, v0_rSet, v0_rRight, v0_isImpossible, v0_sumSet, v0_sumOf, v0_sumRight, v0_empty, v0_empties, .long (f0_taken ||| x1), .long f0_ones, v0_waitTaken, v0_waitOnes, v0_nodeCount, v0_lastModel, v0_modelCount, v0_modelIs, v0_gSet, v0_gateCount]))] := hD
  refine lv_aload_n hx hb dX8_take_10 rfl (lv_at hl 0 rfl) ?_
  refine lv_dup hx hb dX8_take_11 rfl ?_
  refine va_get (D := D) (ci := 8) (v := .long f0_ones) (C := RX8) (T := TX8) (N := 43) hx hb hts in_X8_take_X8 hown hK hP 0 rfl rfl 34 (by decide) lk_1 (fun _ h9 => h9) rfl dX8_take_12 ?_
  refine lv_iload_n hx hb dX8_take_15 rfl (lv_at hl 2 rfl) ?_
  refine lv_if_eq (tgt := 23) hx hb dX8_take_16 (by decide) (fun c_1 => ?_) (fun c_1 => ?_)
  · have k_2 : ¬ (x3 = true) := (kx_z c_1)
    have h := co_f k_2 h
    refine lv_lconst (v := (0 : Int64)) hx hb dX8_take_23 (by decide) ?_
    refine lv_lor hx hb dX8_take_24 ?_
    refine va_put (D := D) (ci := 8) (v := .long (f0_ones ||| (0 : Int64))) (ty := .long) (C := RX8) (T := TX8) (N := 43) hx hb hts in_X8_take_X8 tyX8 tyX8_ok nmX8 hown hK hP hD hS 0 rfl rfl 34 (by decide) lk_1 (fun _ h9 => h9) rfl (by decide +kernel) rfl rfl (Nat.le_of_ble_eq_true rfl) dX8_take_25 (fun H locs hP hD hS => ?_)
    have hP : va_P D vwCl [(q0, .inr (8, [v0_thrown, v0_n, v0_equations, v0_eSet, v0_eRight, v0_clauses, v0_cYes, v0_cNo, v0_levels, v0_levelEquations, v0_levelClauses, v0_tape, v0_tapeSize, v0_faultIs, v0_faultAt, v0_at, v0_newEquations, v0_newClauses, v0_newSet, v0_newRight, v0_newYes, v0_newNo, v0_lineYes, v0_lineNo, v0_rowCount, v0_rSet, v0_rRight, v0_isImpossible, v0_sumSet, v0_sumOf, v0_sumRight, v0_empty, v0_empties, .long (f0_taken ||| x1), .long (f0_ones ||| (0 : Int64)), v0_waitTaken, v0_waitOnes, v0_nodeCount, v0_lastModel, v0_modelCount, v0_modelIs, v0_gSet, v0_gateCount]))] H := hP
    have hD : va_D A [(q0, .inr (8, [v0_thrown, v0_n, v0_equations, v0_eSet, v0_eRight, v0_clauses, v0_cYes, v0_cNo, v0_levels, v0_levelEquations, v0_levelClauses, v0_tape, v0_tapeSize, v0_faultIs, v0_faultAt, v0_at, v0_newEquations, v0_newClauses, v0_newSet, v0_newRight, v0_newYes, v0_newNo, v0_lineYes, v0_lineNo, v0_rowCount, v0_rSet, v0_rRight, v0_isImpossible, v0_sumSet, v0_sumOf, v0_sumRight, v0_empty, v0_empties, .long (f0_taken ||| x1), .long (f0_ones ||| (0 : Int64)), v0_waitTaken, v0_waitOnes, v0_nodeCount, v0_lastModel, v0_modelCount, v0_modelIs, v0_gSet, v0_gateCount]))] := hD
    refine lv_iconst (v := (1 : Int32)) hx hb dX8_take_28 (by decide) ?_
    have h := Option.some.inj h
    subst h
    subst hQ
    exact W.zret (v := bI true) hx hb hr (bI_n true) (fun t ht hW => ⟨⟨bI true, (), rfl, ⟨rfl, trivial⟩, by rw [ht]; exact hP, hD⟩, hS.F ht⟩) hS.2.2 dX8_take_29
  · have k_2 : x3 = true := (kx_nz c_1)
    have h := co_t k_2 h
    refine lv_lload_n hx hb dX8_take_19 rfl (lv_at hl 1 rfl) ?_
    refine lv_goto (tgt := 24) hx hb dX8_take_20 (by decide) ?_
    refine lv_lor hx hb dX8_take_24 ?_
    refine va_put (D := D) (ci := 8) (v := .long (f0_ones ||| x1)) (ty := .long) (C := RX8) (T := TX8) (N := 43) hx hb hts in_X8_take_X8 tyX8 tyX8_ok nmX8 hown hK hP hD hS 0 rfl rfl 34 (by decide) lk_1 (fun _ h9 => h9) rfl (by decide +kernel) rfl rfl (Nat.le_of_ble_eq_true rfl) dX8_take_25 (fun H locs hP hD hS => ?_)
    have hP : va_P D vwCl [(q0, .inr (8, [v0_thrown, v0_n, v0_equations, v0_eSet, v0_eRight, v0_clauses, v0_cYes, v0_cNo, v0_levels, v0_levelEquations, v0_levelClauses, v0_tape, v0_tapeSize, v0_faultIs, v0_faultAt, v0_at, v0_newEquations, v0_newClauses, v0_newSet, v0_newRight, v0_newYes, v0_newNo, v0_lineYes, v0_lineNo, v0_rowCount, v0_rSet, v0_rRight, v0_isImpossible, v0_sumSet, v0_sumOf, v0_sumRight, v0_empty, v0_empties, .long (f0_taken ||| x1), .long (f0_ones ||| x1), v0_waitTaken, v0_waitOnes, v0_nodeCount, v0_lastModel, v0_modelCount, v0_modelIs, v0_gSet, v0_gateCount]))] H := hP
    have hD : va_D A [(q0, .inr (8, [v0_thrown, v0_n, v0_equations, v0_eSet, v0_eRight, v0_clauses, v0_cYes, v0_cNo, v0_levels, v0_levelEquations, v0_levelClauses, v0_tape, v0_tapeSize, v0_faultIs, v0_faultAt, v0_at, v0_newEquations, v0_newClauses, v0_newSet, v0_newRight, v0_newYes, v0_newNo, v0_lineYes, v0_lineNo, v0_rowCount, v0_rSet, v0_rRight, v0_isImpossible, v0_sumSet, v0_sumOf, v0_sumRight, v0_empty, v0_empties, .long (f0_taken ||| x1), .long (f0_ones ||| x1), v0_waitTaken, v0_waitOnes, v0_nodeCount, v0_lastModel, v0_modelCount, v0_modelIs, v0_gSet, v0_gateCount]))] := hD
    refine lv_iconst (v := (1 : Int32)) hx hb dX8_take_28 (by decide) ?_
    have h := Option.some.inj h
    subst h
    subst hQ
    exact W.zret (v := bI true) hx hb hr (bI_n true) (fun t ht hW => ⟨⟨bI true, (), rfl, ⟨rfl, trivial⟩, by rw [ht]; exact hP, hD⟩, hS.F ht⟩) hS.2.2 dX8_take_29
abbrev S_X8_clausesFollow : Type := (Int32 × Int64 × Int64)
noncomputable def b_X8_clausesFollow_2 (f0_clauses : Int32) (n0_cYes : Nat) (h0_cYes : Nat → Int64) (n0_cNo : Nat) (h0_cNo : Nat → Int64) (x1 : Int32) (f0_taken : Int64) (f0_ones : Int64) : Option (Bool × Int64 × Int64) ⊕ S_X8_clausesFollow :=
  cif (f0_clauses ≤ x1)
    (.inl (some (true, f0_taken, f0_ones)))
    (cif (vp_in x1 n0_cYes)
      (cif (((h0_cYes x1.toNatClampNeg) &&& f0_ones) = (0 : Int64))
        (cif (vp_in x1 n0_cNo)
          (cif ((((h0_cNo x1.toNatClampNeg) &&& f0_taken) &&& (f0_ones ^^^ (-1 : Int64))) = (0 : Int64))
            (cif (vp_in x1 n0_cYes)
              (cif (vp_in x1 n0_cNo)
                (cif ((((h0_cYes x1.toNatClampNeg) ||| (h0_cNo x1.toNatClampNeg)) &&& (f0_taken ^^^ (-1 : Int64))) = (0 : Int64))
                  (.inl (some (false, f0_taken, f0_ones)))
                  (sbd (D_X8_lowest (((h0_cYes x1.toNatClampNeg) ||| (h0_cNo x1.toNatClampNeg)) &&& (f0_taken ^^^ (-1 : Int64)))) (fun u_19 =>
                    cif (u_19 = (((h0_cYes x1.toNatClampNeg) ||| (h0_cNo x1.toNatClampNeg)) &&& (f0_taken ^^^ (-1 : Int64))))
                      (cif (vp_in x1 n0_cYes)
                        (cif (((h0_cYes x1.toNatClampNeg) &&& (((h0_cYes x1.toNatClampNeg) ||| (h0_cNo x1.toNatClampNeg)) &&& (f0_taken ^^^ (-1 : Int64)))) = (0 : Int64))
                          (sbd (D_X8_take f0_taken f0_ones (((h0_cYes x1.toNatClampNeg) ||| (h0_cNo x1.toNatClampNeg)) &&& (f0_taken ^^^ (-1 : Int64))) false) (fun u_26 =>
                            .inr (x1 + (1 : Int32), u_26.2.1, u_26.2.2)))
                          (sbd (D_X8_take f0_taken f0_ones (((h0_cYes x1.toNatClampNeg) ||| (h0_cNo x1.toNatClampNeg)) &&& (f0_taken ^^^ (-1 : Int64))) true) (fun u_28 =>
                            .inr (x1 + (1 : Int32), u_28.2.1, u_28.2.2))))
                        (.inl none))
                      (.inr (x1 + (1 : Int32), f0_taken, f0_ones)))))
                (.inl none))
              (.inl none))
            (cif (vp_in x1 n0_cYes)
              (cif (vp_in x1 n0_cNo)
                (.inr (x1 + (1 : Int32), f0_taken, f0_ones))
                (.inl none))
              (.inl none)))
          (.inl none))
        (cif (vp_in x1 n0_cYes)
          (cif (vp_in x1 n0_cNo)
            (.inr (x1 + (1 : Int32), f0_taken, f0_ones))
            (.inl none))
          (.inl none)))
      (.inl none))
noncomputable def st_X8_clausesFollow (f0_clauses : Int32) (n0_cYes : Nat) (h0_cYes : Nat → Int64) (n0_cNo : Nat) (h0_cNo : Nat → Int64) : S_X8_clausesFollow → Option (Bool × Int64 × Int64) ⊕ S_X8_clausesFollow := fun x => match x with
  | (x1, f0_taken, f0_ones) => b_X8_clausesFollow_2 f0_clauses n0_cYes h0_cYes n0_cNo h0_cNo x1 f0_taken f0_ones
noncomputable def L_X8_clausesFollow_2 (f0_clauses : Int32) (n0_cYes : Nat) (h0_cYes : Nat → Int64) (n0_cNo : Nat) (h0_cNo : Nat → Int64) (x1 : Int32) (f0_taken : Int64) (f0_ones : Int64) : Option (Bool × Int64 × Int64) := runw (st_X8_clausesFollow f0_clauses n0_cYes h0_cYes n0_cNo h0_cNo) (x1, f0_taken, f0_ones)
theorem E_X8_clausesFollow_2 (f0_clauses : Int32) (n0_cYes : Nat) (h0_cYes : Nat → Int64) (n0_cNo : Nat) (h0_cNo : Nat → Int64) (x1 : Int32) (f0_taken : Int64) (f0_ones : Int64) : L_X8_clausesFollow_2 f0_clauses n0_cYes h0_cYes n0_cNo h0_cNo x1 f0_taken f0_ones =
    cif (f0_clauses ≤ x1)
      (some (true, f0_taken, f0_ones))
      (cif (vp_in x1 n0_cYes)
        (cif (((h0_cYes x1.toNatClampNeg) &&& f0_ones) = (0 : Int64))
          (cif (vp_in x1 n0_cNo)
            (cif ((((h0_cNo x1.toNatClampNeg) &&& f0_taken) &&& (f0_ones ^^^ (-1 : Int64))) = (0 : Int64))
              (cif (vp_in x1 n0_cYes)
                (cif (vp_in x1 n0_cNo)
                  (cif ((((h0_cYes x1.toNatClampNeg) ||| (h0_cNo x1.toNatClampNeg)) &&& (f0_taken ^^^ (-1 : Int64))) = (0 : Int64))
                    (some (false, f0_taken, f0_ones))
                    (Option.bind (D_X8_lowest (((h0_cYes x1.toNatClampNeg) ||| (h0_cNo x1.toNatClampNeg)) &&& (f0_taken ^^^ (-1 : Int64)))) (fun u_19 =>
                      cif (u_19 = (((h0_cYes x1.toNatClampNeg) ||| (h0_cNo x1.toNatClampNeg)) &&& (f0_taken ^^^ (-1 : Int64))))
                        (cif (vp_in x1 n0_cYes)
                          (cif (((h0_cYes x1.toNatClampNeg) &&& (((h0_cYes x1.toNatClampNeg) ||| (h0_cNo x1.toNatClampNeg)) &&& (f0_taken ^^^ (-1 : Int64)))) = (0 : Int64))
                            (Option.bind (D_X8_take f0_taken f0_ones (((h0_cYes x1.toNatClampNeg) ||| (h0_cNo x1.toNatClampNeg)) &&& (f0_taken ^^^ (-1 : Int64))) false) (fun u_26 =>
                              L_X8_clausesFollow_2 f0_clauses n0_cYes h0_cYes n0_cNo h0_cNo (x1 + (1 : Int32)) u_26.2.1 u_26.2.2))
                            (Option.bind (D_X8_take f0_taken f0_ones (((h0_cYes x1.toNatClampNeg) ||| (h0_cNo x1.toNatClampNeg)) &&& (f0_taken ^^^ (-1 : Int64))) true) (fun u_28 =>
                              L_X8_clausesFollow_2 f0_clauses n0_cYes h0_cYes n0_cNo h0_cNo (x1 + (1 : Int32)) u_28.2.1 u_28.2.2)))
                          (none))
                        (L_X8_clausesFollow_2 f0_clauses n0_cYes h0_cYes n0_cNo h0_cNo (x1 + (1 : Int32)) f0_taken f0_ones))))
                  (none))
                (none))
              (cif (vp_in x1 n0_cYes)
                (cif (vp_in x1 n0_cNo)
                  (L_X8_clausesFollow_2 f0_clauses n0_cYes h0_cYes n0_cNo h0_cNo (x1 + (1 : Int32)) f0_taken f0_ones)
                  (none))
                (none)))
            (none))
          (cif (vp_in x1 n0_cYes)
            (cif (vp_in x1 n0_cNo)
              (L_X8_clausesFollow_2 f0_clauses n0_cYes h0_cYes n0_cNo h0_cNo (x1 + (1 : Int32)) f0_taken f0_ones)
              (none))
            (none)))
        (none)) := by
  show runw (st_X8_clausesFollow f0_clauses n0_cYes h0_cYes n0_cNo h0_cNo) (x1, f0_taken, f0_ones) = _
  rw [runw_eq]
  show run1 _ (b_X8_clausesFollow_2 f0_clauses n0_cYes h0_cYes n0_cNo h0_cNo x1 f0_taken f0_ones) = _
  simp only [b_X8_clausesFollow_2, run1_cif, run1_sbd, run1_inl, run1_inr]
  try rfl
noncomputable def D_X8_clausesFollow (f0_clauses : Int32) (f0_taken : Int64) (f0_ones : Int64) (n0_cYes : Nat) (h0_cYes : Nat → Int64) (n0_cNo : Nat) (h0_cNo : Nat → Int64) : Option (Bool × Int64 × Int64) :=
  L_X8_clausesFollow_2 f0_clauses n0_cYes h0_cYes n0_cNo h0_cNo (0 : Int32) f0_taken f0_ones
theorem in_X8_clausesFollow_X8 : ∀ w ∈ wsX80, w ∈ wsX8_clausesFollow := by decide +kernel
theorem lk_0_X8_clausesFollow : Cond.fieldLink RX8 105 "ParityClausesModel" "clauses" "I" ∈ wsX8_clausesFollow := by decide +kernel
theorem lk_1_X8_clausesFollow : Cond.fieldLink RX8 17 "ParityClausesModel" "cYes" "[J" ∈ wsX8_clausesFollow := by decide +kernel
theorem lk_2_X8_clausesFollow : Cond.fieldLink RX8 212 "ParityClausesModel" "ones" "J" ∈ wsX8_clausesFollow := by decide +kernel
theorem lk_3_X8_clausesFollow : Cond.fieldLink RX8 20 "ParityClausesModel" "cNo" "[J" ∈ wsX8_clausesFollow := by decide +kernel
theorem lk_4_X8_clausesFollow : Cond.fieldLink RX8 209 "ParityClausesModel" "taken" "J" ∈ wsX8_clausesFollow := by decide +kernel
theorem lk_5_X8_clausesFollow : Cond.constantLong RX8 68 (-1) ∈ wsX8_clausesFollow := by decide +kernel
abbrev rm_X8_clausesFollow : Room := { frames := 1, cells := 0, slots := 0, locals := 23 }
set_option maxHeartbeats 4000000 in
set_option maxRecDepth 100000 in
theorem cm_X8_clausesFollow (l : Launch) (D : va_G) (cI cL : ClassId) (q0 q0_cYes q0_cNo : Nat) (n0_cYes n0_cNo : Nat) (f0_clauses : Int32) (f0_taken : Int64) (f0_ones : Int64) (h0_cYes : Nat → Int64) (h0_cNo : Nat → Int64) (v0_thrown v0_n v0_equations v0_eSet v0_eRight v0_levels v0_levelEquations v0_levelClauses v0_tape v0_tapeSize v0_faultIs v0_faultAt v0_at v0_newEquations v0_newClauses v0_newSet v0_newRight v0_newYes v0_newNo v0_lineYes v0_lineNo v0_rowCount v0_rSet v0_rRight v0_isImpossible v0_sumSet v0_sumOf v0_sumRight v0_empty v0_empties v0_waitTaken v0_waitOnes v0_nodeCount v0_lastModel v0_modelCount v0_modelIs v0_gSet v0_gateCount : Value) (r0 : Bool × Int64 × Int64) (h0 : D_X8_clausesFollow f0_clauses f0_taken f0_ones n0_cYes h0_cYes n0_cNo h0_cNo = some r0) (sz : Nat) : Met l yX8_clausesFollow wsX8_clausesFollow rm_X8_clausesFollow (PcW D cI cL [.ref q0] [(q0, .inr (8, [v0_thrown, v0_n, v0_equations, v0_eSet, v0_eRight, .int f0_clauses, .ref q0_cYes, .ref q0_cNo, v0_levels, v0_levelEquations, v0_levelClauses, v0_tape, v0_tapeSize, v0_faultIs, v0_faultAt, v0_at, v0_newEquations, v0_newClauses, v0_newSet, v0_newRight, v0_newYes, v0_newNo, v0_lineYes, v0_lineNo, v0_rowCount, v0_rSet, v0_rRight, v0_isImpossible, v0_sumSet, v0_sumOf, v0_sumRight, v0_empty, v0_empties, .long f0_taken, .long f0_ones, v0_waitTaken, v0_waitOnes, v0_nodeCount, v0_lastModel, v0_modelCount, v0_modelIs, v0_gSet, v0_gateCount])), (q0_cYes, .inl (cL, n0_cYes, .inr (.inl h0_cYes))), (q0_cNo, .inl (cL, n0_cNo, .inr (.inl h0_cNo)))] sz) (QiW D [(q0, .inr (8, [v0_thrown, v0_n, v0_equations, v0_eSet, v0_eRight, .int f0_clauses, .ref q0_cYes, .ref q0_cNo, v0_levels, v0_levelEquations, v0_levelClauses, v0_tape, v0_tapeSize, v0_faultIs, v0_faultAt, v0_at, v0_newEquations, v0_newClauses, v0_newSet, v0_newRight, v0_newYes, v0_newNo, v0_lineYes, v0_lineNo, v0_rowCount, v0_rSet, v0_rRight, v0_isImpossible, v0_sumSet, v0_sumOf, v0_sumRight, v0_empty, v0_empties, .long f0_taken, .long f0_ones, v0_waitTaken, v0_waitOnes, v0_nodeCount, v0_lastModel, v0_modelCount, v0_modelIs, v0_gSet, v0_gateCount])), (q0_cYes, .inl (cL, n0_cYes, .inr (.inl h0_cYes))), (q0_cNo, .inl (cL, n0_cNo, .inr (.inl h0_cNo)))] (bI r0.1) (fun _ : Unit => [(q0, .inr (8, [v0_thrown, v0_n, v0_equations, v0_eSet, v0_eRight, .int f0_clauses, .ref q0_cYes, .ref q0_cNo, v0_levels, v0_levelEquations, v0_levelClauses, v0_tape, v0_tapeSize, v0_faultIs, v0_faultAt, v0_at, v0_newEquations, v0_newClauses, v0_newSet, v0_newRight, v0_newYes, v0_newNo, v0_lineYes, v0_lineNo, v0_rowCount, v0_rSet, v0_rRight, v0_isImpossible, v0_sumSet, v0_sumOf, v0_sumRight, v0_empty, v0_empties, .long r0.2.1, .long r0.2.2, v0_waitTaken, v0_waitOnes, v0_nodeCount, v0_lastModel, v0_modelCount, v0_modelIs, v0_gSet, v0_gateCount])), (q0_cYes, .inl (cL, n0_cYes, .inr (.inl h0_cYes))), (q0_cNo, .inl (cL, n0_cNo, .inr (.inl h0_cNo)))]) tU sz) 0 0 (va_A [(q0, .inr (8, [v0_thrown, v0_n, v0_equations, v0_eSet, v0_eRight, .int f0_clauses, .ref q0_cYes, .ref q0_cNo, v0_levels, v0_levelEquations, v0_levelClauses, v0_tape, v0_tapeSize, v0_faultIs, v0_faultAt, v0_at, v0_newEquations, v0_newClauses, v0_newSet, v0_newRight, v0_newYes, v0_newNo, v0_lineYes, v0_lineNo, v0_rowCount, v0_rSet, v0_rRight, v0_isImpossible, v0_sumSet, v0_sumOf, v0_sumRight, v0_empty, v0_empties, .long f0_taken, .long f0_ones, v0_waitTaken, v0_waitOnes, v0_nodeCount, v0_lastModel, v0_modelCount, v0_modelIs, v0_gSet, v0_gateCount])), (q0_cYes, .inl (cL, n0_cYes, .inr (.inl h0_cYes))), (q0_cNo, .inl (cL, n0_cNo, .inr (.inl h0_cNo)))] sz) := by
  refine Met.ofW (cc := cX8_clausesFollow) (maxL := 5) (ret := (some .boolean)) (by decide) rfl ?_
  intro p e s m args below meth c s₁ B hml hv
  obtain ⟨hargs, hsz, hP, hEV, hD0⟩ := hv
  have hx := B.exec
  have hb := B.bytes
  have hr := B.returns
  have hts := atoms_spec (ws := wsX8_clausesFollow) B.pre
  have hown : s.vm.findClass RX8 = some m.cls := findClass_of_methodNamed B.named
  have hlocks := B.notSynchronized
  have hK := hEV.K
  have lk_0 := hts _ lk_0_X8_clausesFollow
  have lk_1 := hts _ lk_1_X8_clausesFollow
  have lk_2 := hts _ lk_2_X8_clausesFollow
  have lk_3 := hts _ lk_3_X8_clausesFollow
  have lk_4 := hts _ lk_4_X8_clausesFollow
  have lk_5 := hts _ lk_5_X8_clausesFollow
  subst hsz
  unfold QiW PoW
  have hD := hD0.self (sz := s.heap.size)
  generalize hAe : va_A [(q0, .inr (8, [v0_thrown, v0_n, v0_equations, v0_eSet, v0_eRight, .int f0_clauses, .ref q0_cYes, .ref q0_cNo, v0_levels, v0_levelEquations, v0_levelClauses, v0_tape, v0_tapeSize, v0_faultIs, v0_faultAt, v0_at, v0_newEquations, v0_newClauses, v0_newSet, v0_newRight, v0_newYes, v0_newNo, v0_lineYes, v0_lineNo, v0_rowCount, v0_rSet, v0_rRight, v0_isImpossible, v0_sumSet, v0_sumOf, v0_sumRight, v0_empty, v0_empties, .long f0_taken, .long f0_ones, v0_waitTaken, v0_waitOnes, v0_nodeCount, v0_lastModel, v0_modelCount, v0_modelIs, v0_gSet, v0_gateCount])), (q0_cYes, .inl (cL, n0_cYes, .inr (.inl h0_cYes))), (q0_cNo, .inl (cL, n0_cNo, .inr (.inl h0_cNo)))] s.heap.size = A at hD ⊢
  have hA : ∀ q : Nat, s.heap.size ≤ q → A q := fun q h => by rw [← hAe]; exact Or.inr h
  have hS : va_S A s.heap s.heap [] := va_S.rf
  have hent : entryFrame m args 5 = entryFrame m ([.ref q0] : List Value).toArray 5 := by rw [hargs]
  rw [hent]
  refine kx_Q (fun Q hQ => ?_)
  have hl := lv_entry ([.ref q0]) (n := 5) (Nat.le_of_ble_eq_true rfl)
  rw [lg_entry_eq]
  generalize (lg_sl ([.ref q0]) ++ List.replicate (5 - (lg_sl ([.ref q0])).length) Slot.unset).toArray = ls at hl ⊢
  have hl : lv_has ls 5 [(0, .ref q0)] := hl
  have hloop : ∀ n9 : Nat, (∀ (x1 : Int32) (f0_taken : Int64) (f0_ones : Int64), iter (st_X8_clausesFollow f0_clauses n0_cYes h0_cYes n0_cNo h0_cNo) n9 (x1, f0_taken, f0_ones) = some r0 → ∀ (H : Heap) (locs : List Loc) (ls : Array Slot), va_P D vwCl [(q0, .inr (8, [v0_thrown, v0_n, v0_equations, v0_eSet, v0_eRight, .int f0_clauses, .ref q0_cYes, .ref q0_cNo, v0_levels, v0_levelEquations, v0_levelClauses, v0_tape, v0_tapeSize, v0_faultIs, v0_faultAt, v0_at, v0_newEquations, v0_newClauses, v0_newSet, v0_newRight, v0_newYes, v0_newNo, v0_lineYes, v0_lineNo, v0_rowCount, v0_rSet, v0_rRight, v0_isImpossible, v0_sumSet, v0_sumOf, v0_sumRight, v0_empty, v0_empties, .long f0_taken, .long f0_ones, v0_waitTaken, v0_waitOnes, v0_nodeCount, v0_lastModel, v0_modelCount, v0_modelIs, v0_gSet, v0_gateCount])), (q0_cYes, .inl (cL, n0_cYes, .inr (.inl h0_cYes))), (q0_cNo, .inl (cL, n0_cNo, .inr (.inl h0_cNo)))] H → va_D A [(q0, .inr (8, [v0_thrown, v0_n, v0_equations, v0_eSet, v0_eRight, .int f0_clauses, .ref q0_cYes, .ref q0_cNo, v0_levels, v0_levelEquations, v0_levelClauses, v0_tape, v0_tapeSize, v0_faultIs, v0_faultAt, v0_at, v0_newEquations, v0_newClauses, v0_newSet, v0_newRight, v0_newYes, v0_newNo, v0_lineYes, v0_lineNo, v0_rowCount, v0_rSet, v0_rRight, v0_isImpossible, v0_sumSet, v0_sumOf, v0_sumRight, v0_empty, v0_empties, .long f0_taken, .long f0_ones, v0_waitTaken, v0_waitOnes, v0_nodeCount, v0_lastModel, v0_modelCount, v0_modelIs, v0_gSet, v0_gateCount])), (q0_cYes, .inl (cL, n0_cYes, .inr (.inl h0_cYes))), (q0_cNo, .inl (cL, n0_cNo, .inr (.inl h0_cNo)))] → va_S A s.heap H locs → lv_has ls 5 [(0, .ref q0), (1, .int x1)] → W p l e (headSpec wsX8_clausesFollow rm_X8_clausesFollow).room s m args below meth c H locs 0 0 Q (F0 m 2 ls [])) := by
    intro n9
    induction n9 with
    | zero => exact fun _ _ _ h => nomatch h
    | succ n9 ih =>
      intro x1 f0_taken f0_ones h H locs ls hP hD hS hl
      have h : run1 (iter (st_X8_clausesFollow f0_clauses n0_cYes h0_cYes n0_cNo h0_cNo) n9) (b_X8_clausesFollow_2 f0_clauses n0_cYes h0_cYes n0_cNo h0_cNo x1 f0_taken f0_ones) = some r0 := h
      unfold b_X8_clausesFollow_2 at h
      refine lv_iload_n hx hb dX8_clausesFollow_2 rfl (lv_at hl 1 rfl) ?_
      refine lv_aload_n hx hb dX8_clausesFollow_3 rfl (lv_at hl 0 rfl) ?_
      refine va_get (D := D) (ci := 8) (v := .int f0_clauses) (C := RX8) (T := TX8) (N := 43) hx hb hts in_X8_clausesFollow_X8 hown hK hP 0 rfl rfl 5 (by decide) lk_0 (fun _ h9 => h9) rfl dX8_clausesFollow_4 ?_
      refine lv_icmp_ge (tgt := 135) hx hb dX8_clausesFollow_7 (by decide) (fun c_1 => ?_) (fun c_1 => ?_)
      · have k_2 : f0_clauses ≤ x1 := c_1
        have h := cw_t k_2 h
        refine lv_iconst (v := (1 : Int32)) hx hb dX8_clausesFollow_135 (by decide) ?_
        have h := Option.some.inj h
        subst h
        subst hQ
        exact W.zret (v := bI true) hx hb hr (bI_n true) (fun t ht hW => ⟨⟨bI true, (), rfl, ⟨rfl, trivial⟩, by rw [ht]; exact hP, hD⟩, hS.F ht⟩) hS.2.2 dX8_clausesFollow_136
      · have k_2 : ¬ (f0_clauses ≤ x1) := c_1
        have h := cw_f k_2 h
        refine lv_aload_n hx hb dX8_clausesFollow_10 rfl (lv_at hl 0 rfl) ?_
        refine va_get (D := D) (ci := 8) (v := .ref q0_cYes) (C := RX8) (T := TX8) (N := 43) hx hb hts in_X8_clausesFollow_X8 hown hK hP 0 rfl rfl 6 (by decide) lk_1 (fun _ h9 => h9) rfl dX8_clausesFollow_11 ?_
        refine lv_iload_n hx hb dX8_clausesFollow_14 rfl (lv_at hl 1 rfl) ?_
        obtain ⟨b_3, h⟩ := cw_i h
        refine va_lald hx hb hK hP 1 1 rfl rfl b_3 dX8_clausesFollow_15 ?_
        refine lv_aload_n hx hb dX8_clausesFollow_16 rfl (lv_at hl 0 rfl) ?_
        refine va_get (D := D) (ci := 8) (v := .long f0_ones) (C := RX8) (T := TX8) (N := 43) hx hb hts in_X8_clausesFollow_X8 hown hK hP 0 rfl rfl 34 (by decide) lk_2 (fun _ h9 => h9) rfl dX8_clausesFollow_17 ?_
        refine lv_land hx hb dX8_clausesFollow_20 ?_
        refine lv_lconst (v := (0 : Int64)) hx hb dX8_clausesFollow_21 (by decide) ?_
        refine W.lcmp hx hb dX8_clausesFollow_22 ?_
        refine lv_if_ne (tgt := 51) hx hb dX8_clausesFollow_23 (by decide) (fun c_4 => ?_) (fun c_4 => ?_)
        · have k_5 : ¬ (((h0_cYes x1.toNatClampNeg) &&& f0_ones) = (0 : Int64)) := (fun z9 => c_4 ((lg_cmp_eq _ _).mpr z9))
          have h := cw_f k_5 h
          refine lv_iconst (v := (1 : Int32)) hx hb dX8_clausesFollow_51 (by decide) ?_
          refine lv_goto (tgt := 56) hx hb dX8_clausesFollow_52 (by decide) ?_
          refine lv_istore_n (lv' := [(2, .int (1 : Int32)), (0, .ref q0), (1, .int x1)]) hx hb dX8_clausesFollow_56 rfl hl (by decide) rfl (fun ls hl => ?_)
          refine lv_aload_n hx hb dX8_clausesFollow_57 rfl (lv_at hl 1 rfl) ?_
          refine va_get (D := D) (ci := 8) (v := .ref q0_cYes) (C := RX8) (T := TX8) (N := 43) hx hb hts in_X8_clausesFollow_X8 hown hK hP 0 rfl rfl 6 (by decide) lk_1 (fun _ h9 => h9) rfl dX8_clausesFollow_58 ?_
          refine lv_iload_n hx hb dX8_clausesFollow_61 rfl (lv_at hl 2 rfl) ?_
          obtain ⟨b_6, h⟩ := cw_i h
          refine va_lald hx hb hK hP 1 1 rfl rfl b_6 dX8_clausesFollow_62 ?_
          refine lv_aload_n hx hb dX8_clausesFollow_63 rfl (lv_at hl 1 rfl) ?_
          refine va_get (D := D) (ci := 8) (v := .ref q0_cNo) (C := RX8) (T := TX8) (N := 43) hx hb hts in_X8_clausesFollow_X8 hown hK hP 0 rfl rfl 7 (by decide) lk_3 (fun _ h9 => h9) rfl dX8_clausesFollow_64 ?_
          refine lv_iload_n hx hb dX8_clausesFollow_67 rfl (lv_at hl 2 rfl) ?_
          obtain ⟨b_7, h⟩ := cw_i h
          refine va_lald hx hb hK hP 2 1 rfl rfl b_7 dX8_clausesFollow_68 ?_
          refine lv_lor hx hb dX8_clausesFollow_69 ?_
          refine lv_aload_n hx hb dX8_clausesFollow_70 rfl (lv_at hl 1 rfl) ?_
          refine va_get (D := D) (ci := 8) (v := .long f0_taken) (C := RX8) (T := TX8) (N := 43) hx hb hts in_X8_clausesFollow_X8 hown hK hP 0 rfl rfl 33 (by decide) lk_4 (fun _ h9 => h9) rfl dX8_clausesFollow_71 ?_
          refine lv_ldc2 hx hb hown lk_5 dX8_clausesFollow_74 ?_
          refine lv_lxor hx hb dX8_clausesFollow_77 ?_
          refine lv_land hx hb dX8_clausesFollow_78 ?_
          refine lv_lstore_n (lv' := [(3, .long (((h0_cYes x1.toNatClampNeg) ||| (h0_cNo x1.toNatClampNeg)) &&& (f0_taken ^^^ (-1 : Int64)))), (2, .int (1 : Int32)), (0, .ref q0), (1, .int x1)]) hx hb dX8_clausesFollow_79 rfl hl (by decide) rfl (fun ls hl => ?_)
          refine lv_iload_n hx hb dX8_clausesFollow_80 rfl (lv_at hl 1 rfl) ?_
          refine lv_if_ne (tgt := 92) hx hb dX8_clausesFollow_81 (by decide) (fun c_8 => ?_) (fun c_8 => ?_)
          · refine lv_iload_n hx hb dX8_clausesFollow_92 rfl (lv_at hl 1 rfl) ?_
            refine lv_if_ne (tgt := 129) hx hb dX8_clausesFollow_93 (by decide) (fun c_9 => ?_) (fun c_9 => ?_)
            · refine lv_iinc (v := x1 + (1 : Int32)) (lv' := [(1, .int (x1 + (1 : Int32))), (3, .long (((h0_cYes x1.toNatClampNeg) ||| (h0_cNo x1.toNatClampNeg)) &&& (f0_taken ^^^ (-1 : Int64)))), (2, .int (1 : Int32)), (0, .ref q0)]) hx hb dX8_clausesFollow_129 hl (k := 3) rfl rfl (by decide) rfl (fun ls hl => ?_)
              refine lv_goto (tgt := 2) hx hb dX8_clausesFollow_132 (by decide) ?_
              exact ih _ _ _ h _ _ _ hP hD hS (lv_sub hl [3, 0] rfl)
            · exact absurd c_9 (by decide)
          · exact absurd c_8 (by decide)
        · have k_5 : ((h0_cYes x1.toNatClampNeg) &&& f0_ones) = (0 : Int64) := ((lg_cmp_eq _ _).mp c_4)
          have h := cw_t k_5 h
          refine lv_aload_n hx hb dX8_clausesFollow_26 rfl (lv_at hl 0 rfl) ?_
          refine va_get (D := D) (ci := 8) (v := .ref q0_cNo) (C := RX8) (T := TX8) (N := 43) hx hb hts in_X8_clausesFollow_X8 hown hK hP 0 rfl rfl 7 (by decide) lk_3 (fun _ h9 => h9) rfl dX8_clausesFollow_27 ?_
          refine lv_iload_n hx hb dX8_clausesFollow_30 rfl (lv_at hl 1 rfl) ?_
          obtain ⟨b_10, h⟩ := cw_i h
          refine va_lald hx hb hK hP 2 1 rfl rfl b_10 dX8_clausesFollow_31 ?_
          refine lv_aload_n hx hb dX8_clausesFollow_32 rfl (lv_at hl 0 rfl) ?_
          refine va_get (D := D) (ci := 8) (v := .long f0_taken) (C := RX8) (T := TX8) (N := 43) hx hb hts in_X8_clausesFollow_X8 hown hK hP 0 rfl rfl 33 (by decide) lk_4 (fun _ h9 => h9) rfl dX8_clausesFollow_33 ?_
          refine lv_land hx hb dX8_clausesFollow_36 ?_
          refine lv_aload_n hx hb dX8_clausesFollow_37 rfl (lv_at hl 0 rfl) ?_
          refine va_get (D := D) (ci := 8) (v := .long f0_ones) (C := RX8) (T := TX8) (N := 43) hx hb hts in_X8_clausesFollow_X8 hown hK hP 0 rfl rfl 34 (by decide) lk_2 (fun _ h9 => h9) rfl dX8_clausesFollow_38 ?_
          refine lv_ldc2 hx hb hown lk_5 dX8_clausesFollow_41 ?_
          refine lv_lxor hx hb dX8_clausesFollow_44 ?_
          refine lv_land hx hb dX8_clausesFollow_45 ?_
          refine lv_lconst (v := (0 : Int64)) hx hb dX8_clausesFollow_46 (by decide) ?_
          refine W.lcmp hx hb dX8_clausesFollow_47 ?_
          refine lv_if_eq (tgt := 55) hx hb dX8_clausesFollow_48 (by decide) (fun c_11 => ?_) (fun c_11 => ?_)
          · have k_12 : (((h0_cNo x1.toNatClampNeg) &&& f0_taken) &&& (f0_ones ^^^ (-1 : Int64))) = (0 : Int64) := ((lg_cmp_eq _ _).mp c_11)
            have h := cw_t k_12 h
            refine lv_iconst (v := (0 : Int32)) hx hb dX8_clausesFollow_55 (by decide) ?_
            refine lv_istore_n (lv' := [(2, .int (0 : Int32)), (0, .ref q0), (1, .int x1)]) hx hb dX8_clausesFollow_56 rfl hl (by decide) rfl (fun ls hl => ?_)
            refine lv_aload_n hx hb dX8_clausesFollow_57 rfl (lv_at hl 1 rfl) ?_
            refine va_get (D := D) (ci := 8) (v := .ref q0_cYes) (C := RX8) (T := TX8) (N := 43) hx hb hts in_X8_clausesFollow_X8 hown hK hP 0 rfl rfl 6 (by decide) lk_1 (fun _ h9 => h9) rfl dX8_clausesFollow_58 ?_
            refine lv_iload_n hx hb dX8_clausesFollow_61 rfl (lv_at hl 2 rfl) ?_
            obtain ⟨b_13, h⟩ := cw_i h
            refine va_lald hx hb hK hP 1 1 rfl rfl b_13 dX8_clausesFollow_62 ?_
            refine lv_aload_n hx hb dX8_clausesFollow_63 rfl (lv_at hl 1 rfl) ?_
            refine va_get (D := D) (ci := 8) (v := .ref q0_cNo) (C := RX8) (T := TX8) (N := 43) hx hb hts in_X8_clausesFollow_X8 hown hK hP 0 rfl rfl 7 (by decide) lk_3 (fun _ h9 => h9) rfl dX8_clausesFollow_64 ?_
            refine lv_iload_n hx hb dX8_clausesFollow_67 rfl (lv_at hl 2 rfl) ?_
            obtain ⟨b_14, h⟩ := cw_i h
            refine va_lald hx hb hK hP 2 1 rfl rfl b_14 dX8_clausesFollow_68 ?_
            refine lv_lor hx hb dX8_clausesFollow_69 ?_
            refine lv_aload_n hx hb dX8_clausesFollow_70 rfl (lv_at hl 1 rfl) ?_
            refine va_get (D := D) (ci := 8) (v := .long f0_taken) (C := RX8) (T := TX8) (N := 43) hx hb hts in_X8_clausesFollow_X8 hown hK hP 0 rfl rfl 33 (by decide) lk_4 (fun _ h9 => h9) rfl dX8_clausesFollow_71 ?_
            refine lv_ldc2 hx hb hown lk_5 dX8_clausesFollow_74 ?_
            refine lv_lxor hx hb dX8_clausesFollow_77 ?_
            refine lv_land hx hb dX8_clausesFollow_78 ?_
            refine lv_lstore_n (lv' := [(3, .long (((h0_cYes x1.toNatClampNeg) ||| (h0_cNo x1.toNatClampNeg)) &&& (f0_taken ^^^ (-1 : Int64)))), (2, .int (0 : Int32)), (0, .ref q0), (1, .int x1)]) hx hb dX8_clausesFollow_79 rfl hl (by decide) rfl (fun ls hl => ?_)
            refine lv_iload_n hx hb dX8_clausesFollow_80 rfl (lv_at hl 1 rfl) ?_
            refine lv_if_ne (tgt := 92) hx hb dX8_clausesFollow_81 (by decide) (fun c_15 => ?_) (fun c_15 => ?_)
            · exact absurd c_15 (by decide)
            · refine lv_lload_n hx hb dX8_clausesFollow_84 rfl (lv_at hl 0 rfl) ?_
              refine lv_lconst (v := (0 : Int64)) hx hb dX8_clausesFollow_85 (by decide) ?_
              refine W.lcmp hx hb dX8_clausesFollow_86 ?_
              refine lv_if_ne (tgt := 92) hx hb dX8_clausesFollow_87 (by decide) (fun c_16 => ?_) (fun c_16 => ?_)
              · have k_17 : ¬ ((((h0_cYes x1.toNatClampNeg) ||| (h0_cNo x1.toNatClampNeg)) &&& (f0_taken ^^^ (-1 : Int64))) = (0 : Int64)) := (fun z9 => c_16 ((lg_cmp_eq _ _).mpr z9))
                have h := cw_f k_17 h
                refine lv_iload_n hx hb dX8_clausesFollow_92 rfl (lv_at hl 1 rfl) ?_
                refine lv_if_ne (tgt := 129) hx hb dX8_clausesFollow_93 (by decide) (fun c_18 => ?_) (fun c_18 => ?_)
                · exact absurd c_18 (by decide)
                · refine lv_lload_n hx hb dX8_clausesFollow_96 rfl (lv_at hl 0 rfl) ?_
                  obtain ⟨u_19, hu_20, h⟩ := cw_b h
                  refine kx_l (ws' := fun _ => [(q0, .inr (8, [v0_thrown, v0_n, v0_equations, v0_eSet, v0_eRight, .int f0_clauses, .ref q0_cYes, .ref q0_cNo, v0_levels, v0_levelEquations, v0_levelClauses, v0_tape, v0_tapeSize, v0_faultIs, v0_faultAt, v0_at, v0_newEquations, v0_newClauses, v0_newSet, v0_newRight, v0_newYes, v0_newNo, v0_lineYes, v0_lineNo, v0_rowCount, v0_rSet, v0_rRight, v0_isImpossible, v0_sumSet, v0_sumOf, v0_sumRight, v0_empty, v0_empties, .long f0_taken, .long f0_ones, v0_waitTaken, v0_waitOnes, v0_nodeCount, v0_lastModel, v0_modelCount, v0_modelIs, v0_gSet, v0_gateCount])), (q0_cYes, .inl (cL, n0_cYes, .inr (.inl h0_cYes))), (q0_cNo, .inl (cL, n0_cNo, .inr (.inl h0_cNo)))]) hP hD hS hA [] [0, 1, 2] [0, 1, 2] rfl (by decide) (by decide) (by decide) (fun _ => rfl) (by decide) (va_runS (As := [.long (((h0_cYes x1.toNatClampNeg) ||| (h0_cNo x1.toNatClampNeg)) &&& (f0_taken ^^^ (-1 : Int64)))]) (rest := []) ⟨hx, hb, hml, hown, hts⟩ (cm_X8_lowest l D cI cL (x0 := ((h0_cYes x1.toNatClampNeg) ||| (h0_cNo x1.toNatClampNeg)) &&& (f0_taken ^^^ (-1 : Int64))) (r0 := u_19) (h0 := hu_20) (sz := H.size)) (va_cwS 1 hts gX8_clausesFollow_X8_lowest rfl rfl rfl (by decide +kernel) ⟨Nat.le_of_ble_eq_true rfl, Nat.le_of_ble_eq_true rfl⟩) (kx_preS hEV hP hD [] rfl (by decide)) rfl rfl hl.1 rfl (lv_room (Nat.le_of_ble_eq_true rfl)) dX8_clausesFollow_97 ⟨Nat.le_refl _, Nat.le_refl _⟩) (fun _ H locs _ hP hD hS => ?_)
                  refine lv_lload_n hx hb dX8_clausesFollow_100 rfl (lv_at hl 0 rfl) ?_
                  refine W.lcmp hx hb dX8_clausesFollow_101 ?_
                  refine lv_if_ne (tgt := 129) hx hb dX8_clausesFollow_102 (by decide) (fun c_21 => ?_) (fun c_21 => ?_)
                  · have k_22 : ¬ (u_19 = (((h0_cYes x1.toNatClampNeg) ||| (h0_cNo x1.toNatClampNeg)) &&& (f0_taken ^^^ (-1 : Int64)))) := (fun z9 => c_21 ((lg_cmp_eq _ _).mpr z9))
                    have h := cw_f k_22 h
                    refine lv_iinc (v := x1 + (1 : Int32)) (lv' := [(1, .int (x1 + (1 : Int32))), (3, .long (((h0_cYes x1.toNatClampNeg) ||| (h0_cNo x1.toNatClampNeg)) &&& (f0_taken ^^^ (-1 : Int64)))), (2, .int (0 : Int32)), (0, .ref q0)]) hx hb dX8_clausesFollow_129 hl (k := 3) rfl rfl (by decide) rfl (fun ls hl => ?_)
                    refine lv_goto (tgt := 2) hx hb dX8_clausesFollow_132 (by decide) ?_
                    exact ih _ _ _ h _ _ _ hP hD hS (lv_sub hl [3, 0] rfl)
                  · have k_22 : u_19 = (((h0_cYes x1.toNatClampNeg) ||| (h0_cNo x1.toNatClampNeg)) &&& (f0_taken ^^^ (-1 : Int64))) := ((lg_cmp_eq _ _).mp c_21)
                    have h := cw_t k_22 h
                    refine lv_aload_n hx hb dX8_clausesFollow_105 rfl (lv_at hl 2 rfl) ?_
                    refine lv_lload_n hx hb dX8_clausesFollow_106 rfl (lv_at hl 0 rfl) ?_
                    refine lv_aload_n hx hb dX8_clausesFollow_107 rfl (lv_at hl 2 rfl) ?_
                    refine va_get (D := D) (ci := 8) (v := .ref q0_cYes) (C := RX8) (T := TX8) (N := 43) hx hb hts in_X8_clausesFollow_X8 hown hK hP 0 rfl rfl 6 (by decide) lk_1 (fun _ h9 => h9) rfl dX8_clausesFollow_108 ?_
                    refine lv_iload_n hx hb dX8_clausesFollow_111 rfl (lv_at hl 3 rfl) ?_
                    obtain ⟨b_23, h⟩ := cw_i h
                    refine va_lald hx hb hK hP 1 1 rfl rfl b_23 dX8_clausesFollow_112 ?_
                    refine lv_lload_n hx hb dX8_clausesFollow_113 rfl (lv_at hl 0 rfl) ?_
                    refine lv_land hx hb dX8_clausesFollow_114 ?_
                    refine lv_lconst (v := (0 : Int64)) hx hb dX8_clausesFollow_115 (by decide) ?_
                    refine W.lcmp hx hb dX8_clausesFollow_116 ?_
                    refine lv_if_eq (tgt := 124) hx hb dX8_clausesFollow_117 (by decide) (fun c_24 => ?_) (fun c_24 => ?_)
                    · have k_25 : ((h0_cYes x1.toNatClampNeg) &&& (((h0_cYes x1.toNatClampNeg) ||| (h0_cNo x1.toNatClampNeg)) &&& (f0_taken ^^^ (-1 : Int64)))) = (0 : Int64) := ((lg_cmp_eq _ _).mp c_24)
                      have h := cw_t k_25 h
                      refine lv_iconst (v := (0 : Int32)) hx hb dX8_clausesFollow_124 (by decide) ?_
                      obtain ⟨u_26, hu_27, h⟩ := cw_b h
                      refine kx_i (ws' := fun _ => [(q0, .inr (8, [v0_thrown, v0_n, v0_equations, v0_eSet, v0_eRight, .int f0_clauses, .ref q0_cYes, .ref q0_cNo, v0_levels, v0_levelEquations, v0_levelClauses, v0_tape, v0_tapeSize, v0_faultIs, v0_faultAt, v0_at, v0_newEquations, v0_newClauses, v0_newSet, v0_newRight, v0_newYes, v0_newNo, v0_lineYes, v0_lineNo, v0_rowCount, v0_rSet, v0_rRight, v0_isImpossible, v0_sumSet, v0_sumOf, v0_sumRight, v0_empty, v0_empties, .long u_26.2.1, .long u_26.2.2, v0_waitTaken, v0_waitOnes, v0_nodeCount, v0_lastModel, v0_modelCount, v0_modelIs, v0_gSet, v0_gateCount])), (q0_cYes, .inl (cL, n0_cYes, .inr (.inl h0_cYes))), (q0_cNo, .inl (cL, n0_cNo, .inr (.inl h0_cNo)))]) hP hD hS hA [0] [1, 2] [2, 0, 1] rfl (by decide) (by decide) (by decide) (fun _ => rfl) (by decide) (va_runV (As := [.long (((h0_cYes x1.toNatClampNeg) ||| (h0_cNo x1.toNatClampNeg)) &&& (f0_taken ^^^ (-1 : Int64))), .int (bI false)]) (rest := []) ⟨hx, hb, hml, hown, hts⟩ (cm_X8_take l D cI cL (q0 := q0) (f0_taken := f0_taken) (f0_ones := f0_ones) (v0_thrown := v0_thrown) (v0_n := v0_n) (v0_equations := v0_equations) (v0_eSet := v0_eSet) (v0_eRight := v0_eRight) (v0_clauses := .int f0_clauses) (v0_cYes := .ref q0_cYes) (v0_cNo := .ref q0_cNo) (v0_levels := v0_levels) (v0_levelEquations := v0_levelEquations) (v0_levelClauses := v0_levelClauses) (v0_tape := v0_tape) (v0_tapeSize := v0_tapeSize) (v0_faultIs := v0_faultIs) (v0_faultAt := v0_faultAt) (v0_at := v0_at) (v0_newEquations := v0_newEquations) (v0_newClauses := v0_newClauses) (v0_newSet := v0_newSet) (v0_newRight := v0_newRight) (v0_newYes := v0_newYes) (v0_newNo := v0_newNo) (v0_lineYes := v0_lineYes) (v0_lineNo := v0_lineNo) (v0_rowCount := v0_rowCount) (v0_rSet := v0_rSet) (v0_rRight := v0_rRight) (v0_isImpossible := v0_isImpossible) (v0_sumSet := v0_sumSet) (v0_sumOf := v0_sumOf) (v0_sumRight := v0_sumRight) (v0_empty := v0_empty) (v0_empties := v0_empties) (v0_waitTaken := v0_waitTaken) (v0_waitOnes := v0_waitOnes) (v0_nodeCount := v0_nodeCount) (v0_lastModel := v0_lastModel) (v0_modelCount := v0_modelCount) (v0_modelIs := v0_modelIs) (v0_gSet := v0_gSet) (v0_gateCount := v0_gateCount) (x1 := ((h0_cYes x1.toNatClampNeg) ||| (h0_cNo x1.toNatClampNeg)) &&& (f0_taken ^^^ (-1 : Int64))) (x3 := false) (r0 := u_26) (h0 := hu_27) (sz := H.size)) (cwV 2 hts gX8_clausesFollow_X8_take rfl rfl rfl (by decide +kernel) ⟨Nat.le_of_ble_eq_true rfl, Nat.le_of_ble_eq_true rfl⟩) (kx_preV hEV hP hD [0] rfl (by decide) (k0 := 0) (ci := 8) rfl rfl rfl) rfl rfl hl.1 rfl (lv_room (Nat.le_of_ble_eq_true rfl)) dX8_clausesFollow_125 ⟨Nat.le_refl _, Nat.le_refl _⟩) (fun _ H locs _ hP hD hS => ?_)
                      refine lv_pop hx hb dX8_clausesFollow_128 rfl ?_
                      refine lv_iinc (v := x1 + (1 : Int32)) (lv' := [(1, .int (x1 + (1 : Int32))), (3, .long (((h0_cYes x1.toNatClampNeg) ||| (h0_cNo x1.toNatClampNeg)) &&& (f0_taken ^^^ (-1 : Int64)))), (2, .int (0 : Int32)), (0, .ref q0)]) hx hb dX8_clausesFollow_129 hl (k := 3) rfl rfl (by decide) rfl (fun ls hl => ?_)
                      refine lv_goto (tgt := 2) hx hb dX8_clausesFollow_132 (by decide) ?_
                      exact ih _ _ _ h _ _ _ hP hD hS (lv_sub hl [3, 0] rfl)
                    · have k_25 : ¬ (((h0_cYes x1.toNatClampNeg) &&& (((h0_cYes x1.toNatClampNeg) ||| (h0_cNo x1.toNatClampNeg)) &&& (f0_taken ^^^ (-1 : Int64)))) = (0 : Int64)) := (fun z9 => c_24 ((lg_cmp_eq _ _).mpr z9))
                      have h := cw_f k_25 h
                      refine lv_iconst (v := (1 : Int32)) hx hb dX8_clausesFollow_120 (by decide) ?_
                      refine lv_goto (tgt := 125) hx hb dX8_clausesFollow_121 (by decide) ?_
                      obtain ⟨u_28, hu_29, h⟩ := cw_b h
                      refine kx_i (ws' := fun _ => [(q0, .inr (8, [v0_thrown, v0_n, v0_equations, v0_eSet, v0_eRight, .int f0_clauses, .ref q0_cYes, .ref q0_cNo, v0_levels, v0_levelEquations, v0_levelClauses, v0_tape, v0_tapeSize, v0_faultIs, v0_faultAt, v0_at, v0_newEquations, v0_newClauses, v0_newSet, v0_newRight, v0_newYes, v0_newNo, v0_lineYes, v0_lineNo, v0_rowCount, v0_rSet, v0_rRight, v0_isImpossible, v0_sumSet, v0_sumOf, v0_sumRight, v0_empty, v0_empties, .long u_28.2.1, .long u_28.2.2, v0_waitTaken, v0_waitOnes, v0_nodeCount, v0_lastModel, v0_modelCount, v0_modelIs, v0_gSet, v0_gateCount])), (q0_cYes, .inl (cL, n0_cYes, .inr (.inl h0_cYes))), (q0_cNo, .inl (cL, n0_cNo, .inr (.inl h0_cNo)))]) hP hD hS hA [0] [1, 2] [2, 0, 1] rfl (by decide) (by decide) (by decide) (fun _ => rfl) (by decide) (va_runV (As := [.long (((h0_cYes x1.toNatClampNeg) ||| (h0_cNo x1.toNatClampNeg)) &&& (f0_taken ^^^ (-1 : Int64))), .int (bI true)]) (rest := []) ⟨hx, hb, hml, hown, hts⟩ (cm_X8_take l D cI cL (q0 := q0) (f0_taken := f0_taken) (f0_ones := f0_ones) (v0_thrown := v0_thrown) (v0_n := v0_n) (v0_equations := v0_equations) (v0_eSet := v0_eSet) (v0_eRight := v0_eRight) (v0_clauses := .int f0_clauses) (v0_cYes := .ref q0_cYes) (v0_cNo := .ref q0_cNo) (v0_levels := v0_levels) (v0_levelEquations := v0_levelEquations) (v0_levelClauses := v0_levelClauses) (v0_tape := v0_tape) (v0_tapeSize := v0_tapeSize) (v0_faultIs := v0_faultIs) (v0_faultAt := v0_faultAt) (v0_at := v0_at) (v0_newEquations := v0_newEquations) (v0_newClauses := v0_newClauses) (v0_newSet := v0_newSet) (v0_newRight := v0_newRight) (v0_newYes := v0_newYes) (v0_newNo := v0_newNo) (v0_lineYes := v0_lineYes) (v0_lineNo := v0_lineNo) (v0_rowCount := v0_rowCount) (v0_rSet := v0_rSet) (v0_rRight := v0_rRight) (v0_isImpossible := v0_isImpossible) (v0_sumSet := v0_sumSet) (v0_sumOf := v0_sumOf) (v0_sumRight := v0_sumRight) (v0_empty := v0_empty) (v0_empties := v0_empties) (v0_waitTaken := v0_waitTaken) (v0_waitOnes := v0_waitOnes) (v0_nodeCount := v0_nodeCount) (v0_lastModel := v0_lastModel) (v0_modelCount := v0_modelCount) (v0_modelIs := v0_modelIs) (v0_gSet := v0_gSet) (v0_gateCount := v0_gateCount) (x1 := ((h0_cYes x1.toNatClampNeg) ||| (h0_cNo x1.toNatClampNeg)) &&& (f0_taken ^^^ (-1 : Int64))) (x3 := true) (r0 := u_28) (h0 := hu_29) (sz := H.size)) (cwV 2 hts gX8_clausesFollow_X8_take rfl rfl rfl (by decide +kernel) ⟨Nat.le_of_ble_eq_true rfl, Nat.le_of_ble_eq_true rfl⟩) (kx_preV hEV hP hD [0] rfl (by decide) (k0 := 0) (ci := 8) rfl rfl rfl) rfl rfl hl.1 rfl (lv_room (Nat.le_of_ble_eq_true rfl)) dX8_clausesFollow_125 ⟨Nat.le_refl _, Nat.le_refl _⟩) (fun _ H locs _ hP hD hS => ?_)
                      refine lv_pop hx hb dX8_clausesFollow_128 rfl ?_
                      refine lv_iinc (v := x1 + (1 : Int32)) (lv' := [(1, .int (x1 + (1 : Int32))), (3, .long (((h0_cYes x1.toNatClampNeg) ||| (h0_cNo x1.toNatClampNeg)) &&& (f0_taken ^^^ (-1 : Int64)))), (2, .int (0 : Int32)), (0, .ref q0)]) hx hb dX8_clausesFollow_129 hl (k := 3) rfl rfl (by decide) rfl (fun ls hl => ?_)
                      refine lv_goto (tgt := 2) hx hb dX8_clausesFollow_132 (by decide) ?_
                      exact ih _ _ _ h _ _ _ hP hD hS (lv_sub hl [3, 0] rfl)
              · have k_17 : (((h0_cYes x1.toNatClampNeg) ||| (h0_cNo x1.toNatClampNeg)) &&& (f0_taken ^^^ (-1 : Int64))) = (0 : Int64) := ((lg_cmp_eq _ _).mp c_16)
                have h := cw_t k_17 h
                refine lv_iconst (v := (0 : Int32)) hx hb dX8_clausesFollow_90 (by decide) ?_
                have h := Option.some.inj h
                subst h
                subst hQ
                exact W.zret (v := bI false) hx hb hr (bI_n false) (fun t ht hW => ⟨⟨bI false, (), rfl, ⟨rfl, trivial⟩, by rw [ht]; exact hP, hD⟩, hS.F ht⟩) hS.2.2 dX8_clausesFollow_91
          · have k_12 : ¬ ((((h0_cNo x1.toNatClampNeg) &&& f0_taken) &&& (f0_ones ^^^ (-1 : Int64))) = (0 : Int64)) := (fun z9 => c_11 ((lg_cmp_eq _ _).mpr z9))
            have h := cw_f k_12 h
            refine lv_iconst (v := (1 : Int32)) hx hb dX8_clausesFollow_51 (by decide) ?_
            refine lv_goto (tgt := 56) hx hb dX8_clausesFollow_52 (by decide) ?_
            refine lv_istore_n (lv' := [(2, .int (1 : Int32)), (0, .ref q0), (1, .int x1)]) hx hb dX8_clausesFollow_56 rfl hl (by decide) rfl (fun ls hl => ?_)
            refine lv_aload_n hx hb dX8_clausesFollow_57 rfl (lv_at hl 1 rfl) ?_
            refine va_get (D := D) (ci := 8) (v := .ref q0_cYes) (C := RX8) (T := TX8) (N := 43) hx hb hts in_X8_clausesFollow_X8 hown hK hP 0 rfl rfl 6 (by decide) lk_1 (fun _ h9 => h9) rfl dX8_clausesFollow_58 ?_
            refine lv_iload_n hx hb dX8_clausesFollow_61 rfl (lv_at hl 2 rfl) ?_
            obtain ⟨b_30, h⟩ := cw_i h
            refine va_lald hx hb hK hP 1 1 rfl rfl b_30 dX8_clausesFollow_62 ?_
            refine lv_aload_n hx hb dX8_clausesFollow_63 rfl (lv_at hl 1 rfl) ?_
            refine va_get (D := D) (ci := 8) (v := .ref q0_cNo) (C := RX8) (T := TX8) (N := 43) hx hb hts in_X8_clausesFollow_X8 hown hK hP 0 rfl rfl 7 (by decide) lk_3 (fun _ h9 => h9) rfl dX8_clausesFollow_64 ?_
            refine lv_iload_n hx hb dX8_clausesFollow_67 rfl (lv_at hl 2 rfl) ?_
            obtain ⟨b_31, h⟩ := cw_i h
            refine va_lald hx hb hK hP 2 1 rfl rfl b_31 dX8_clausesFollow_68 ?_
            refine lv_lor hx hb dX8_clausesFollow_69 ?_
            refine lv_aload_n hx hb dX8_clausesFollow_70 rfl (lv_at hl 1 rfl) ?_
            refine va_get (D := D) (ci := 8) (v := .long f0_taken) (C := RX8) (T := TX8) (N := 43) hx hb hts in_X8_clausesFollow_X8 hown hK hP 0 rfl rfl 33 (by decide) lk_4 (fun _ h9 => h9) rfl dX8_clausesFollow_71 ?_
            refine lv_ldc2 hx hb hown lk_5 dX8_clausesFollow_74 ?_
            refine lv_lxor hx hb dX8_clausesFollow_77 ?_
            refine lv_land hx hb dX8_clausesFollow_78 ?_
            refine lv_lstore_n (lv' := [(3, .long (((h0_cYes x1.toNatClampNeg) ||| (h0_cNo x1.toNatClampNeg)) &&& (f0_taken ^^^ (-1 : Int64)))), (2, .int (1 : Int32)), (0, .ref q0), (1, .int x1)]) hx hb dX8_clausesFollow_79 rfl hl (by decide) rfl (fun ls hl => ?_)
            refine lv_iload_n hx hb dX8_clausesFollow_80 rfl (lv_at hl 1 rfl) ?_
            refine lv_if_ne (tgt := 92) hx hb dX8_clausesFollow_81 (by decide) (fun c_32 => ?_) (fun c_32 => ?_)
            · refine lv_iload_n hx hb dX8_clausesFollow_92 rfl (lv_at hl 1 rfl) ?_
              refine lv_if_ne (tgt := 129) hx hb dX8_clausesFollow_93 (by decide) (fun c_33 => ?_) (fun c_33 => ?_)
              · refine lv_iinc (v := x1 + (1 : Int32)) (lv' := [(1, .int (x1 + (1 : Int32))), (3, .long (((h0_cYes x1.toNatClampNeg) ||| (h0_cNo x1.toNatClampNeg)) &&& (f0_taken ^^^ (-1 : Int64)))), (2, .int (1 : Int32)), (0, .ref q0)]) hx hb dX8_clausesFollow_129 hl (k := 3) rfl rfl (by decide) rfl (fun ls hl => ?_)
                refine lv_goto (tgt := 2) hx hb dX8_clausesFollow_132 (by decide) ?_
                exact ih _ _ _ h _ _ _ hP hD hS (lv_sub hl [3, 0] rfl)
              · exact absurd c_33 (by decide)
            · exact absurd c_32 (by decide)
  have h := h0
  unfold D_X8_clausesFollow at h
  refine lv_iconst (v := (0 : Int32)) hx hb dX8_clausesFollow_0 (by decide) ?_
  refine lv_istore_n (lv' := [(1, .int (0 : Int32)), (0, .ref q0)]) hx hb dX8_clausesFollow_1 rfl hl (by decide) rfl (fun ls hl => ?_)
  obtain ⟨n9, hn9⟩ := runw_some h
  exact (hloop n9) _ _ _ hn9 _ _ _ hP hD hS (lv_sub hl [1, 0] rfl)
