abbrev S_X8_reduced : Type := (Int64 × Int64) ⊕ (Int64 × Int64 × Int32)
noncomputable def b_X8_reduced_7 (f0_empties : Int32) (n0_empty : Nat) (h0_empty : Nat → Int64) (x1 : Int64) (x3 : Int64) (x5 : Int64) : Option (Int64) ⊕ S_X8_reduced :=
  cif (x5 ≤ (0 : Int64))
    (.inl (some x3))
    (.inr (.inr (x3, x5, (0 : Int32))))
noncomputable def b_X8_reduced_17 (f0_empties : Int32) (n0_empty : Nat) (h0_empty : Nat → Int64) (x1 : Int64) (x3 : Int64) (x5 : Int64) (x7 : Int32) : Option (Int64) ⊕ S_X8_reduced :=
  cif (f0_empties ≤ x7)
    (.inr (.inl (x3, jshr x5 (1 : Int32))))
    (cif ((x3 &&& x5) = (0 : Int64))
      (.inr (.inl (x3, jshr x5 (1 : Int32))))
      (cif (vp_in x7 n0_empty)
        (sbd (D_X8_highest (h0_empty x7.toNatClampNeg)) (fun u_8 =>
          cif (u_8 = x5)
            (cif (vp_in x7 n0_empty)
              (.inr (.inr (x3 ^^^ (h0_empty x7.toNatClampNeg), x5, x7 + (1 : Int32))))
              (.inl none))
            (.inr (.inr (x3, x5, x7 + (1 : Int32))))))
        (.inl none)))
noncomputable def st_X8_reduced (f0_empties : Int32) (n0_empty : Nat) (h0_empty : Nat → Int64) (x1 : Int64) : S_X8_reduced → Option (Int64) ⊕ S_X8_reduced := fun x => match x with
  | .inl (x3, x5) => b_X8_reduced_7 f0_empties n0_empty h0_empty x1 x3 x5
  | .inr (x3, x5, x7) => b_X8_reduced_17 f0_empties n0_empty h0_empty x1 x3 x5 x7
noncomputable def L_X8_reduced_7 (f0_empties : Int32) (n0_empty : Nat) (h0_empty : Nat → Int64) (x1 : Int64) (x3 : Int64) (x5 : Int64) : Option (Int64) := runw (st_X8_reduced f0_empties n0_empty h0_empty x1) (.inl (x3, x5))
noncomputable def L_X8_reduced_17 (f0_empties : Int32) (n0_empty : Nat) (h0_empty : Nat → Int64) (x1 : Int64) (x3 : Int64) (x5 : Int64) (x7 : Int32) : Option (Int64) := runw (st_X8_reduced f0_empties n0_empty h0_empty x1) (.inr (x3, x5, x7))
theorem E_X8_reduced_7 (f0_empties : Int32) (n0_empty : Nat) (h0_empty : Nat → Int64) (x1 : Int64) (x3 : Int64) (x5 : Int64) : L_X8_reduced_7 f0_empties n0_empty h0_empty x1 x3 x5 =
    cif (x5 ≤ (0 : Int64))
      (some x3)
      (L_X8_reduced_17 f0_empties n0_empty h0_empty x1 x3 x5 (0 : Int32)) := by
  show runw (st_X8_reduced f0_empties n0_empty h0_empty x1) (.inl (x3, x5)) = _
  rw [runw_eq]
  show run1 _ (b_X8_reduced_7 f0_empties n0_empty h0_empty x1 x3 x5) = _
  simp only [b_X8_reduced_7, run1_cif, run1_sbd, run1_inl, run1_inr]
  try rfl
theorem E_X8_reduced_17 (f0_empties : Int32) (n0_empty : Nat) (h0_empty : Nat → Int64) (x1 : Int64) (x3 : Int64) (x5 : Int64) (x7 : Int32) : L_X8_reduced_17 f0_empties n0_empty h0_empty x1 x3 x5 x7 =
    cif (f0_empties ≤ x7)
      (L_X8_reduced_7 f0_empties n0_empty h0_empty x1 x3 (jshr x5 (1 : Int32)))
      (cif ((x3 &&& x5) = (0 : Int64))
        (L_X8_reduced_7 f0_empties n0_empty h0_empty x1 x3 (jshr x5 (1 : Int32)))
        (cif (vp_in x7 n0_empty)
          (Option.bind (D_X8_highest (h0_empty x7.toNatClampNeg)) (fun u_8 =>
            cif (u_8 = x5)
              (cif (vp_in x7 n0_empty)
                (L_X8_reduced_17 f0_empties n0_empty h0_empty x1 (x3 ^^^ (h0_empty x7.toNatClampNeg)) x5 (x7 + (1 : Int32)))
                (none))
              (L_X8_reduced_17 f0_empties n0_empty h0_empty x1 x3 x5 (x7 + (1 : Int32)))))
          (none))) := by
  show runw (st_X8_reduced f0_empties n0_empty h0_empty x1) (.inr (x3, x5, x7)) = _
  rw [runw_eq]
  show run1 _ (b_X8_reduced_17 f0_empties n0_empty h0_empty x1 x3 x5 x7) = _
  simp only [b_X8_reduced_17, run1_cif, run1_sbd, run1_inl, run1_inr]
  try rfl
noncomputable def D_X8_reduced (f0_empties : Int32) (n0_empty : Nat) (h0_empty : Nat → Int64) (x1 : Int64) : Option (Int64) :=
  L_X8_reduced_7 f0_empties n0_empty h0_empty x1 x1 (1152921504606846976 : Int64)
theorem in_X8_reduced_X8 : ∀ w ∈ wsX80, w ∈ wsX8_reduced := by decide +kernel
theorem lk_0_X8_reduced : Cond.constantLong RX8 201 (1152921504606846976) ∈ wsX8_reduced := by decide +kernel
theorem lk_1_X8_reduced : Cond.fieldLink RX8 203 "ParityClausesModel" "empties" "I" ∈ wsX8_reduced := by decide +kernel
theorem lk_2_X8_reduced : Cond.fieldLink RX8 59 "ParityClausesModel" "empty" "[J" ∈ wsX8_reduced := by decide +kernel
abbrev rm_X8_reduced : Room := { frames := 1, cells := 0, slots := 0, locals := 23 }
set_option maxHeartbeats 4000000 in
set_option maxRecDepth 100000 in
theorem cm_X8_reduced (l : Launch) (D : va_G) (cI cL : ClassId) (q0 q0_empty : Nat) (n0_empty : Nat) (f0_empties : Int32) (h0_empty : Nat → Int64) (v0_thrown v0_n v0_equations v0_eSet v0_eRight v0_clauses v0_cYes v0_cNo v0_levels v0_levelEquations v0_levelClauses v0_tape v0_tapeSize v0_faultIs v0_faultAt v0_at v0_newEquations v0_newClauses v0_newSet v0_newRight v0_newYes v0_newNo v0_lineYes v0_lineNo v0_rowCount v0_rSet v0_rRight v0_isImpossible v0_sumSet v0_sumOf v0_sumRight v0_taken v0_ones v0_waitTaken v0_waitOnes v0_nodeCount v0_lastModel v0_modelCount v0_modelIs v0_gSet v0_gateCount : Value) (x1 : Int64) (r0 : Int64) (h0 : D_X8_reduced f0_empties n0_empty h0_empty x1 = some r0) (sz : Nat) : Met l yX8_reduced wsX8_reduced rm_X8_reduced (PcW D cI cL [.ref q0, .long x1] [(q0, .inr (8, [v0_thrown, v0_n, v0_equations, v0_eSet, v0_eRight, v0_clauses, v0_cYes, v0_cNo, v0_levels, v0_levelEquations, v0_levelClauses, v0_tape, v0_tapeSize, v0_faultIs, v0_faultAt, v0_at, v0_newEquations, v0_newClauses, v0_newSet, v0_newRight, v0_newYes, v0_newNo, v0_lineYes, v0_lineNo, v0_rowCount, v0_rSet, v0_rRight, v0_isImpossible, v0_sumSet, v0_sumOf, v0_sumRight, .ref q0_empty, .int f0_empties, v0_taken, v0_ones, v0_waitTaken, v0_waitOnes, v0_nodeCount, v0_lastModel, v0_modelCount, v0_modelIs, v0_gSet, v0_gateCount])), (q0_empty, .inl (cL, n0_empty, .inr (.inl h0_empty)))] sz) (QlW D [(q0, .inr (8, [v0_thrown, v0_n, v0_equations, v0_eSet, v0_eRight, v0_clauses, v0_cYes, v0_cNo, v0_levels, v0_levelEquations, v0_levelClauses, v0_tape, v0_tapeSize, v0_faultIs, v0_faultAt, v0_at, v0_newEquations, v0_newClauses, v0_newSet, v0_newRight, v0_newYes, v0_newNo, v0_lineYes, v0_lineNo, v0_rowCount, v0_rSet, v0_rRight, v0_isImpossible, v0_sumSet, v0_sumOf, v0_sumRight, .ref q0_empty, .int f0_empties, v0_taken, v0_ones, v0_waitTaken, v0_waitOnes, v0_nodeCount, v0_lastModel, v0_modelCount, v0_modelIs, v0_gSet, v0_gateCount])), (q0_empty, .inl (cL, n0_empty, .inr (.inl h0_empty)))] r0 (fun _ : Unit => [(q0, .inr (8, [v0_thrown, v0_n, v0_equations, v0_eSet, v0_eRight, v0_clauses, v0_cYes, v0_cNo, v0_levels, v0_levelEquations, v0_levelClauses, v0_tape, v0_tapeSize, v0_faultIs, v0_faultAt, v0_at, v0_newEquations, v0_newClauses, v0_newSet, v0_newRight, v0_newYes, v0_newNo, v0_lineYes, v0_lineNo, v0_rowCount, v0_rSet, v0_rRight, v0_isImpossible, v0_sumSet, v0_sumOf, v0_sumRight, .ref q0_empty, .int f0_empties, v0_taken, v0_ones, v0_waitTaken, v0_waitOnes, v0_nodeCount, v0_lastModel, v0_modelCount, v0_modelIs, v0_gSet, v0_gateCount])), (q0_empty, .inl (cL, n0_empty, .inr (.inl h0_empty)))]) tU sz) 0 0 (va_A [(q0, .inr (8, [v0_thrown, v0_n, v0_equations, v0_eSet, v0_eRight, v0_clauses, v0_cYes, v0_cNo, v0_levels, v0_levelEquations, v0_levelClauses, v0_tape, v0_tapeSize, v0_faultIs, v0_faultAt, v0_at, v0_newEquations, v0_newClauses, v0_newSet, v0_newRight, v0_newYes, v0_newNo, v0_lineYes, v0_lineNo, v0_rowCount, v0_rSet, v0_rRight, v0_isImpossible, v0_sumSet, v0_sumOf, v0_sumRight, .ref q0_empty, .int f0_empties, v0_taken, v0_ones, v0_waitTaken, v0_waitOnes, v0_nodeCount, v0_lastModel, v0_modelCount, v0_modelIs, v0_gSet, v0_gateCount])), (q0_empty, .inl (cL, n0_empty, .inr (.inl h0_empty)))] sz) := by
  refine Met.ofW (cc := cX8_reduced) (maxL := 8) (ret := (some .long)) (by decide) rfl ?_
  intro p e s m args below meth c s₁ B hml hv
  obtain ⟨hargs, hsz, hP, hEV, hD0⟩ := hv
  have hx := B.exec
  have hb := B.bytes
  have hr := B.returns
  have hts := atoms_spec (ws := wsX8_reduced) B.pre
  have hown : s.vm.findClass RX8 = some m.cls := findClass_of_methodNamed B.named
  have hlocks := B.notSynchronized
  have hK := hEV.K
  have lk_0 := hts _ lk_0_X8_reduced
  have lk_1 := hts _ lk_1_X8_reduced
  have lk_2 := hts _ lk_2_X8_reduced
  subst hsz
  unfold QlW PoW
  have hD := hD0.self (sz := s.heap.size)
  generalize hAe : va_A [(q0, .inr (8, [v0_thrown, v0_n, v0_equations, v0_eSet, v0_eRight, v0_clauses, v0_cYes, v0_cNo, v0_levels, v0_levelEquations, v0_levelClauses, v0_tape, v0_tapeSize, v0_faultIs, v0_faultAt, v0_at, v0_newEquations, v0_newClauses, v0_newSet, v0_newRight, v0_newYes, v0_newNo, v0_lineYes, v0_lineNo, v0_rowCount, v0_rSet, v0_rRight, v0_isImpossible, v0_sumSet, v0_sumOf, v0_sumRight, .ref q0_empty, .int f0_empties, v0_taken, v0_ones, v0_waitTaken, v0_waitOnes, v0_nodeCount, v0_lastModel, v0_modelCount, v0_modelIs, v0_gSet, v0_gateCount])), (q0_empty, .inl (cL, n0_empty, .inr (.inl h0_empty)))] s.heap.size = A at hD ⊢
  have hA : ∀ q : Nat, s.heap.size ≤ q → A q := fun q h => by rw [← hAe]; exact Or.inr h
  have hS : va_S A s.heap s.heap [] := va_S.rf
  have hent : entryFrame m args 8 = entryFrame m ([.ref q0, .long x1] : List Value).toArray 8 := by rw [hargs]
  rw [hent]
  refine kx_Q (fun Q hQ => ?_)
  have hl := lv_entry ([.ref q0, .long x1]) (n := 8) (Nat.le_of_ble_eq_true rfl)
  rw [lg_entry_eq]
  generalize (lg_sl ([.ref q0, .long x1]) ++ List.replicate (8 - (lg_sl ([.ref q0, .long x1])).length) Slot.unset).toArray = ls at hl ⊢
  have hl : lv_has ls 8 [(0, .ref q0), (1, .long x1)] := hl
  have hloop : ∀ n9 : Nat, (∀ (x3 : Int64) (x5 : Int64), iter (st_X8_reduced f0_empties n0_empty h0_empty x1) n9 (.inl (x3, x5)) = some r0 → ∀ (H : Heap) (locs : List Loc) (ls : Array Slot), va_P D vwCl [(q0, .inr (8, [v0_thrown, v0_n, v0_equations, v0_eSet, v0_eRight, v0_clauses, v0_cYes, v0_cNo, v0_levels, v0_levelEquations, v0_levelClauses, v0_tape, v0_tapeSize, v0_faultIs, v0_faultAt, v0_at, v0_newEquations, v0_newClauses, v0_newSet, v0_newRight, v0_newYes, v0_newNo, v0_lineYes, v0_lineNo, v0_rowCount, v0_rSet, v0_rRight, v0_isImpossible, v0_sumSet, v0_sumOf, v0_sumRight, .ref q0_empty, .int f0_empties, v0_taken, v0_ones, v0_waitTaken, v0_waitOnes, v0_nodeCount, v0_lastModel, v0_modelCount, v0_modelIs, v0_gSet, v0_gateCount])), (q0_empty, .inl (cL, n0_empty, .inr (.inl h0_empty)))] H → va_D A [(q0, .inr (8, [v0_thrown, v0_n, v0_equations, v0_eSet, v0_eRight, v0_clauses, v0_cYes, v0_cNo, v0_levels, v0_levelEquations, v0_levelClauses, v0_tape, v0_tapeSize, v0_faultIs, v0_faultAt, v0_at, v0_newEquations, v0_newClauses, v0_newSet, v0_newRight, v0_newYes, v0_newNo, v0_lineYes, v0_lineNo, v0_rowCount, v0_rSet, v0_rRight, v0_isImpossible, v0_sumSet, v0_sumOf, v0_sumRight, .ref q0_empty, .int f0_empties, v0_taken, v0_ones, v0_waitTaken, v0_waitOnes, v0_nodeCount, v0_lastModel, v0_modelCount, v0_modelIs, v0_gSet, v0_gateCount])), (q0_empty, .inl (cL, n0_empty, .inr (.inl h0_empty)))] → va_S A s.heap H locs → lv_has ls 8 [(0, .ref q0), (3, .long x3), (5, .long x5)] → W p l e (headSpec wsX8_reduced rm_X8_reduced).room s m args below meth c H locs 0 0 Q (F0 m 7 ls [])) ∧ (∀ (x3 : Int64) (x5 : Int64) (x7 : Int32), iter (st_X8_reduced f0_empties n0_empty h0_empty x1) n9 (.inr (x3, x5, x7)) = some r0 → ∀ (H : Heap) (locs : List Loc) (ls : Array Slot), va_P D vwCl [(q0, .inr (8, [v0_thrown, v0_n, v0_equations, v0_eSet, v0_eRight, v0_clauses, v0_cYes, v0_cNo, v0_levels, v0_levelEquations, v0_levelClauses, v0_tape, v0_tapeSize, v0_faultIs, v0_faultAt, v0_at, v0_newEquations, v0_newClauses, v0_newSet, v0_newRight, v0_newYes, v0_newNo, v0_lineYes, v0_lineNo, v0_rowCount, v0_rSet, v0_rRight, v0_isImpossible, v0_sumSet, v0_sumOf, v0_sumRight, .ref q0_empty, .int f0_empties, v0_taken, v0_ones, v0_waitTaken, v0_waitOnes, v0_nodeCount, v0_lastModel, v0_modelCount, v0_modelIs, v0_gSet, v0_gateCount])), (q0_empty, .inl (cL, n0_empty, .inr (.inl h0_empty)))] H → va_D A [(q0, .inr (8, [v0_thrown, v0_n, v0_equations, v0_eSet, v0_eRight, v0_clauses, v0_cYes, v0_cNo, v0_levels, v0_levelEquations, v0_levelClauses, v0_tape, v0_tapeSize, v0_faultIs, v0_faultAt, v0_at, v0_newEquations, v0_newClauses, v0_newSet, v0_newRight, v0_newYes, v0_newNo, v0_lineYes, v0_lineNo, v0_rowCount, v0_rSet, v0_rRight, v0_isImpossible, v0_sumSet, v0_sumOf, v0_sumRight, .ref q0_empty, .int f0_empties, v0_taken, v0_ones, v0_waitTaken, v0_waitOnes, v0_nodeCount, v0_lastModel, v0_modelCount, v0_modelIs, v0_gSet, v0_gateCount])), (q0_empty, .inl (cL, n0_empty, .inr (.inl h0_empty)))] → va_S A s.heap H locs → lv_has ls 8 [(0, .ref q0), (3, .long x3), (5, .long x5), (7, .int x7)] → W p l e (headSpec wsX8_reduced rm_X8_reduced).room s m args below meth c H locs 0 0 Q (F0 m 17 ls [])) := by
    intro n9
    induction n9 with
    | zero => exact ⟨fun _ _ h => nomatch h, fun _ _ _ h => nomatch h⟩
    | succ n9 ih =>
      refine ⟨?_, ?_⟩
      · intro x3 x5 h H locs ls hP hD hS hl
        have h : run1 (iter (st_X8_reduced f0_empties n0_empty h0_empty x1) n9) (b_X8_reduced_7 f0_empties n0_empty h0_empty x1 x3 x5) = some r0 := h
        unfold b_X8_reduced_7 at h
        refine lv_lload hx hb dX8_reduced_7 (lv_at hl 2 rfl) ?_
        refine lv_lconst (v := (0 : Int64)) hx hb dX8_reduced_9 (by decide) ?_
        refine W.lcmp hx hb dX8_reduced_10 ?_
        refine lv_if_le (tgt := 76) hx hb dX8_reduced_11 (by decide) (fun c_1 => ?_) (fun c_1 => ?_)
        · have k_2 : x5 ≤ (0 : Int64) := ((lg_cmp_le _ _).mp c_1)
          have h := cw_t k_2 h
          refine lv_lload_n hx hb dX8_reduced_76 rfl (lv_at hl 1 rfl) ?_
          have h := Option.some.inj h
          subst h
          subst hQ
          exact W.lret (v := x3) hx hb hr (fun t ht hW => ⟨⟨x3, (), rfl, ⟨rfl, trivial⟩, by rw [ht]; exact hP, hD⟩, hS.F ht⟩) hS.2.2 dX8_reduced_77
        · have k_2 : ¬ (x5 ≤ (0 : Int64)) := (fun z9 => c_1 ((lg_cmp_le _ _).mpr z9))
          have h := cw_f k_2 h
          refine lv_iconst (v := (0 : Int32)) hx hb dX8_reduced_14 (by decide) ?_
          refine lv_istore (lv' := [(7, .int (0 : Int32)), (0, .ref q0), (3, .long x3), (5, .long x5)]) hx hb dX8_reduced_15 hl (by decide) rfl (fun ls hl => ?_)
          exact ih.2 _ _ _ h _ _ _ hP hD hS (lv_sub hl [1, 2, 3, 0] rfl)
      · intro x3 x5 x7 h H locs ls hP hD hS hl
        have h : run1 (iter (st_X8_reduced f0_empties n0_empty h0_empty x1) n9) (b_X8_reduced_17 f0_empties n0_empty h0_empty x1 x3 x5 x7) = some r0 := h
        unfold b_X8_reduced_17 at h
        refine lv_iload hx hb dX8_reduced_17 (lv_at hl 3 rfl) ?_
        refine lv_aload_n hx hb dX8_reduced_19 rfl (lv_at hl 0 rfl) ?_
        refine va_get (D := D) (ci := 8) (v := .int f0_empties) (C := RX8) (T := TX8) (N := 43) hx hb hts in_X8_reduced_X8 hown hK hP 0 rfl rfl 32 (by decide) lk_1 (fun _ h9 => h9) rfl dX8_reduced_20 ?_
        refine lv_icmp_ge (tgt := 67) hx hb dX8_reduced_23 (by decide) (fun c_3 => ?_) (fun c_3 => ?_)
        · have k_4 : f0_empties ≤ x7 := c_3
          have h := cw_t k_4 h
          refine lv_lload hx hb dX8_reduced_67 (lv_at hl 2 rfl) ?_
          refine lv_iconst (v := (1 : Int32)) hx hb dX8_reduced_69 (by decide) ?_
          refine lv_lshr (v := jshr x5 (1 : Int32)) hx hb dX8_reduced_70 rfl ?_
          refine lv_lstore (lv' := [(5, .long (jshr x5 (1 : Int32))), (0, .ref q0), (3, .long x3), (7, .int x7)]) hx hb dX8_reduced_71 hl (by decide) rfl (fun ls hl => ?_)
          refine lv_goto (tgt := 7) hx hb dX8_reduced_73 (by decide) ?_
          exact ih.1 _ _ h _ _ _ hP hD hS (lv_sub hl [1, 2, 0] rfl)
        · have k_4 : ¬ (f0_empties ≤ x7) := c_3
          have h := cw_f k_4 h
          refine lv_lload_n hx hb dX8_reduced_26 rfl (lv_at hl 1 rfl) ?_
          refine lv_lload hx hb dX8_reduced_27 (lv_at hl 2 rfl) ?_
          refine lv_land hx hb dX8_reduced_29 ?_
          refine lv_lconst (v := (0 : Int64)) hx hb dX8_reduced_30 (by decide) ?_
          refine W.lcmp hx hb dX8_reduced_31 ?_
          refine lv_if_eq (tgt := 67) hx hb dX8_reduced_32 (by decide) (fun c_5 => ?_) (fun c_5 => ?_)
          · have k_6 : (x3 &&& x5) = (0 : Int64) := ((lg_cmp_eq _ _).mp c_5)
            have h := cw_t k_6 h
            refine lv_lload hx hb dX8_reduced_67 (lv_at hl 2 rfl) ?_
            refine lv_iconst (v := (1 : Int32)) hx hb dX8_reduced_69 (by decide) ?_
            refine lv_lshr (v := jshr x5 (1 : Int32)) hx hb dX8_reduced_70 rfl ?_
            refine lv_lstore (lv' := [(5, .long (jshr x5 (1 : Int32))), (0, .ref q0), (3, .long x3), (7, .int x7)]) hx hb dX8_reduced_71 hl (by decide) rfl (fun ls hl => ?_)
            refine lv_goto (tgt := 7) hx hb dX8_reduced_73 (by decide) ?_
            exact ih.1 _ _ h _ _ _ hP hD hS (lv_sub hl [1, 2, 0] rfl)
          · have k_6 : ¬ ((x3 &&& x5) = (0 : Int64)) := (fun z9 => c_5 ((lg_cmp_eq _ _).mpr z9))
            have h := cw_f k_6 h
            refine lv_aload_n hx hb dX8_reduced_35 rfl (lv_at hl 0 rfl) ?_
            refine va_get (D := D) (ci := 8) (v := .ref q0_empty) (C := RX8) (T := TX8) (N := 43) hx hb hts in_X8_reduced_X8 hown hK hP 0 rfl rfl 31 (by decide) lk_2 (fun _ h9 => h9) rfl dX8_reduced_36 ?_
            refine lv_iload hx hb dX8_reduced_39 (lv_at hl 3 rfl) ?_
            obtain ⟨b_7, h⟩ := cw_i h
            refine va_lald hx hb hK hP 1 1 rfl rfl b_7 dX8_reduced_41 ?_
            obtain ⟨u_8, hu_9, h⟩ := cw_b h
            refine kx_l (ws' := fun _ => [(q0, .inr (8, [v0_thrown, v0_n, v0_equations, v0_eSet, v0_eRight, v0_clauses, v0_cYes, v0_cNo, v0_levels, v0_levelEquations, v0_levelClauses, v0_tape, v0_tapeSize, v0_faultIs, v0_faultAt, v0_at, v0_newEquations, v0_newClauses, v0_newSet, v0_newRight, v0_newYes, v0_newNo, v0_lineYes, v0_lineNo, v0_rowCount, v0_rSet, v0_rRight, v0_isImpossible, v0_sumSet, v0_sumOf, v0_sumRight, .ref q0_empty, .int f0_empties, v0_taken, v0_ones, v0_waitTaken, v0_waitOnes, v0_nodeCount, v0_lastModel, v0_modelCount, v0_modelIs, v0_gSet, v0_gateCount])), (q0_empty, .inl (cL, n0_empty, .inr (.inl h0_empty)))]) hP hD hS hA [] [0, 1] [0, 1] rfl (by decide) (by decide) (by decide) (fun _ => rfl) (by decide) (va_runS (As := [.long (h0_empty x7.toNatClampNeg)]) (rest := []) ⟨hx, hb, hml, hown, hts⟩ (cm_X8_highest l D cI cL (x0 := h0_empty x7.toNatClampNeg) (r0 := u_8) (h0 := hu_9) (sz := H.size)) (va_cwS 1 hts gX8_reduced_X8_highest rfl rfl rfl (by decide +kernel) ⟨Nat.le_of_ble_eq_true rfl, Nat.le_of_ble_eq_true rfl⟩) (kx_preS hEV hP hD [] rfl (by decide)) rfl rfl hl.1 rfl (lv_room (Nat.le_of_ble_eq_true rfl)) dX8_reduced_42 ⟨Nat.le_refl _, Nat.le_refl _⟩) (fun _ H locs _ hP hD hS => ?_)
            refine lv_lload hx hb dX8_reduced_45 (lv_at hl 2 rfl) ?_
            refine W.lcmp hx hb dX8_reduced_47 ?_
            refine lv_if_ne (tgt := 61) hx hb dX8_reduced_48 (by decide) (fun c_10 => ?_) (fun c_10 => ?_)
            · have k_11 : ¬ (u_8 = x5) := (fun z9 => c_10 ((lg_cmp_eq _ _).mpr z9))
              have h := cw_f k_11 h
              refine lv_iinc (v := x7 + (1 : Int32)) (lv' := [(7, .int (x7 + (1 : Int32))), (0, .ref q0), (3, .long x3), (5, .long x5)]) hx hb dX8_reduced_61 hl (k := 3) rfl rfl (by decide) rfl (fun ls hl => ?_)
              refine lv_goto (tgt := 17) hx hb dX8_reduced_64 (by decide) ?_
              exact ih.2 _ _ _ h _ _ _ hP hD hS (lv_sub hl [1, 2, 3, 0] rfl)
            · have k_11 : u_8 = x5 := ((lg_cmp_eq _ _).mp c_10)
              have h := cw_t k_11 h
              refine lv_lload_n hx hb dX8_reduced_51 rfl (lv_at hl 1 rfl) ?_
              refine lv_aload_n hx hb dX8_reduced_52 rfl (lv_at hl 0 rfl) ?_
              refine va_get (D := D) (ci := 8) (v := .ref q0_empty) (C := RX8) (T := TX8) (N := 43) hx hb hts in_X8_reduced_X8 hown hK hP 0 rfl rfl 31 (by decide) lk_2 (fun _ h9 => h9) rfl dX8_reduced_53 ?_
              refine lv_iload hx hb dX8_reduced_56 (lv_at hl 3 rfl) ?_
              obtain ⟨b_12, h⟩ := cw_i h
              refine va_lald hx hb hK hP 1 1 rfl rfl b_12 dX8_reduced_58 ?_
              refine lv_lxor hx hb dX8_reduced_59 ?_
              refine lv_lstore_n (lv' := [(3, .long (x3 ^^^ (h0_empty x7.toNatClampNeg))), (0, .ref q0), (5, .long x5), (7, .int x7)]) hx hb dX8_reduced_60 rfl hl (by decide) rfl (fun ls hl => ?_)
              refine lv_iinc (v := x7 + (1 : Int32)) (lv' := [(7, .int (x7 + (1 : Int32))), (3, .long (x3 ^^^ (h0_empty x7.toNatClampNeg))), (0, .ref q0), (5, .long x5)]) hx hb dX8_reduced_61 hl (k := 3) rfl rfl (by decide) rfl (fun ls hl => ?_)
              refine lv_goto (tgt := 17) hx hb dX8_reduced_64 (by decide) ?_
              exact ih.2 _ _ _ h _ _ _ hP hD hS (lv_sub hl [2, 1, 3, 0] rfl)
  have h := h0
  unfold D_X8_reduced at h
  refine lv_lload_n hx hb dX8_reduced_0 rfl (lv_at hl 1 rfl) ?_
  refine lv_lstore_n (lv' := [(3, .long x1), (0, .ref q0), (1, .long x1)]) hx hb dX8_reduced_1 rfl hl (by decide) rfl (fun ls hl => ?_)
  refine lv_ldc2 hx hb hown lk_0 dX8_reduced_2 ?_
  refine lv_lstore (lv' := [(5, .long (1152921504606846976 : Int64)), (3, .long x1), (0, .ref q0), (1, .long x1)]) hx hb dX8_reduced_5 hl (by decide) rfl (fun ls hl => ?_)
  obtain ⟨n9, hn9⟩ := runw_some h
  exact (hloop n9).1 _ _ hn9 _ _ _ hP hD hS (lv_sub hl [2, 1, 0] rfl)
abbrev S_X8_blame : Type := (Int32 × Int64 × Int32 × Int32 × Int32 × (Nat → Int64) × (Nat → Int64) × (Nat → Int32) × (Nat → Int64)) ⊕ (Int32 × Int64 × Int32 × Int64 × Int64 × Int32 × Int32 × Int32 × Int32 × (Nat → Int64) × (Nat → Int64) × (Nat → Int32) × (Nat → Int64))
noncomputable def b_X8_blame_17 (f0_equations : Int32) (n0_eSet : Nat) (h0_eSet : Nat → Int64) (n0_eRight : Nat) (h0_eRight : Nat → Int32) (n0_sumSet : Nat) (n0_sumOf : Nat) (n0_sumRight : Nat) (n0_empty : Nat) (x1 : Int32) (x2 : Int64) (x4 : Int32) (f0_thrown : Int32) (f0_empties : Int32) (h0_sumSet : Nat → Int64) (h0_sumOf : Nat → Int64) (h0_sumRight : Nat → Int32) (h0_empty : Nat → Int64) : Option (Int64 × Int32 × Int32 × (Nat → Int64) × (Nat → Int64) × (Nat → Int32) × (Nat → Int64)) ⊕ S_X8_blame :=
  cif (f0_equations ≤ x4)
    (cif (x2 = (0 : Int64))
      (.inl (some ((0 : Int64), f0_thrown, f0_empties, h0_sumSet, h0_sumOf, h0_sumRight, h0_empty)))
      (sbd (D_X8_reduced f0_empties n0_empty h0_empty x2) (fun u_5 =>
        .inl (some (u_5, f0_thrown, f0_empties, h0_sumSet, h0_sumOf, h0_sumRight, h0_empty)))))
    (cif (vp_in x4 n0_eSet)
      (cif (vp_in x4 n0_eRight)
        (.inr (.inr (x1, x2, x4, h0_eSet x4.toNatClampNeg, jshl (1 : Int64) x4, h0_eRight x4.toNatClampNeg, (0 : Int32), f0_thrown, f0_empties, h0_sumSet, h0_sumOf, h0_sumRight, h0_empty)))
        (.inl none))
      (.inl none))
noncomputable def b_X8_blame_53 (f0_equations : Int32) (n0_eSet : Nat) (h0_eSet : Nat → Int64) (n0_eRight : Nat) (h0_eRight : Nat → Int32) (n0_sumSet : Nat) (n0_sumOf : Nat) (n0_sumRight : Nat) (n0_empty : Nat) (x1 : Int32) (x2 : Int64) (x4 : Int32) (x5 : Int64) (x7 : Int64) (x9 : Int32) (x10 : Int32) (f0_thrown : Int32) (f0_empties : Int32) (h0_sumSet : Nat → Int64) (h0_sumOf : Nat → Int64) (h0_sumRight : Nat → Int32) (h0_empty : Nat → Int64) : Option (Int64 × Int32 × Int32 × (Nat → Int64) × (Nat → Int64) × (Nat → Int32) × (Nat → Int64)) ⊕ S_X8_blame :=
  cif (x1 ≤ x10)
    (cif (x5 = (0 : Int64))
      (cif (x9 = (1 : Int32))
        (cif (x2 = (0 : Int64))
          (.inr (.inl (x1, x7, x4 + (1 : Int32), f0_thrown, f0_empties, h0_sumSet, h0_sumOf, h0_sumRight, h0_empty)))
          (sbd (D_X8_reduced f0_empties n0_empty h0_empty (x7 ^^^ x2)) (fun u_24 =>
            cif (u_24 = (0 : Int64))
              (.inr (.inl (x1, x2, x4 + (1 : Int32), f0_thrown, f0_empties, h0_sumSet, h0_sumOf, h0_sumRight, h0_empty)))
              (cif (vp_in f0_empties n0_empty)
                (.inr (.inl (x1, x2, x4 + (1 : Int32), f0_thrown, f0_empties + (1 : Int32), h0_sumSet, h0_sumOf, h0_sumRight, vp_updL h0_empty f0_empties.toNatClampNeg u_24)))
                (.inl none)))))
        (sbd (D_X8_reduced f0_empties n0_empty h0_empty x7) (fun u_16 =>
          cif (u_16 = (0 : Int64))
            (.inr (.inl (x1, x2, x4 + (1 : Int32), f0_thrown, f0_empties, h0_sumSet, h0_sumOf, h0_sumRight, h0_empty)))
            (cif (vp_in f0_empties n0_empty)
              (.inr (.inl (x1, x2, x4 + (1 : Int32), f0_thrown, f0_empties + (1 : Int32), h0_sumSet, h0_sumOf, h0_sumRight, vp_updL h0_empty f0_empties.toNatClampNeg u_16)))
              (.inl none)))))
      (cif (vp_in x1 n0_sumSet)
        (cif (vp_in x1 n0_sumOf)
          (cif (vp_in x1 n0_sumRight)
            (.inr (.inl (x1 + (1 : Int32), x2, x4 + (1 : Int32), f0_thrown, f0_empties, vp_updL h0_sumSet x1.toNatClampNeg x5, vp_updL h0_sumOf x1.toNatClampNeg x7, upd h0_sumRight x1.toNatClampNeg x9, h0_empty)))
            (.inl none))
          (.inl none))
        (.inl none)))
    (cif (vp_in x10 n0_sumSet)
      (sbd (D_X8_lowest (h0_sumSet x10.toNatClampNeg)) (fun u_33 =>
        cif ((x5 &&& u_33) = (0 : Int64))
          (.inr (.inr (x1, x2, x4, x5, x7, x9, x10 + (1 : Int32), f0_thrown, f0_empties, h0_sumSet, h0_sumOf, h0_sumRight, h0_empty)))
          (cif (vp_in x10 n0_sumSet)
            (cif (vp_in x10 n0_sumOf)
              (cif (vp_in x10 n0_sumRight)
                (.inr (.inr (x1, x2, x4, x5 ^^^ (h0_sumSet x10.toNatClampNeg), x7 ^^^ (h0_sumOf x10.toNatClampNeg), x9 ^^^ (h0_sumRight x10.toNatClampNeg), x10 + (1 : Int32), f0_thrown, f0_empties, h0_sumSet, h0_sumOf, h0_sumRight, h0_empty)))
                (.inl none))
              (.inl none))
            (.inl none))))
      (.inl none))
noncomputable def st_X8_blame (f0_equations : Int32) (n0_eSet : Nat) (h0_eSet : Nat → Int64) (n0_eRight : Nat) (h0_eRight : Nat → Int32) (n0_sumSet : Nat) (n0_sumOf : Nat) (n0_sumRight : Nat) (n0_empty : Nat) : S_X8_blame → Option (Int64 × Int32 × Int32 × (Nat → Int64) × (Nat → Int64) × (Nat → Int32) × (Nat → Int64)) ⊕ S_X8_blame := fun x => match x with
  | .inl (x1, x2, x4, f0_thrown, f0_empties, h0_sumSet, h0_sumOf, h0_sumRight, h0_empty) => b_X8_blame_17 f0_equations n0_eSet h0_eSet n0_eRight h0_eRight n0_sumSet n0_sumOf n0_sumRight n0_empty x1 x2 x4 f0_thrown f0_empties h0_sumSet h0_sumOf h0_sumRight h0_empty
  | .inr (x1, x2, x4, x5, x7, x9, x10, f0_thrown, f0_empties, h0_sumSet, h0_sumOf, h0_sumRight, h0_empty) => b_X8_blame_53 f0_equations n0_eSet h0_eSet n0_eRight h0_eRight n0_sumSet n0_sumOf n0_sumRight n0_empty x1 x2 x4 x5 x7 x9 x10 f0_thrown f0_empties h0_sumSet h0_sumOf h0_sumRight h0_empty
noncomputable def L_X8_blame_17 (f0_equations : Int32) (n0_eSet : Nat) (h0_eSet : Nat → Int64) (n0_eRight : Nat) (h0_eRight : Nat → Int32) (n0_sumSet : Nat) (n0_sumOf : Nat) (n0_sumRight : Nat) (n0_empty : Nat) (x1 : Int32) (x2 : Int64) (x4 : Int32) (f0_thrown : Int32) (f0_empties : Int32) (h0_sumSet : Nat → Int64) (h0_sumOf : Nat → Int64) (h0_sumRight : Nat → Int32) (h0_empty : Nat → Int64) : Option (Int64 × Int32 × Int32 × (Nat → Int64) × (Nat → Int64) × (Nat → Int32) × (Nat → Int64)) := runw (st_X8_blame f0_equations n0_eSet h0_eSet n0_eRight h0_eRight n0_sumSet n0_sumOf n0_sumRight n0_empty) (.inl (x1, x2, x4, f0_thrown, f0_empties, h0_sumSet, h0_sumOf, h0_sumRight, h0_empty))
noncomputable def L_X8_blame_53 (f0_equations : Int32) (n0_eSet : Nat) (h0_eSet : Nat → Int64) (n0_eRight : Nat) (h0_eRight : Nat → Int32) (n0_sumSet : Nat) (n0_sumOf : Nat) (n0_sumRight : Nat) (n0_empty : Nat) (x1 : Int32) (x2 : Int64) (x4 : Int32) (x5 : Int64) (x7 : Int64) (x9 : Int32) (x10 : Int32) (f0_thrown : Int32) (f0_empties : Int32) (h0_sumSet : Nat → Int64) (h0_sumOf : Nat → Int64) (h0_sumRight : Nat → Int32) (h0_empty : Nat → Int64) : Option (Int64 × Int32 × Int32 × (Nat → Int64) × (Nat → Int64) × (Nat → Int32) × (Nat → Int64)) := runw (st_X8_blame f0_equations n0_eSet h0_eSet n0_eRight h0_eRight n0_sumSet n0_sumOf n0_sumRight n0_empty) (.inr (x1, x2, x4, x5, x7, x9, x10, f0_thrown, f0_empties, h0_sumSet, h0_sumOf, h0_sumRight, h0_empty))
theorem E_X8_blame_17 (f0_equations : Int32) (n0_eSet : Nat) (h0_eSet : Nat → Int64) (n0_eRight : Nat) (h0_eRight : Nat → Int32) (n0_sumSet : Nat) (n0_sumOf : Nat) (n0_sumRight : Nat) (n0_empty : Nat) (x1 : Int32) (x2 : Int64) (x4 : Int32) (f0_thrown : Int32) (f0_empties : Int32) (h0_sumSet : Nat → Int64) (h0_sumOf : Nat → Int64) (h0_sumRight : Nat → Int32) (h0_empty : Nat → Int64) : L_X8_blame_17 f0_equations n0_eSet h0_eSet n0_eRight h0_eRight n0_sumSet n0_sumOf n0_sumRight n0_empty x1 x2 x4 f0_thrown f0_empties h0_sumSet h0_sumOf h0_sumRight h0_empty =
    cif (f0_equations ≤ x4)
      (cif (x2 = (0 : Int64))
        (some ((0 : Int64), f0_thrown, f0_empties, h0_sumSet, h0_sumOf, h0_sumRight, h0_empty))
        (Option.bind (D_X8_reduced f0_empties n0_empty h0_empty x2) (fun u_5 =>
          some (u_5, f0_thrown, f0_empties, h0_sumSet, h0_sumOf, h0_sumRight, h0_empty))))
      (cif (vp_in x4 n0_eSet)
        (cif (vp_in x4 n0_eRight)
          (L_X8_blame_53 f0_equations n0_eSet h0_eSet n0_eRight h0_eRight n0_sumSet n0_sumOf n0_sumRight n0_empty x1 x2 x4 (h0_eSet x4.toNatClampNeg) (jshl (1 : Int64) x4) (h0_eRight x4.toNatClampNeg) (0 : Int32) f0_thrown f0_empties h0_sumSet h0_sumOf h0_sumRight h0_empty)
          (none))
        (none)) := by
  show runw (st_X8_blame f0_equations n0_eSet h0_eSet n0_eRight h0_eRight n0_sumSet n0_sumOf n0_sumRight n0_empty) (.inl (x1, x2, x4, f0_thrown, f0_empties, h0_sumSet, h0_sumOf, h0_sumRight, h0_empty)) = _
  rw [runw_eq]
  show run1 _ (b_X8_blame_17 f0_equations n0_eSet h0_eSet n0_eRight h0_eRight n0_sumSet n0_sumOf n0_sumRight n0_empty x1 x2 x4 f0_thrown f0_empties h0_sumSet h0_sumOf h0_sumRight h0_empty) = _
  simp only [b_X8_blame_17, run1_cif, run1_sbd, run1_inl, run1_inr]
  try rfl
theorem E_X8_blame_53 (f0_equations : Int32) (n0_eSet : Nat) (h0_eSet : Nat → Int64) (n0_eRight : Nat) (h0_eRight : Nat → Int32) (n0_sumSet : Nat) (n0_sumOf : Nat) (n0_sumRight : Nat) (n0_empty : Nat) (x1 : Int32) (x2 : Int64) (x4 : Int32) (x5 : Int64) (x7 : Int64) (x9 : Int32) (x10 : Int32) (f0_thrown : Int32) (f0_empties : Int32) (h0_sumSet : Nat → Int64) (h0_sumOf : Nat → Int64) (h0_sumRight : Nat → Int32) (h0_empty : Nat → Int64) : L_X8_blame_53 f0_equations n0_eSet h0_eSet n0_eRight h0_eRight n0_sumSet n0_sumOf n0_sumRight n0_empty x1 x2 x4 x5 x7 x9 x10 f0_thrown f0_empties h0_sumSet h0_sumOf h0_sumRight h0_empty =
    cif (x1 ≤ x10)
      (cif (x5 = (0 : Int64))
        (cif (x9 = (1 : Int32))
          (cif (x2 = (0 : Int64))
            (L_X8_blame_17 f0_equations n0_eSet h0_eSet n0_eRight h0_eRight n0_sumSet n0_sumOf n0_sumRight n0_empty x1 x7 (x4 + (1 : Int32)) f0_thrown f0_empties h0_sumSet h0_sumOf h0_sumRight h0_empty)
            (Option.bind (D_X8_reduced f0_empties n0_empty h0_empty (x7 ^^^ x2)) (fun u_24 =>
              cif (u_24 = (0 : Int64))
                (L_X8_blame_17 f0_equations n0_eSet h0_eSet n0_eRight h0_eRight n0_sumSet n0_sumOf n0_sumRight n0_empty x1 x2 (x4 + (1 : Int32)) f0_thrown f0_empties h0_sumSet h0_sumOf h0_sumRight h0_empty)
                (cif (vp_in f0_empties n0_empty)
                  (L_X8_blame_17 f0_equations n0_eSet h0_eSet n0_eRight h0_eRight n0_sumSet n0_sumOf n0_sumRight n0_empty x1 x2 (x4 + (1 : Int32)) f0_thrown (f0_empties + (1 : Int32)) h0_sumSet h0_sumOf h0_sumRight (vp_updL h0_empty f0_empties.toNatClampNeg u_24))
                  (none)))))
          (Option.bind (D_X8_reduced f0_empties n0_empty h0_empty x7) (fun u_16 =>
            cif (u_16 = (0 : Int64))
              (L_X8_blame_17 f0_equations n0_eSet h0_eSet n0_eRight h0_eRight n0_sumSet n0_sumOf n0_sumRight n0_empty x1 x2 (x4 + (1 : Int32)) f0_thrown f0_empties h0_sumSet h0_sumOf h0_sumRight h0_empty)
              (cif (vp_in f0_empties n0_empty)
                (L_X8_blame_17 f0_equations n0_eSet h0_eSet n0_eRight h0_eRight n0_sumSet n0_sumOf n0_sumRight n0_empty x1 x2 (x4 + (1 : Int32)) f0_thrown (f0_empties + (1 : Int32)) h0_sumSet h0_sumOf h0_sumRight (vp_updL h0_empty f0_empties.toNatClampNeg u_16))
                (none)))))
        (cif (vp_in x1 n0_sumSet)
          (cif (vp_in x1 n0_sumOf)
            (cif (vp_in x1 n0_sumRight)
              (L_X8_blame_17 f0_equations n0_eSet h0_eSet n0_eRight h0_eRight n0_sumSet n0_sumOf n0_sumRight n0_empty (x1 + (1 : Int32)) x2 (x4 + (1 : Int32)) f0_thrown f0_empties (vp_updL h0_sumSet x1.toNatClampNeg x5) (vp_updL h0_sumOf x1.toNatClampNeg x7) (upd h0_sumRight x1.toNatClampNeg x9) h0_empty)
              (none))
            (none))
          (none)))
      (cif (vp_in x10 n0_sumSet)
        (Option.bind (D_X8_lowest (h0_sumSet x10.toNatClampNeg)) (fun u_33 =>
          cif ((x5 &&& u_33) = (0 : Int64))
            (L_X8_blame_53 f0_equations n0_eSet h0_eSet n0_eRight h0_eRight n0_sumSet n0_sumOf n0_sumRight n0_empty x1 x2 x4 x5 x7 x9 (x10 + (1 : Int32)) f0_thrown f0_empties h0_sumSet h0_sumOf h0_sumRight h0_empty)
            (cif (vp_in x10 n0_sumSet)
              (cif (vp_in x10 n0_sumOf)
                (cif (vp_in x10 n0_sumRight)
                  (L_X8_blame_53 f0_equations n0_eSet h0_eSet n0_eRight h0_eRight n0_sumSet n0_sumOf n0_sumRight n0_empty x1 x2 x4 (x5 ^^^ (h0_sumSet x10.toNatClampNeg)) (x7 ^^^ (h0_sumOf x10.toNatClampNeg)) (x9 ^^^ (h0_sumRight x10.toNatClampNeg)) (x10 + (1 : Int32)) f0_thrown f0_empties h0_sumSet h0_sumOf h0_sumRight h0_empty)
                  (none))
                (none))
              (none))))
        (none)) := by
  show runw (st_X8_blame f0_equations n0_eSet h0_eSet n0_eRight h0_eRight n0_sumSet n0_sumOf n0_sumRight n0_empty) (.inr (x1, x2, x4, x5, x7, x9, x10, f0_thrown, f0_empties, h0_sumSet, h0_sumOf, h0_sumRight, h0_empty)) = _
  rw [runw_eq]
  show run1 _ (b_X8_blame_53 f0_equations n0_eSet h0_eSet n0_eRight h0_eRight n0_sumSet n0_sumOf n0_sumRight n0_empty x1 x2 x4 x5 x7 x9 x10 f0_thrown f0_empties h0_sumSet h0_sumOf h0_sumRight h0_empty) = _
  simp only [b_X8_blame_53, run1_cif, run1_sbd, run1_inl, run1_inr]
  try rfl
noncomputable def D_X8_blame (f0_thrown : Int32) (f0_equations : Int32) (f0_empties : Int32) (n0_eSet : Nat) (h0_eSet : Nat → Int64) (n0_eRight : Nat) (h0_eRight : Nat → Int32) (n0_sumSet : Nat) (h0_sumSet : Nat → Int64) (n0_sumOf : Nat) (h0_sumOf : Nat → Int64) (n0_sumRight : Nat) (h0_sumRight : Nat → Int32) (n0_empty : Nat) (h0_empty : Nat → Int64) : Option (Int64 × Int32 × Int32 × (Nat → Int64) × (Nat → Int64) × (Nat → Int32) × (Nat → Int64)) :=
  L_X8_blame_17 f0_equations n0_eSet h0_eSet n0_eRight h0_eRight n0_sumSet n0_sumOf n0_sumRight n0_empty (0 : Int32) (0 : Int64) (0 : Int32) (0 : Int32) (0 : Int32) h0_sumSet h0_sumOf h0_sumRight h0_empty
theorem in_X8_blame_X8 : ∀ w ∈ wsX80, w ∈ wsX8_blame := by decide +kernel
theorem lk_0_X8_blame : Cond.fieldLink RX8 81 "ParityClausesModel" "thrown" "I" ∈ wsX8_blame := by decide +kernel
theorem lk_1_X8_blame : Cond.fieldLink RX8 203 "ParityClausesModel" "empties" "I" ∈ wsX8_blame := by decide +kernel
theorem lk_2_X8_blame : Cond.fieldLink RX8 98 "ParityClausesModel" "equations" "I" ∈ wsX8_blame := by decide +kernel
theorem lk_3_X8_blame : Cond.fieldLink RX8 7 "ParityClausesModel" "eSet" "[J" ∈ wsX8_blame := by decide +kernel
theorem lk_4_X8_blame : Cond.fieldLink RX8 13 "ParityClausesModel" "eRight" "[I" ∈ wsX8_blame := by decide +kernel
theorem lk_5_X8_blame : Cond.fieldLink RX8 59 "ParityClausesModel" "empty" "[J" ∈ wsX8_blame := by decide +kernel
theorem lk_6_X8_blame : Cond.fieldLink RX8 50 "ParityClausesModel" "sumSet" "[J" ∈ wsX8_blame := by decide +kernel
theorem lk_7_X8_blame : Cond.fieldLink RX8 53 "ParityClausesModel" "sumOf" "[J" ∈ wsX8_blame := by decide +kernel
theorem lk_8_X8_blame : Cond.fieldLink RX8 56 "ParityClausesModel" "sumRight" "[I" ∈ wsX8_blame := by decide +kernel
abbrev rm_X8_blame : Room := { frames := 2, cells := 0, slots := 0, locals := 50 }
set_option maxHeartbeats 4000000 in
set_option maxRecDepth 100000 in
theorem cm_X8_blame (l : Launch) (D : va_G) (cI cL : ClassId) (q0 q0_eSet q0_eRight q0_sumSet q0_sumOf q0_sumRight q0_empty : Nat) (n0_eSet n0_eRight n0_sumSet n0_sumOf n0_sumRight n0_empty : Nat) (f0_thrown : Int32) (f0_equations : Int32) (f0_empties : Int32) (h0_eSet : Nat → Int64) (h0_eRight : Nat → Int32) (h0_sumSet : Nat → Int64) (h0_sumOf : Nat → Int64) (h0_sumRight : Nat → Int32) (h0_empty : Nat → Int64) (v0_n v0_clauses v0_cYes v0_cNo v0_levels v0_levelEquations v0_levelClauses v0_tape v0_tapeSize v0_faultIs v0_faultAt v0_at v0_newEquations v0_newClauses v0_newSet v0_newRight v0_newYes v0_newNo v0_lineYes v0_lineNo v0_rowCount v0_rSet v0_rRight v0_isImpossible v0_taken v0_ones v0_waitTaken v0_waitOnes v0_nodeCount v0_lastModel v0_modelCount v0_modelIs v0_gSet v0_gateCount : Value) (r0 : Int64 × Int32 × Int32 × (Nat → Int64) × (Nat → Int64) × (Nat → Int32) × (Nat → Int64)) (h0 : D_X8_blame f0_thrown f0_equations f0_empties n0_eSet h0_eSet n0_eRight h0_eRight n0_sumSet h0_sumSet n0_sumOf h0_sumOf n0_sumRight h0_sumRight n0_empty h0_empty = some r0) (sz : Nat) : Met l yX8_blame wsX8_blame rm_X8_blame (PcW D cI cL [.ref q0] [(q0, .inr (8, [.int f0_thrown, v0_n, .int f0_equations, .ref q0_eSet, .ref q0_eRight, v0_clauses, v0_cYes, v0_cNo, v0_levels, v0_levelEquations, v0_levelClauses, v0_tape, v0_tapeSize, v0_faultIs, v0_faultAt, v0_at, v0_newEquations, v0_newClauses, v0_newSet, v0_newRight, v0_newYes, v0_newNo, v0_lineYes, v0_lineNo, v0_rowCount, v0_rSet, v0_rRight, v0_isImpossible, .ref q0_sumSet, .ref q0_sumOf, .ref q0_sumRight, .ref q0_empty, .int f0_empties, v0_taken, v0_ones, v0_waitTaken, v0_waitOnes, v0_nodeCount, v0_lastModel, v0_modelCount, v0_modelIs, v0_gSet, v0_gateCount])), (q0_eSet, .inl (cL, n0_eSet, .inr (.inl h0_eSet))), (q0_eRight, .inl (cI, n0_eRight, .inl h0_eRight)), (q0_sumSet, .inl (cL, n0_sumSet, .inr (.inl h0_sumSet))), (q0_sumOf, .inl (cL, n0_sumOf, .inr (.inl h0_sumOf))), (q0_sumRight, .inl (cI, n0_sumRight, .inl h0_sumRight)), (q0_empty, .inl (cL, n0_empty, .inr (.inl h0_empty)))] sz) (QlW D [(q0, .inr (8, [.int f0_thrown, v0_n, .int f0_equations, .ref q0_eSet, .ref q0_eRight, v0_clauses, v0_cYes, v0_cNo, v0_levels, v0_levelEquations, v0_levelClauses, v0_tape, v0_tapeSize, v0_faultIs, v0_faultAt, v0_at, v0_newEquations, v0_newClauses, v0_newSet, v0_newRight, v0_newYes, v0_newNo, v0_lineYes, v0_lineNo, v0_rowCount, v0_rSet, v0_rRight, v0_isImpossible, .ref q0_sumSet, .ref q0_sumOf, .ref q0_sumRight, .ref q0_empty, .int f0_empties, v0_taken, v0_ones, v0_waitTaken, v0_waitOnes, v0_nodeCount, v0_lastModel, v0_modelCount, v0_modelIs, v0_gSet, v0_gateCount])), (q0_eSet, .inl (cL, n0_eSet, .inr (.inl h0_eSet))), (q0_eRight, .inl (cI, n0_eRight, .inl h0_eRight)), (q0_sumSet, .inl (cL, n0_sumSet, .inr (.inl h0_sumSet))), (q0_sumOf, .inl (cL, n0_sumOf, .inr (.inl h0_sumOf))), (q0_sumRight, .inl (cI, n0_sumRight, .inl h0_sumRight)), (q0_empty, .inl (cL, n0_empty, .inr (.inl h0_empty)))] r0.1 (fun _ : Unit => [(q0, .inr (8, [.int r0.2.1, v0_n, .int f0_equations, .ref q0_eSet, .ref q0_eRight, v0_clauses, v0_cYes, v0_cNo, v0_levels, v0_levelEquations, v0_levelClauses, v0_tape, v0_tapeSize, v0_faultIs, v0_faultAt, v0_at, v0_newEquations, v0_newClauses, v0_newSet, v0_newRight, v0_newYes, v0_newNo, v0_lineYes, v0_lineNo, v0_rowCount, v0_rSet, v0_rRight, v0_isImpossible, .ref q0_sumSet, .ref q0_sumOf, .ref q0_sumRight, .ref q0_empty, .int r0.2.2.1, v0_taken, v0_ones, v0_waitTaken, v0_waitOnes, v0_nodeCount, v0_lastModel, v0_modelCount, v0_modelIs, v0_gSet, v0_gateCount])), (q0_eSet, .inl (cL, n0_eSet, .inr (.inl h0_eSet))), (q0_eRight, .inl (cI, n0_eRight, .inl h0_eRight)), (q0_sumSet, .inl (cL, n0_sumSet, .inr (.inl r0.2.2.2.1))), (q0_sumOf, .inl (cL, n0_sumOf, .inr (.inl r0.2.2.2.2.1))), (q0_sumRight, .inl (cI, n0_sumRight, .inl r0.2.2.2.2.2.1)), (q0_empty, .inl (cL, n0_empty, .inr (.inl r0.2.2.2.2.2.2)))]) tU sz) 0 0 (va_A [(q0, .inr (8, [.int f0_thrown, v0_n, .int f0_equations, .ref q0_eSet, .ref q0_eRight, v0_clauses, v0_cYes, v0_cNo, v0_levels, v0_levelEquations, v0_levelClauses, v0_tape, v0_tapeSize, v0_faultIs, v0_faultAt, v0_at, v0_newEquations, v0_newClauses, v0_newSet, v0_newRight, v0_newYes, v0_newNo, v0_lineYes, v0_lineNo, v0_rowCount, v0_rSet, v0_rRight, v0_isImpossible, .ref q0_sumSet, .ref q0_sumOf, .ref q0_sumRight, .ref q0_empty, .int f0_empties, v0_taken, v0_ones, v0_waitTaken, v0_waitOnes, v0_nodeCount, v0_lastModel, v0_modelCount, v0_modelIs, v0_gSet, v0_gateCount])), (q0_eSet, .inl (cL, n0_eSet, .inr (.inl h0_eSet))), (q0_eRight, .inl (cI, n0_eRight, .inl h0_eRight)), (q0_sumSet, .inl (cL, n0_sumSet, .inr (.inl h0_sumSet))), (q0_sumOf, .inl (cL, n0_sumOf, .inr (.inl h0_sumOf))), (q0_sumRight, .inl (cI, n0_sumRight, .inl h0_sumRight)), (q0_empty, .inl (cL, n0_empty, .inr (.inl h0_empty)))] sz) := by
  refine Met.ofW (cc := cX8_blame) (maxL := 12) (ret := (some .long)) (by decide) rfl ?_
  intro p e s m args below meth c s₁ B hml hv
  obtain ⟨hargs, hsz, hP, hEV, hD0⟩ := hv
  have hx := B.exec
  have hb := B.bytes
  have hr := B.returns
  have hts := atoms_spec (ws := wsX8_blame) B.pre
  have hown : s.vm.findClass RX8 = some m.cls := findClass_of_methodNamed B.named
  have hlocks := B.notSynchronized
  have hK := hEV.K
  have lk_0 := hts _ lk_0_X8_blame
  have lk_1 := hts _ lk_1_X8_blame
  have lk_2 := hts _ lk_2_X8_blame
  have lk_3 := hts _ lk_3_X8_blame
  have lk_4 := hts _ lk_4_X8_blame
  have lk_5 := hts _ lk_5_X8_blame
  have lk_6 := hts _ lk_6_X8_blame
  have lk_7 := hts _ lk_7_X8_blame
  have lk_8 := hts _ lk_8_X8_blame
  subst hsz
  unfold QlW PoW
  have hD := hD0.self (sz := s.heap.size)
  generalize hAe : va_A [(q0, .inr (8, [.int f0_thrown, v0_n, .int f0_equations, .ref q0_eSet, .ref q0_eRight, v0_clauses, v0_cYes, v0_cNo, v0_levels, v0_levelEquations, v0_levelClauses, v0_tape, v0_tapeSize, v0_faultIs, v0_faultAt, v0_at, v0_newEquations, v0_newClauses, v0_newSet, v0_newRight, v0_newYes, v0_newNo, v0_lineYes, v0_lineNo, v0_rowCount, v0_rSet, v0_rRight, v0_isImpossible, .ref q0_sumSet, .ref q0_sumOf, .ref q0_sumRight, .ref q0_empty, .int f0_empties, v0_taken, v0_ones, v0_waitTaken, v0_waitOnes, v0_nodeCount, v0_lastModel, v0_modelCount, v0_modelIs, v0_gSet, v0_gateCount])), (q0_eSet, .inl (cL, n0_eSet, .inr (.inl h0_eSet))), (q0_eRight, .inl (cI, n0_eRight, .inl h0_eRight)), (q0_sumSet, .inl (cL, n0_sumSet, .inr (.inl h0_sumSet))), (q0_sumOf, .inl (cL, n0_sumOf, .inr (.inl h0_sumOf))), (q0_sumRight, .inl (cI, n0_sumRight, .inl h0_sumRight)), (q0_empty, .inl (cL, n0_empty, .inr (.inl h0_empty)))] s.heap.size = A at hD ⊢
  have hA : ∀ q : Nat, s.heap.size ≤ q → A q := fun q h => by rw [← hAe]; exact Or.inr h
  have hS : va_S A s.heap s.heap [] := va_S.rf
  have hent : entryFrame m args 12 = entryFrame m ([.ref q0] : List Value).toArray 12 := by rw [hargs]
  rw [hent]
  refine kx_Q (fun Q hQ => ?_)
  have hl := lv_entry ([.ref q0]) (n := 12) (Nat.le_of_ble_eq_true rfl)
  rw [lg_entry_eq]
  generalize (lg_sl ([.ref q0]) ++ List.replicate (12 - (lg_sl ([.ref q0])).length) Slot.unset).toArray = ls at hl ⊢
  have hl : lv_has ls 12 [(0, .ref q0)] := hl
  have hloop : ∀ n9 : Nat, (∀ (x1 : Int32) (x2 : Int64) (x4 : Int32) (f0_thrown : Int32) (f0_empties : Int32) (h0_sumSet : Nat → Int64) (h0_sumOf : Nat → Int64) (h0_sumRight : Nat → Int32) (h0_empty : Nat → Int64), iter (st_X8_blame f0_equations n0_eSet h0_eSet n0_eRight h0_eRight n0_sumSet n0_sumOf n0_sumRight n0_empty) n9 (.inl (x1, x2, x4, f0_thrown, f0_empties, h0_sumSet, h0_sumOf, h0_sumRight, h0_empty)) = some r0 → ∀ (H : Heap) (locs : List Loc) (ls : Array Slot), va_P D vwCl [(q0, .inr (8, [.int f0_thrown, v0_n, .int f0_equations, .ref q0_eSet, .ref q0_eRight, v0_clauses, v0_cYes, v0_cNo, v0_levels, v0_levelEquations, v0_levelClauses, v0_tape, v0_tapeSize, v0_faultIs, v0_faultAt, v0_at, v0_newEquations, v0_newClauses, v0_newSet, v0_newRight, v0_newYes, v0_newNo, v0_lineYes, v0_lineNo, v0_rowCount, v0_rSet, v0_rRight, v0_isImpossible, .ref q0_sumSet, .ref q0_sumOf, .ref q0_sumRight, .ref q0_empty, .int f0_empties, v0_taken, v0_ones, v0_waitTaken, v0_waitOnes, v0_nodeCount, v0_lastModel, v0_modelCount, v0_modelIs, v0_gSet, v0_gateCount])), (q0_eSet, .inl (cL, n0_eSet, .inr (.inl h0_eSet))), (q0_eRight, .inl (cI, n0_eRight, .inl h0_eRight)), (q0_sumSet, .inl (cL, n0_sumSet, .inr (.inl h0_sumSet))), (q0_sumOf, .inl (cL, n0_sumOf, .inr (.inl h0_sumOf))), (q0_sumRight, .inl (cI, n0_sumRight, .inl h0_sumRight)), (q0_empty, .inl (cL, n0_empty, .inr (.inl h0_empty)))] H → va_D A [(q0, .inr (8, [.int f0_thrown, v0_n, .int f0_equations, .ref q0_eSet, .ref q0_eRight, v0_clauses, v0_cYes, v0_cNo, v0_levels, v0_levelEquations, v0_levelClauses, v0_tape, v0_tapeSize, v0_faultIs, v0_faultAt, v0_at, v0_newEquations, v0_newClauses, v0_newSet, v0_newRight, v0_newYes, v0_newNo, v0_lineYes, v0_lineNo, v0_rowCount, v0_rSet, v0_rRight, v0_isImpossible, .ref q0_sumSet, .ref q0_sumOf, .ref q0_sumRight, .ref q0_empty, .int f0_empties, v0_taken, v0_ones, v0_waitTaken, v0_waitOnes, v0_nodeCount, v0_lastModel, v0_modelCount, v0_modelIs, v0_gSet, v0_gateCount])), (q0_eSet, .inl (cL, n0_eSet, .inr (.inl h0_eSet))), (q0_eRight, .inl (cI, n0_eRight, .inl h0_eRight)), (q0_sumSet, .inl (cL, n0_sumSet, .inr (.inl h0_sumSet))), (q0_sumOf, .inl (cL, n0_sumOf, .inr (.inl h0_sumOf))), (q0_sumRight, .inl (cI, n0_sumRight, .inl h0_sumRight)), (q0_empty, .inl (cL, n0_empty, .inr (.inl h0_empty)))] → va_S A s.heap H locs → lv_has ls 12 [(0, .ref q0), (1, .int x1), (2, .long x2), (4, .int x4)] → W p l e (headSpec wsX8_blame rm_X8_blame).room s m args below meth c H locs 0 0 Q (F0 m 17 ls [])) ∧ (∀ (x1 : Int32) (x2 : Int64) (x4 : Int32) (x5 : Int64) (x7 : Int64) (x9 : Int32) (x10 : Int32) (f0_thrown : Int32) (f0_empties : Int32) (h0_sumSet : Nat → Int64) (h0_sumOf : Nat → Int64) (h0_sumRight : Nat → Int32) (h0_empty : Nat → Int64), iter (st_X8_blame f0_equations n0_eSet h0_eSet n0_eRight h0_eRight n0_sumSet n0_sumOf n0_sumRight n0_empty) n9 (.inr (x1, x2, x4, x5, x7, x9, x10, f0_thrown, f0_empties, h0_sumSet, h0_sumOf, h0_sumRight, h0_empty)) = some r0 → ∀ (H : Heap) (locs : List Loc) (ls : Array Slot), va_P D vwCl [(q0, .inr (8, [.int f0_thrown, v0_n, .int f0_equations, .ref q0_eSet, .ref q0_eRight, v0_clauses, v0_cYes, v0_cNo, v0_levels, v0_levelEquations, v0_levelClauses, v0_tape, v0_tapeSize, v0_faultIs, v0_faultAt, v0_at, v0_newEquations, v0_newClauses, v0_newSet, v0_newRight, v0_newYes, v0_newNo, v0_lineYes, v0_lineNo, v0_rowCount, v0_rSet, v0_rRight, v0_isImpossible, .ref q0_sumSet, .ref q0_sumOf, .ref q0_sumRight, .ref q0_empty, .int f0_empties, v0_taken, v0_ones, v0_waitTaken, v0_waitOnes, v0_nodeCount, v0_lastModel, v0_modelCount, v0_modelIs, v0_gSet, v0_gateCount])), (q0_eSet, .inl (cL, n0_eSet, .inr (.inl h0_eSet))), (q0_eRight, .inl (cI, n0_eRight, .inl h0_eRight)), (q0_sumSet, .inl (cL, n0_sumSet, .inr (.inl h0_sumSet))), (q0_sumOf, .inl (cL, n0_sumOf, .inr (.inl h0_sumOf))), (q0_sumRight, .inl (cI, n0_sumRight, .inl h0_sumRight)), (q0_empty, .inl (cL, n0_empty, .inr (.inl h0_empty)))] H → va_D A [(q0, .inr (8, [.int f0_thrown, v0_n, .int f0_equations, .ref q0_eSet, .ref q0_eRight, v0_clauses, v0_cYes, v0_cNo, v0_levels, v0_levelEquations, v0_levelClauses, v0_tape, v0_tapeSize, v0_faultIs, v0_faultAt, v0_at, v0_newEquations, v0_newClauses, v0_newSet, v0_newRight, v0_newYes, v0_newNo, v0_lineYes, v0_lineNo, v0_rowCount, v0_rSet, v0_rRight, v0_isImpossible, .ref q0_sumSet, .ref q0_sumOf, .ref q0_sumRight, .ref q0_empty, .int f0_empties, v0_taken, v0_ones, v0_waitTaken, v0_waitOnes, v0_nodeCount, v0_lastModel, v0_modelCount, v0_modelIs, v0_gSet, v0_gateCount])), (q0_eSet, .inl (cL, n0_eSet, .inr (.inl h0_eSet))), (q0_eRight, .inl (cI, n0_eRight, .inl h0_eRight)), (q0_sumSet, .inl (cL, n0_sumSet, .inr (.inl h0_sumSet))), (q0_sumOf, .inl (cL, n0_sumOf, .inr (.inl h0_sumOf))), (q0_sumRight, .inl (cI, n0_sumRight, .inl h0_sumRight)), (q0_empty, .inl (cL, n0_empty, .inr (.inl h0_empty)))] → va_S A s.heap H locs → lv_has ls 12 [(0, .ref q0), (1, .int x1), (2, .long x2), (4, .int x4), (5, .long x5), (7, .long x7), (9, .int x9), (10, .int x10)] → W p l e (headSpec wsX8_blame rm_X8_blame).room s m args below meth c H locs 0 0 Q (F0 m 53 ls [])) := by
    intro n9
    induction n9 with
    | zero => exact ⟨fun _ _ _ _ _ _ _ _ _ h => nomatch h, fun _ _ _ _ _ _ _ _ _ _ _ _ _ h => nomatch h⟩
    | succ n9 ih =>
      refine ⟨?_, ?_⟩
      · intro x1 x2 x4 f0_thrown f0_empties h0_sumSet h0_sumOf h0_sumRight h0_empty h H locs ls hP hD hS hl
        have h : run1 (iter (st_X8_blame f0_equations n0_eSet h0_eSet n0_eRight h0_eRight n0_sumSet n0_sumOf n0_sumRight n0_empty) n9) (b_X8_blame_17 f0_equations n0_eSet h0_eSet n0_eRight h0_eRight n0_sumSet n0_sumOf n0_sumRight n0_empty x1 x2 x4 f0_thrown f0_empties h0_sumSet h0_sumOf h0_sumRight h0_empty) = some r0 := h
        unfold b_X8_blame_17 at h
        refine lv_iload hx hb dX8_blame_17 (lv_at hl 3 rfl) ?_
        refine lv_aload_n hx hb dX8_blame_19 rfl (lv_at hl 0 rfl) ?_
        refine va_get (D := D) (ci := 8) (v := .int f0_equations) (C := RX8) (T := TX8) (N := 43) hx hb hts in_X8_blame_X8 hown hK hP 0 rfl rfl 2 (by decide) lk_2 (fun _ h9 => h9) rfl dX8_blame_20 ?_
        refine lv_icmp_ge (tgt := 229) hx hb dX8_blame_23 (by decide) (fun c_1 => ?_) (fun c_1 => ?_)
        · have k_2 : f0_equations ≤ x4 := c_1
          have h := cw_t k_2 h
          refine lv_lload_n hx hb dX8_blame_229 rfl (lv_at hl 2 rfl) ?_
          refine lv_lconst (v := (0 : Int64)) hx hb dX8_blame_230 (by decide) ?_
          refine W.lcmp hx hb dX8_blame_231 ?_
          refine lv_if_ne (tgt := 239) hx hb dX8_blame_232 (by decide) (fun c_3 => ?_) (fun c_3 => ?_)
          · have k_4 : ¬ (x2 = (0 : Int64)) := (fun z9 => c_3 ((lg_cmp_eq _ _).mpr z9))
            have h := cw_f k_4 h
            refine lv_aload_n hx hb dX8_blame_239 rfl (lv_at hl 0 rfl) ?_
            refine lv_lload_n hx hb dX8_blame_240 rfl (lv_at hl 2 rfl) ?_
            obtain ⟨u_5, hu_6, h⟩ := cw_b h
            refine kx_l (ws' := fun _ => [(q0, .inr (8, [.int f0_thrown, v0_n, .int f0_equations, .ref q0_eSet, .ref q0_eRight, v0_clauses, v0_cYes, v0_cNo, v0_levels, v0_levelEquations, v0_levelClauses, v0_tape, v0_tapeSize, v0_faultIs, v0_faultAt, v0_at, v0_newEquations, v0_newClauses, v0_newSet, v0_newRight, v0_newYes, v0_newNo, v0_lineYes, v0_lineNo, v0_rowCount, v0_rSet, v0_rRight, v0_isImpossible, .ref q0_sumSet, .ref q0_sumOf, .ref q0_sumRight, .ref q0_empty, .int f0_empties, v0_taken, v0_ones, v0_waitTaken, v0_waitOnes, v0_nodeCount, v0_lastModel, v0_modelCount, v0_modelIs, v0_gSet, v0_gateCount])), (q0_eSet, .inl (cL, n0_eSet, .inr (.inl h0_eSet))), (q0_eRight, .inl (cI, n0_eRight, .inl h0_eRight)), (q0_sumSet, .inl (cL, n0_sumSet, .inr (.inl h0_sumSet))), (q0_sumOf, .inl (cL, n0_sumOf, .inr (.inl h0_sumOf))), (q0_sumRight, .inl (cI, n0_sumRight, .inl h0_sumRight)), (q0_empty, .inl (cL, n0_empty, .inr (.inl h0_empty)))]) hP hD hS hA [0, 6] [1, 2, 3, 4, 5] [5, 0, 1, 2, 3, 4, 6] rfl (by decide) (by decide) (by decide) (fun _ => rfl) (by decide) (va_runV (As := [.long x2]) (rest := []) ⟨hx, hb, hml, hown, hts⟩ (cm_X8_reduced l D cI cL (q0 := q0) (q0_empty := q0_empty) (n0_empty := n0_empty) (f0_empties := f0_empties) (h0_empty := h0_empty) (v0_thrown := .int f0_thrown) (v0_n := v0_n) (v0_equations := .int f0_equations) (v0_eSet := .ref q0_eSet) (v0_eRight := .ref q0_eRight) (v0_clauses := v0_clauses) (v0_cYes := v0_cYes) (v0_cNo := v0_cNo) (v0_levels := v0_levels) (v0_levelEquations := v0_levelEquations) (v0_levelClauses := v0_levelClauses) (v0_tape := v0_tape) (v0_tapeSize := v0_tapeSize) (v0_faultIs := v0_faultIs) (v0_faultAt := v0_faultAt) (v0_at := v0_at) (v0_newEquations := v0_newEquations) (v0_newClauses := v0_newClauses) (v0_newSet := v0_newSet) (v0_newRight := v0_newRight) (v0_newYes := v0_newYes) (v0_newNo := v0_newNo) (v0_lineYes := v0_lineYes) (v0_lineNo := v0_lineNo) (v0_rowCount := v0_rowCount) (v0_rSet := v0_rSet) (v0_rRight := v0_rRight) (v0_isImpossible := v0_isImpossible) (v0_sumSet := .ref q0_sumSet) (v0_sumOf := .ref q0_sumOf) (v0_sumRight := .ref q0_sumRight) (v0_taken := v0_taken) (v0_ones := v0_ones) (v0_waitTaken := v0_waitTaken) (v0_waitOnes := v0_waitOnes) (v0_nodeCount := v0_nodeCount) (v0_lastModel := v0_lastModel) (v0_modelCount := v0_modelCount) (v0_modelIs := v0_modelIs) (v0_gSet := v0_gSet) (v0_gateCount := v0_gateCount) (x1 := x2) (r0 := u_5) (h0 := hu_6) (sz := H.size)) (cwV 1 hts gX8_blame_X8_reduced rfl rfl rfl (by decide +kernel) ⟨Nat.le_of_ble_eq_true rfl, Nat.le_of_ble_eq_true rfl⟩) (kx_preV hEV hP hD [0, 6] rfl (by decide) (k0 := 0) (ci := 8) rfl rfl rfl) rfl rfl hl.1 rfl (lv_room (Nat.le_of_ble_eq_true rfl)) dX8_blame_241 ⟨Nat.le_refl _, Nat.le_refl _⟩) (fun _ H locs _ hP hD hS => ?_)
            have h := Option.some.inj h
            subst h
            subst hQ
            exact W.lret (v := u_5) hx hb hr (fun t ht hW => ⟨⟨u_5, (), rfl, ⟨rfl, trivial⟩, by rw [ht]; exact hP, hD⟩, hS.F ht⟩) hS.2.2 dX8_blame_244
          · have k_4 : x2 = (0 : Int64) := ((lg_cmp_eq _ _).mp c_3)
            have h := cw_t k_4 h
            refine lv_lconst (v := (0 : Int64)) hx hb dX8_blame_235 (by decide) ?_
            refine lv_goto (tgt := 244) hx hb dX8_blame_236 (by decide) ?_
            have h := Option.some.inj h
            subst h
            subst hQ
            exact W.lret (v := (0 : Int64)) hx hb hr (fun t ht hW => ⟨⟨(0 : Int64), (), rfl, ⟨rfl, trivial⟩, by rw [ht]; exact hP, hD⟩, hS.F ht⟩) hS.2.2 dX8_blame_244
        · have k_2 : ¬ (f0_equations ≤ x4) := c_1
          have h := cw_f k_2 h
          refine lv_aload_n hx hb dX8_blame_26 rfl (lv_at hl 0 rfl) ?_
          refine va_get (D := D) (ci := 8) (v := .ref q0_eSet) (C := RX8) (T := TX8) (N := 43) hx hb hts in_X8_blame_X8 hown hK hP 0 rfl rfl 3 (by decide) lk_3 (fun _ h9 => h9) rfl dX8_blame_27 ?_
          refine lv_iload hx hb dX8_blame_30 (lv_at hl 3 rfl) ?_
          obtain ⟨b_7, h⟩ := cw_i h
          refine va_lald hx hb hK hP 1 1 rfl rfl b_7 dX8_blame_32 ?_
          refine lv_lstore (lv' := [(5, .long (h0_eSet x4.toNatClampNeg)), (0, .ref q0), (1, .int x1), (2, .long x2), (4, .int x4)]) hx hb dX8_blame_33 hl (by decide) rfl (fun ls hl => ?_)
          refine lv_lconst (v := (1 : Int64)) hx hb dX8_blame_35 (by decide) ?_
          refine lv_iload hx hb dX8_blame_36 (lv_at hl 4 rfl) ?_
          refine lv_lshl (v := jshl (1 : Int64) x4) hx hb dX8_blame_38 rfl ?_
          refine lv_lstore (lv' := [(7, .long (jshl (1 : Int64) x4)), (5, .long (h0_eSet x4.toNatClampNeg)), (0, .ref q0), (1, .int x1), (2, .long x2), (4, .int x4)]) hx hb dX8_blame_39 hl (by decide) rfl (fun ls hl => ?_)
          refine lv_aload_n hx hb dX8_blame_41 rfl (lv_at hl 2 rfl) ?_
          refine va_get (D := D) (ci := 8) (v := .ref q0_eRight) (C := RX8) (T := TX8) (N := 43) hx hb hts in_X8_blame_X8 hown hK hP 0 rfl rfl 4 (by decide) lk_4 (fun _ h9 => h9) rfl dX8_blame_42 ?_
          refine lv_iload hx hb dX8_blame_45 (lv_at hl 5 rfl) ?_
          obtain ⟨b_8, h⟩ := cw_i h
          refine va_iald hx hb hK hP 2 0 rfl rfl b_8 dX8_blame_47 ?_
          refine lv_istore (lv' := [(9, .int (h0_eRight x4.toNatClampNeg)), (7, .long (jshl (1 : Int64) x4)), (5, .long (h0_eSet x4.toNatClampNeg)), (0, .ref q0), (1, .int x1), (2, .long x2), (4, .int x4)]) hx hb dX8_blame_48 hl (by decide) rfl (fun ls hl => ?_)
          refine lv_iconst (v := (0 : Int32)) hx hb dX8_blame_50 (by decide) ?_
          refine lv_istore (lv' := [(10, .int (0 : Int32)), (9, .int (h0_eRight x4.toNatClampNeg)), (7, .long (jshl (1 : Int64) x4)), (5, .long (h0_eSet x4.toNatClampNeg)), (0, .ref q0), (1, .int x1), (2, .long x2), (4, .int x4)]) hx hb dX8_blame_51 hl (by decide) rfl (fun ls hl => ?_)
          exact ih.2 _ _ _ _ _ _ _ _ _ _ _ _ _ h _ _ _ hP hD hS (lv_sub hl [4, 5, 6, 7, 3, 2, 1, 0] rfl)
      · intro x1 x2 x4 x5 x7 x9 x10 f0_thrown f0_empties h0_sumSet h0_sumOf h0_sumRight h0_empty h H locs ls hP hD hS hl
        have h : run1 (iter (st_X8_blame f0_equations n0_eSet h0_eSet n0_eRight h0_eRight n0_sumSet n0_sumOf n0_sumRight n0_empty) n9) (b_X8_blame_53 f0_equations n0_eSet h0_eSet n0_eRight h0_eRight n0_sumSet n0_sumOf n0_sumRight n0_empty x1 x2 x4 x5 x7 x9 x10 f0_thrown f0_empties h0_sumSet h0_sumOf h0_sumRight h0_empty) = some r0 := h
        unfold b_X8_blame_53 at h
        refine lv_iload hx hb dX8_blame_53 (lv_at hl 7 rfl) ?_
        refine lv_iload_n hx hb dX8_blame_55 rfl (lv_at hl 1 rfl) ?_
        refine lv_icmp_ge (tgt := 119) hx hb dX8_blame_56 (by decide) (fun c_9 => ?_) (fun c_9 => ?_)
        · have k_10 : x1 ≤ x10 := c_9
          have h := cw_t k_10 h
          refine lv_lload hx hb dX8_blame_119 (lv_at hl 4 rfl) ?_
          refine lv_lconst (v := (0 : Int64)) hx hb dX8_blame_121 (by decide) ?_
          refine W.lcmp hx hb dX8_blame_122 ?_
          refine lv_if_eq (tgt := 156) hx hb dX8_blame_123 (by decide) (fun c_11 => ?_) (fun c_11 => ?_)
          · have k_12 : x5 = (0 : Int64) := ((lg_cmp_eq _ _).mp c_11)
            have h := cw_t k_12 h
            refine lv_iload hx hb dX8_blame_156 (lv_at hl 6 rfl) ?_
            refine lv_iconst (v := (1 : Int32)) hx hb dX8_blame_158 (by decide) ?_
            refine lv_icmp_ne (tgt := 174) hx hb dX8_blame_159 (by decide) (fun c_13 => ?_) (fun c_13 => ?_)
            · have k_14 : ¬ (x9 = (1 : Int32)) := c_13
              have h := cw_f k_14 h
              refine lv_aload_n hx hb dX8_blame_174 rfl (lv_at hl 0 rfl) ?_
              refine lv_iload hx hb dX8_blame_175 (lv_at hl 6 rfl) ?_
              refine lv_iconst (v := (1 : Int32)) hx hb dX8_blame_177 (by decide) ?_
              refine lv_icmp_ne (tgt := 188) hx hb dX8_blame_178 (by decide) (fun c_15 => ?_) (fun c_15 => ?_)
              · refine lv_lload hx hb dX8_blame_188 (lv_at hl 5 rfl) ?_
                obtain ⟨u_16, hu_17, h⟩ := cw_b h
                refine kx_l (ws' := fun _ => [(q0, .inr (8, [.int f0_thrown, v0_n, .int f0_equations, .ref q0_eSet, .ref q0_eRight, v0_clauses, v0_cYes, v0_cNo, v0_levels, v0_levelEquations, v0_levelClauses, v0_tape, v0_tapeSize, v0_faultIs, v0_faultAt, v0_at, v0_newEquations, v0_newClauses, v0_newSet, v0_newRight, v0_newYes, v0_newNo, v0_lineYes, v0_lineNo, v0_rowCount, v0_rSet, v0_rRight, v0_isImpossible, .ref q0_sumSet, .ref q0_sumOf, .ref q0_sumRight, .ref q0_empty, .int f0_empties, v0_taken, v0_ones, v0_waitTaken, v0_waitOnes, v0_nodeCount, v0_lastModel, v0_modelCount, v0_modelIs, v0_gSet, v0_gateCount])), (q0_eSet, .inl (cL, n0_eSet, .inr (.inl h0_eSet))), (q0_eRight, .inl (cI, n0_eRight, .inl h0_eRight)), (q0_sumSet, .inl (cL, n0_sumSet, .inr (.inl h0_sumSet))), (q0_sumOf, .inl (cL, n0_sumOf, .inr (.inl h0_sumOf))), (q0_sumRight, .inl (cI, n0_sumRight, .inl h0_sumRight)), (q0_empty, .inl (cL, n0_empty, .inr (.inl h0_empty)))]) hP hD hS hA [0, 6] [1, 2, 3, 4, 5] [5, 0, 1, 2, 3, 4, 6] rfl (by decide) (by decide) (by decide) (fun _ => rfl) (by decide) (va_runV (As := [.long x7]) (rest := []) ⟨hx, hb, hml, hown, hts⟩ (cm_X8_reduced l D cI cL (q0 := q0) (q0_empty := q0_empty) (n0_empty := n0_empty) (f0_empties := f0_empties) (h0_empty := h0_empty) (v0_thrown := .int f0_thrown) (v0_n := v0_n) (v0_equations := .int f0_equations) (v0_eSet := .ref q0_eSet) (v0_eRight := .ref q0_eRight) (v0_clauses := v0_clauses) (v0_cYes := v0_cYes) (v0_cNo := v0_cNo) (v0_levels := v0_levels) (v0_levelEquations := v0_levelEquations) (v0_levelClauses := v0_levelClauses) (v0_tape := v0_tape) (v0_tapeSize := v0_tapeSize) (v0_faultIs := v0_faultIs) (v0_faultAt := v0_faultAt) (v0_at := v0_at) (v0_newEquations := v0_newEquations) (v0_newClauses := v0_newClauses) (v0_newSet := v0_newSet) (v0_newRight := v0_newRight) (v0_newYes := v0_newYes) (v0_newNo := v0_newNo) (v0_lineYes := v0_lineYes) (v0_lineNo := v0_lineNo) (v0_rowCount := v0_rowCount) (v0_rSet := v0_rSet) (v0_rRight := v0_rRight) (v0_isImpossible := v0_isImpossible) (v0_sumSet := .ref q0_sumSet) (v0_sumOf := .ref q0_sumOf) (v0_sumRight := .ref q0_sumRight) (v0_taken := v0_taken) (v0_ones := v0_ones) (v0_waitTaken := v0_waitTaken) (v0_waitOnes := v0_waitOnes) (v0_nodeCount := v0_nodeCount) (v0_lastModel := v0_lastModel) (v0_modelCount := v0_modelCount) (v0_modelIs := v0_modelIs) (v0_gSet := v0_gSet) (v0_gateCount := v0_gateCount) (x1 := x7) (r0 := u_16) (h0 := hu_17) (sz := H.size)) (cwV 1 hts gX8_blame_X8_reduced rfl rfl rfl (by decide +kernel) ⟨Nat.le_of_ble_eq_true rfl, Nat.le_of_ble_eq_true rfl⟩) (kx_preV hEV hP hD [0, 6] rfl (by decide) (k0 := 0) (ci := 8) rfl rfl rfl) rfl rfl hl.1 rfl (lv_room (Nat.le_of_ble_eq_true rfl)) dX8_blame_190 ⟨Nat.le_refl _, Nat.le_refl _⟩) (fun _ H locs _ hP hD hS => ?_)
                refine lv_lstore (lv' := [(10, .long u_16), (0, .ref q0), (1, .int x1), (2, .long x2), (4, .int x4), (5, .long x5), (7, .long x7), (9, .int x9)]) hx hb dX8_blame_193 hl (by decide) rfl (fun ls hl => ?_)
                refine lv_lload hx hb dX8_blame_195 (lv_at hl 0 rfl) ?_
                refine lv_lconst (v := (0 : Int64)) hx hb dX8_blame_197 (by decide) ?_
                refine W.lcmp hx hb dX8_blame_198 ?_
                refine lv_if_eq (tgt := 223) hx hb dX8_blame_199 (by decide) (fun c_18 => ?_) (fun c_18 => ?_)
                · have k_19 : u_16 = (0 : Int64) := ((lg_cmp_eq _ _).mp c_18)
                  have h := cw_t k_19 h
                  refine lv_iinc (v := x4 + (1 : Int32)) (lv' := [(4, .int (x4 + (1 : Int32))), (10, .long u_16), (0, .ref q0), (1, .int x1), (2, .long x2), (5, .long x5), (7, .long x7), (9, .int x9)]) hx hb dX8_blame_223 hl (k := 4) rfl rfl (by decide) rfl (fun ls hl => ?_)
                  refine lv_goto (tgt := 17) hx hb dX8_blame_226 (by decide) ?_
                  exact ih.1 _ _ _ _ _ _ _ _ _ h _ _ _ hP hD hS (lv_sub hl [2, 3, 4, 0] rfl)
                · have k_19 : ¬ (u_16 = (0 : Int64)) := (fun z9 => c_18 ((lg_cmp_eq _ _).mpr z9))
                  have h := cw_f k_19 h
                  refine lv_aload_n hx hb dX8_blame_202 rfl (lv_at hl 1 rfl) ?_
                  refine va_get (D := D) (ci := 8) (v := .ref q0_empty) (C := RX8) (T := TX8) (N := 43) hx hb hts in_X8_blame_X8 hown hK hP 0 rfl rfl 31 (by decide) lk_5 (fun _ h9 => h9) rfl dX8_blame_203 ?_
                  refine lv_aload_n hx hb dX8_blame_206 rfl (lv_at hl 1 rfl) ?_
                  refine va_get (D := D) (ci := 8) (v := .int f0_empties) (C := RX8) (T := TX8) (N := 43) hx hb hts in_X8_blame_X8 hown hK hP 0 rfl rfl 32 (by decide) lk_1 (fun _ h9 => h9) rfl dX8_blame_207 ?_
                  refine lv_lload hx hb dX8_blame_210 (lv_at hl 0 rfl) ?_
                  obtain ⟨b_20, h⟩ := cw_i h
                  refine va_last hx hb hK hP hD hS 6 1 rfl rfl b_20 dX8_blame_212 (fun H locs hP hD hS => ?_)
                  have hP : va_P D vwCl [(q0, .inr (8, [.int f0_thrown, v0_n, .int f0_equations, .ref q0_eSet, .ref q0_eRight, v0_clauses, v0_cYes, v0_cNo, v0_levels, v0_levelEquations, v0_levelClauses, v0_tape, v0_tapeSize, v0_faultIs, v0_faultAt, v0_at, v0_newEquations, v0_newClauses, v0_newSet, v0_newRight, v0_newYes, v0_newNo, v0_lineYes, v0_lineNo, v0_rowCount, v0_rSet, v0_rRight, v0_isImpossible, .ref q0_sumSet, .ref q0_sumOf, .ref q0_sumRight, .ref q0_empty, .int f0_empties, v0_taken, v0_ones, v0_waitTaken, v0_waitOnes, v0_nodeCount, v0_lastModel, v0_modelCount, v0_modelIs, v0_gSet, v0_gateCount])), (q0_eSet, .inl (cL, n0_eSet, .inr (.inl h0_eSet))), (q0_eRight, .inl (cI, n0_eRight, .inl h0_eRight)), (q0_sumSet, .inl (cL, n0_sumSet, .inr (.inl h0_sumSet))), (q0_sumOf, .inl (cL, n0_sumOf, .inr (.inl h0_sumOf))), (q0_sumRight, .inl (cI, n0_sumRight, .inl h0_sumRight)), (q0_empty, .inl (cL, n0_empty, .inr (.inl (vp_updL h0_empty f0_empties.toNatClampNeg u_16))))] H := hP
                  have hD : va_D A [(q0, .inr (8, [.int f0_thrown, v0_n, .int f0_equations, .ref q0_eSet, .ref q0_eRight, v0_clauses, v0_cYes, v0_cNo, v0_levels, v0_levelEquations, v0_levelClauses, v0_tape, v0_tapeSize, v0_faultIs, v0_faultAt, v0_at, v0_newEquations, v0_newClauses, v0_newSet, v0_newRight, v0_newYes, v0_newNo, v0_lineYes, v0_lineNo, v0_rowCount, v0_rSet, v0_rRight, v0_isImpossible, .ref q0_sumSet, .ref q0_sumOf, .ref q0_sumRight, .ref q0_empty, .int f0_empties, v0_taken, v0_ones, v0_waitTaken, v0_waitOnes, v0_nodeCount, v0_lastModel, v0_modelCount, v0_modelIs, v0_gSet, v0_gateCount])), (q0_eSet, .inl (cL, n0_eSet, .inr (.inl h0_eSet))), (q0_eRight, .inl (cI, n0_eRight, .inl h0_eRight)), (q0_sumSet, .inl (cL, n0_sumSet, .inr (.inl h0_sumSet))), (q0_sumOf, .inl (cL, n0_sumOf, .inr (.inl h0_sumOf))), (q0_sumRight, .inl (cI, n0_sumRight, .inl h0_sumRight)), (q0_empty, .inl (cL, n0_empty, .inr (.inl (vp_updL h0_empty f0_empties.toNatClampNeg u_16))))] := hD
                  refine lv_aload_n hx hb dX8_blame_213 rfl (lv_at hl 1 rfl) ?_
                  refine lv_dup hx hb dX8_blame_214 rfl ?_
                  refine va_get (D := D) (ci := 8) (v := .int f0_empties) (C := RX8) (T := TX8) (N := 43) hx hb hts in_X8_blame_X8 hown hK hP 0 rfl rfl 32 (by decide) lk_1 (fun _ h9 => h9) rfl dX8_blame_215 ?_
                  refine lv_iconst (v := (1 : Int32)) hx hb dX8_blame_218 (by decide) ?_
                  refine lv_iadd hx hb dX8_blame_219 ?_
                  refine va_put (D := D) (ci := 8) (v := .int (f0_empties + (1 : Int32))) (ty := .int) (C := RX8) (T := TX8) (N := 43) hx hb hts in_X8_blame_X8 tyX8 tyX8_ok nmX8 hown hK hP hD hS 0 rfl rfl 32 (by decide) lk_1 (fun _ h9 => h9) rfl (by decide +kernel) rfl rfl (Nat.le_of_ble_eq_true rfl) dX8_blame_220 (fun H locs hP hD hS => ?_)
                  have hP : va_P D vwCl [(q0, .inr (8, [.int f0_thrown, v0_n, .int f0_equations, .ref q0_eSet, .ref q0_eRight, v0_clauses, v0_cYes, v0_cNo, v0_levels, v0_levelEquations, v0_levelClauses, v0_tape, v0_tapeSize, v0_faultIs, v0_faultAt, v0_at, v0_newEquations, v0_newClauses, v0_newSet, v0_newRight, v0_newYes, v0_newNo, v0_lineYes, v0_lineNo, v0_rowCount, v0_rSet, v0_rRight, v0_isImpossible, .ref q0_sumSet, .ref q0_sumOf, .ref q0_sumRight, .ref q0_empty, .int (f0_empties + (1 : Int32)), v0_taken, v0_ones, v0_waitTaken, v0_waitOnes, v0_nodeCount, v0_lastModel, v0_modelCount, v0_modelIs, v0_gSet, v0_gateCount])), (q0_eSet, .inl (cL, n0_eSet, .inr (.inl h0_eSet))), (q0_eRight, .inl (cI, n0_eRight, .inl h0_eRight)), (q0_sumSet, .inl (cL, n0_sumSet, .inr (.inl h0_sumSet))), (q0_sumOf, .inl (cL, n0_sumOf, .inr (.inl h0_sumOf))), (q0_sumRight, .inl (cI, n0_sumRight, .inl h0_sumRight)), (q0_empty, .inl (cL, n0_empty, .inr (.inl (vp_updL h0_empty f0_empties.toNatClampNeg u_16))))] H := hP
                  have hD : va_D A [(q0, .inr (8, [.int f0_thrown, v0_n, .int f0_equations, .ref q0_eSet, .ref q0_eRight, v0_clauses, v0_cYes, v0_cNo, v0_levels, v0_levelEquations, v0_levelClauses, v0_tape, v0_tapeSize, v0_faultIs, v0_faultAt, v0_at, v0_newEquations, v0_newClauses, v0_newSet, v0_newRight, v0_newYes, v0_newNo, v0_lineYes, v0_lineNo, v0_rowCount, v0_rSet, v0_rRight, v0_isImpossible, .ref q0_sumSet, .ref q0_sumOf, .ref q0_sumRight, .ref q0_empty, .int (f0_empties + (1 : Int32)), v0_taken, v0_ones, v0_waitTaken, v0_waitOnes, v0_nodeCount, v0_lastModel, v0_modelCount, v0_modelIs, v0_gSet, v0_gateCount])), (q0_eSet, .inl (cL, n0_eSet, .inr (.inl h0_eSet))), (q0_eRight, .inl (cI, n0_eRight, .inl h0_eRight)), (q0_sumSet, .inl (cL, n0_sumSet, .inr (.inl h0_sumSet))), (q0_sumOf, .inl (cL, n0_sumOf, .inr (.inl h0_sumOf))), (q0_sumRight, .inl (cI, n0_sumRight, .inl h0_sumRight)), (q0_empty, .inl (cL, n0_empty, .inr (.inl (vp_updL h0_empty f0_empties.toNatClampNeg u_16))))] := hD
                  refine lv_iinc (v := x4 + (1 : Int32)) (lv' := [(4, .int (x4 + (1 : Int32))), (10, .long u_16), (0, .ref q0), (1, .int x1), (2, .long x2), (5, .long x5), (7, .long x7), (9, .int x9)]) hx hb dX8_blame_223 hl (k := 4) rfl rfl (by decide) rfl (fun ls hl => ?_)
                  refine lv_goto (tgt := 17) hx hb dX8_blame_226 (by decide) ?_
                  exact ih.1 _ _ _ _ _ _ _ _ _ h _ _ _ hP hD hS (lv_sub hl [2, 3, 4, 0] rfl)
              · exact absurd c_15 k_14
            · have k_14 : x9 = (1 : Int32) := c_13
              have h := cw_t k_14 h
              refine lv_lload_n hx hb dX8_blame_162 rfl (lv_at hl 2 rfl) ?_
              refine lv_lconst (v := (0 : Int64)) hx hb dX8_blame_163 (by decide) ?_
              refine W.lcmp hx hb dX8_blame_164 ?_
              refine lv_if_ne (tgt := 174) hx hb dX8_blame_165 (by decide) (fun c_21 => ?_) (fun c_21 => ?_)
              · have k_22 : ¬ (x2 = (0 : Int64)) := (fun z9 => c_21 ((lg_cmp_eq _ _).mpr z9))
                have h := cw_f k_22 h
                refine lv_aload_n hx hb dX8_blame_174 rfl (lv_at hl 0 rfl) ?_
                refine lv_iload hx hb dX8_blame_175 (lv_at hl 6 rfl) ?_
                refine lv_iconst (v := (1 : Int32)) hx hb dX8_blame_177 (by decide) ?_
                refine lv_icmp_ne (tgt := 188) hx hb dX8_blame_178 (by decide) (fun c_23 => ?_) (fun c_23 => ?_)
                · exact absurd k_14 c_23
                · refine lv_lload hx hb dX8_blame_181 (lv_at hl 5 rfl) ?_
                  refine lv_lload_n hx hb dX8_blame_183 rfl (lv_at hl 2 rfl) ?_
                  refine lv_lxor hx hb dX8_blame_184 ?_
                  refine lv_goto (tgt := 190) hx hb dX8_blame_185 (by decide) ?_
                  obtain ⟨u_24, hu_25, h⟩ := cw_b h
                  refine kx_l (ws' := fun _ => [(q0, .inr (8, [.int f0_thrown, v0_n, .int f0_equations, .ref q0_eSet, .ref q0_eRight, v0_clauses, v0_cYes, v0_cNo, v0_levels, v0_levelEquations, v0_levelClauses, v0_tape, v0_tapeSize, v0_faultIs, v0_faultAt, v0_at, v0_newEquations, v0_newClauses, v0_newSet, v0_newRight, v0_newYes, v0_newNo, v0_lineYes, v0_lineNo, v0_rowCount, v0_rSet, v0_rRight, v0_isImpossible, .ref q0_sumSet, .ref q0_sumOf, .ref q0_sumRight, .ref q0_empty, .int f0_empties, v0_taken, v0_ones, v0_waitTaken, v0_waitOnes, v0_nodeCount, v0_lastModel, v0_modelCount, v0_modelIs, v0_gSet, v0_gateCount])), (q0_eSet, .inl (cL, n0_eSet, .inr (.inl h0_eSet))), (q0_eRight, .inl (cI, n0_eRight, .inl h0_eRight)), (q0_sumSet, .inl (cL, n0_sumSet, .inr (.inl h0_sumSet))), (q0_sumOf, .inl (cL, n0_sumOf, .inr (.inl h0_sumOf))), (q0_sumRight, .inl (cI, n0_sumRight, .inl h0_sumRight)), (q0_empty, .inl (cL, n0_empty, .inr (.inl h0_empty)))]) hP hD hS hA [0, 6] [1, 2, 3, 4, 5] [5, 0, 1, 2, 3, 4, 6] rfl (by decide) (by decide) (by decide) (fun _ => rfl) (by decide) (va_runV (As := [.long (x7 ^^^ x2)]) (rest := []) ⟨hx, hb, hml, hown, hts⟩ (cm_X8_reduced l D cI cL (q0 := q0) (q0_empty := q0_empty) (n0_empty := n0_empty) (f0_empties := f0_empties) (h0_empty := h0_empty) (v0_thrown := .int f0_thrown) (v0_n := v0_n) (v0_equations := .int f0_equations) (v0_eSet := .ref q0_eSet) (v0_eRight := .ref q0_eRight) (v0_clauses := v0_clauses) (v0_cYes := v0_cYes) (v0_cNo := v0_cNo) (v0_levels := v0_levels) (v0_levelEquations := v0_levelEquations) (v0_levelClauses := v0_levelClauses) (v0_tape := v0_tape) (v0_tapeSize := v0_tapeSize) (v0_faultIs := v0_faultIs) (v0_faultAt := v0_faultAt) (v0_at := v0_at) (v0_newEquations := v0_newEquations) (v0_newClauses := v0_newClauses) (v0_newSet := v0_newSet) (v0_newRight := v0_newRight) (v0_newYes := v0_newYes) (v0_newNo := v0_newNo) (v0_lineYes := v0_lineYes) (v0_lineNo := v0_lineNo) (v0_rowCount := v0_rowCount) (v0_rSet := v0_rSet) (v0_rRight := v0_rRight) (v0_isImpossible := v0_isImpossible) (v0_sumSet := .ref q0_sumSet) (v0_sumOf := .ref q0_sumOf) (v0_sumRight := .ref q0_sumRight) (v0_taken := v0_taken) (v0_ones := v0_ones) (v0_waitTaken := v0_waitTaken) (v0_waitOnes := v0_waitOnes) (v0_nodeCount := v0_nodeCount) (v0_lastModel := v0_lastModel) (v0_modelCount := v0_modelCount) (v0_modelIs := v0_modelIs) (v0_gSet := v0_gSet) (v0_gateCount := v0_gateCount) (x1 := x7 ^^^ x2) (r0 := u_24) (h0 := hu_25) (sz := H.size)) (cwV 1 hts gX8_blame_X8_reduced rfl rfl rfl (by decide +kernel) ⟨Nat.le_of_ble_eq_true rfl, Nat.le_of_ble_eq_true rfl⟩) (kx_preV hEV hP hD [0, 6] rfl (by decide) (k0 := 0) (ci := 8) rfl rfl rfl) rfl rfl hl.1 rfl (lv_room (Nat.le_of_ble_eq_true rfl)) dX8_blame_190 ⟨Nat.le_refl _, Nat.le_refl _⟩) (fun _ H locs _ hP hD hS => ?_)
                  refine lv_lstore (lv' := [(10, .long u_24), (0, .ref q0), (1, .int x1), (2, .long x2), (4, .int x4), (5, .long x5), (7, .long x7), (9, .int x9)]) hx hb dX8_blame_193 hl (by decide) rfl (fun ls hl => ?_)
                  refine lv_lload hx hb dX8_blame_195 (lv_at hl 0 rfl) ?_
                  refine lv_lconst (v := (0 : Int64)) hx hb dX8_blame_197 (by decide) ?_
                  refine W.lcmp hx hb dX8_blame_198 ?_
                  refine lv_if_eq (tgt := 223) hx hb dX8_blame_199 (by decide) (fun c_26 => ?_) (fun c_26 => ?_)
                  · have k_27 : u_24 = (0 : Int64) := ((lg_cmp_eq _ _).mp c_26)
                    have h := cw_t k_27 h
                    refine lv_iinc (v := x4 + (1 : Int32)) (lv' := [(4, .int (x4 + (1 : Int32))), (10, .long u_24), (0, .ref q0), (1, .int x1), (2, .long x2), (5, .long x5), (7, .long x7), (9, .int x9)]) hx hb dX8_blame_223 hl (k := 4) rfl rfl (by decide) rfl (fun ls hl => ?_)
                    refine lv_goto (tgt := 17) hx hb dX8_blame_226 (by decide) ?_
                    exact ih.1 _ _ _ _ _ _ _ _ _ h _ _ _ hP hD hS (lv_sub hl [2, 3, 4, 0] rfl)
                  · have k_27 : ¬ (u_24 = (0 : Int64)) := (fun z9 => c_26 ((lg_cmp_eq _ _).mpr z9))
                    have h := cw_f k_27 h
                    refine lv_aload_n hx hb dX8_blame_202 rfl (lv_at hl 1 rfl) ?_
                    refine va_get (D := D) (ci := 8) (v := .ref q0_empty) (C := RX8) (T := TX8) (N := 43) hx hb hts in_X8_blame_X8 hown hK hP 0 rfl rfl 31 (by decide) lk_5 (fun _ h9 => h9) rfl dX8_blame_203 ?_
                    refine lv_aload_n hx hb dX8_blame_206 rfl (lv_at hl 1 rfl) ?_
                    refine va_get (D := D) (ci := 8) (v := .int f0_empties) (C := RX8) (T := TX8) (N := 43) hx hb hts in_X8_blame_X8 hown hK hP 0 rfl rfl 32 (by decide) lk_1 (fun _ h9 => h9) rfl dX8_blame_207 ?_
                    refine lv_lload hx hb dX8_blame_210 (lv_at hl 0 rfl) ?_
                    obtain ⟨b_28, h⟩ := cw_i h
                    refine va_last hx hb hK hP hD hS 6 1 rfl rfl b_28 dX8_blame_212 (fun H locs hP hD hS => ?_)
                    have hP : va_P D vwCl [(q0, .inr (8, [.int f0_thrown, v0_n, .int f0_equations, .ref q0_eSet, .ref q0_eRight, v0_clauses, v0_cYes, v0_cNo, v0_levels, v0_levelEquations, v0_levelClauses, v0_tape, v0_tapeSize, v0_faultIs, v0_faultAt, v0_at, v0_newEquations, v0_newClauses, v0_newSet, v0_newRight, v0_newYes, v0_newNo, v0_lineYes, v0_lineNo, v0_rowCount, v0_rSet, v0_rRight, v0_isImpossible, .ref q0_sumSet, .ref q0_sumOf, .ref q0_sumRight, .ref q0_empty, .int f0_empties, v0_taken, v0_ones, v0_waitTaken, v0_waitOnes, v0_nodeCount, v0_lastModel, v0_modelCount, v0_modelIs, v0_gSet, v0_gateCount])), (q0_eSet, .inl (cL, n0_eSet, .inr (.inl h0_eSet))), (q0_eRight, .inl (cI, n0_eRight, .inl h0_eRight)), (q0_sumSet, .inl (cL, n0_sumSet, .inr (.inl h0_sumSet))), (q0_sumOf, .inl (cL, n0_sumOf, .inr (.inl h0_sumOf))), (q0_sumRight, .inl (cI, n0_sumRight, .inl h0_sumRight)), (q0_empty, .inl (cL, n0_empty, .inr (.inl (vp_updL h0_empty f0_empties.toNatClampNeg u_24))))] H := hP
                    have hD : va_D A [(q0, .inr (8, [.int f0_thrown, v0_n, .int f0_equations, .ref q0_eSet, .ref q0_eRight, v0_clauses, v0_cYes, v0_cNo, v0_levels, v0_levelEquations, v0_levelClauses, v0_tape, v0_tapeSize, v0_faultIs, v0_faultAt, v0_at, v0_newEquations, v0_newClauses, v0_newSet, v0_newRight, v0_newYes, v0_newNo, v0_lineYes, v0_lineNo, v0_rowCount, v0_rSet, v0_rRight, v0_isImpossible, .ref q0_sumSet, .ref q0_sumOf, .ref q0_sumRight, .ref q0_empty, .int f0_empties, v0_taken, v0_ones, v0_waitTaken, v0_waitOnes, v0_nodeCount, v0_lastModel, v0_modelCount, v0_modelIs, v0_gSet, v0_gateCount])), (q0_eSet, .inl (cL, n0_eSet, .inr (.inl h0_eSet))), (q0_eRight, .inl (cI, n0_eRight, .inl h0_eRight)), (q0_sumSet, .inl (cL, n0_sumSet, .inr (.inl h0_sumSet))), (q0_sumOf, .inl (cL, n0_sumOf, .inr (.inl h0_sumOf))), (q0_sumRight, .inl (cI, n0_sumRight, .inl h0_sumRight)), (q0_empty, .inl (cL, n0_empty, .inr (.inl (vp_updL h0_empty f0_empties.toNatClampNeg u_24))))] := hD
                    refine lv_aload_n hx hb dX8_blame_213 rfl (lv_at hl 1 rfl) ?_
                    refine lv_dup hx hb dX8_blame_214 rfl ?_
                    refine va_get (D := D) (ci := 8) (v := .int f0_empties) (C := RX8) (T := TX8) (N := 43) hx hb hts in_X8_blame_X8 hown hK hP 0 rfl rfl 32 (by decide) lk_1 (fun _ h9 => h9) rfl dX8_blame_215 ?_
                    refine lv_iconst (v := (1 : Int32)) hx hb dX8_blame_218 (by decide) ?_
                    refine lv_iadd hx hb dX8_blame_219 ?_
                    refine va_put (D := D) (ci := 8) (v := .int (f0_empties + (1 : Int32))) (ty := .int) (C := RX8) (T := TX8) (N := 43) hx hb hts in_X8_blame_X8 tyX8 tyX8_ok nmX8 hown hK hP hD hS 0 rfl rfl 32 (by decide) lk_1 (fun _ h9 => h9) rfl (by decide +kernel) rfl rfl (Nat.le_of_ble_eq_true rfl) dX8_blame_220 (fun H locs hP hD hS => ?_)
                    have hP : va_P D vwCl [(q0, .inr (8, [.int f0_thrown, v0_n, .int f0_equations, .ref q0_eSet, .ref q0_eRight, v0_clauses, v0_cYes, v0_cNo, v0_levels, v0_levelEquations, v0_levelClauses, v0_tape, v0_tapeSize, v0_faultIs, v0_faultAt, v0_at, v0_newEquations, v0_newClauses, v0_newSet, v0_newRight, v0_newYes, v0_newNo, v0_lineYes, v0_lineNo, v0_rowCount, v0_rSet, v0_rRight, v0_isImpossible, .ref q0_sumSet, .ref q0_sumOf, .ref q0_sumRight, .ref q0_empty, .int (f0_empties + (1 : Int32)), v0_taken, v0_ones, v0_waitTaken, v0_waitOnes, v0_nodeCount, v0_lastModel, v0_modelCount, v0_modelIs, v0_gSet, v0_gateCount])), (q0_eSet, .inl (cL, n0_eSet, .inr (.inl h0_eSet))), (q0_eRight, .inl (cI, n0_eRight, .inl h0_eRight)), (q0_sumSet, .inl (cL, n0_sumSet, .inr (.inl h0_sumSet))), (q0_sumOf, .inl (cL, n0_sumOf, .inr (.inl h0_sumOf))), (q0_sumRight, .inl (cI, n0_sumRight, .inl h0_sumRight)), (q0_empty, .inl (cL, n0_empty, .inr (.inl (vp_updL h0_empty f0_empties.toNatClampNeg u_24))))] H := hP
                    have hD : va_D A [(q0, .inr (8, [.int f0_thrown, v0_n, .int f0_equations, .ref q0_eSet, .ref q0_eRight, v0_clauses, v0_cYes, v0_cNo, v0_levels, v0_levelEquations, v0_levelClauses, v0_tape, v0_tapeSize, v0_faultIs, v0_faultAt, v0_at, v0_newEquations, v0_newClauses, v0_newSet, v0_newRight, v0_newYes, v0_newNo, v0_lineYes, v0_lineNo, v0_rowCount, v0_rSet, v0_rRight, v0_isImpossible, .ref q0_sumSet, .ref q0_sumOf, .ref q0_sumRight, .ref q0_empty, .int (f0_empties + (1 : Int32)), v0_taken, v0_ones, v0_waitTaken, v0_waitOnes, v0_nodeCount, v0_lastModel, v0_modelCount, v0_modelIs, v0_gSet, v0_gateCount])), (q0_eSet, .inl (cL, n0_eSet, .inr (.inl h0_eSet))), (q0_eRight, .inl (cI, n0_eRight, .inl h0_eRight)), (q0_sumSet, .inl (cL, n0_sumSet, .inr (.inl h0_sumSet))), (q0_sumOf, .inl (cL, n0_sumOf, .inr (.inl h0_sumOf))), (q0_sumRight, .inl (cI, n0_sumRight, .inl h0_sumRight)), (q0_empty, .inl (cL, n0_empty, .inr (.inl (vp_updL h0_empty f0_empties.toNatClampNeg u_24))))] := hD
                    refine lv_iinc (v := x4 + (1 : Int32)) (lv' := [(4, .int (x4 + (1 : Int32))), (10, .long u_24), (0, .ref q0), (1, .int x1), (2, .long x2), (5, .long x5), (7, .long x7), (9, .int x9)]) hx hb dX8_blame_223 hl (k := 4) rfl rfl (by decide) rfl (fun ls hl => ?_)
                    refine lv_goto (tgt := 17) hx hb dX8_blame_226 (by decide) ?_
                    exact ih.1 _ _ _ _ _ _ _ _ _ h _ _ _ hP hD hS (lv_sub hl [2, 3, 4, 0] rfl)
              · have k_22 : x2 = (0 : Int64) := ((lg_cmp_eq _ _).mp c_21)
                have h := cw_t k_22 h
                refine lv_lload hx hb dX8_blame_168 (lv_at hl 5 rfl) ?_
                refine lv_lstore_n (lv' := [(2, .long x7), (0, .ref q0), (1, .int x1), (4, .int x4), (5, .long x5), (7, .long x7), (9, .int x9), (10, .int x10)]) hx hb dX8_blame_170 rfl hl (by decide) rfl (fun ls hl => ?_)
                refine lv_goto (tgt := 223) hx hb dX8_blame_171 (by decide) ?_
                refine lv_iinc (v := x4 + (1 : Int32)) (lv' := [(4, .int (x4 + (1 : Int32))), (2, .long x7), (0, .ref q0), (1, .int x1), (5, .long x5), (7, .long x7), (9, .int x9), (10, .int x10)]) hx hb dX8_blame_223 hl (k := 3) rfl rfl (by decide) rfl (fun ls hl => ?_)
                refine lv_goto (tgt := 17) hx hb dX8_blame_226 (by decide) ?_
                exact ih.1 _ _ _ _ _ _ _ _ _ h _ _ _ hP hD hS (lv_sub hl [2, 3, 1, 0] rfl)
          · have k_12 : ¬ (x5 = (0 : Int64)) := (fun z9 => c_11 ((lg_cmp_eq _ _).mpr z9))
            have h := cw_f k_12 h
            refine lv_aload_n hx hb dX8_blame_126 rfl (lv_at hl 0 rfl) ?_
            refine va_get (D := D) (ci := 8) (v := .ref q0_sumSet) (C := RX8) (T := TX8) (N := 43) hx hb hts in_X8_blame_X8 hown hK hP 0 rfl rfl 28 (by decide) lk_6 (fun _ h9 => h9) rfl dX8_blame_127 ?_
            refine lv_iload_n hx hb dX8_blame_130 rfl (lv_at hl 1 rfl) ?_
            refine lv_lload hx hb dX8_blame_131 (lv_at hl 4 rfl) ?_
            obtain ⟨b_29, h⟩ := cw_i h
            refine va_last hx hb hK hP hD hS 3 1 rfl rfl b_29 dX8_blame_133 (fun H locs hP hD hS => ?_)
            have hP : va_P D vwCl [(q0, .inr (8, [.int f0_thrown, v0_n, .int f0_equations, .ref q0_eSet, .ref q0_eRight, v0_clauses, v0_cYes, v0_cNo, v0_levels, v0_levelEquations, v0_levelClauses, v0_tape, v0_tapeSize, v0_faultIs, v0_faultAt, v0_at, v0_newEquations, v0_newClauses, v0_newSet, v0_newRight, v0_newYes, v0_newNo, v0_lineYes, v0_lineNo, v0_rowCount, v0_rSet, v0_rRight, v0_isImpossible, .ref q0_sumSet, .ref q0_sumOf, .ref q0_sumRight, .ref q0_empty, .int f0_empties, v0_taken, v0_ones, v0_waitTaken, v0_waitOnes, v0_nodeCount, v0_lastModel, v0_modelCount, v0_modelIs, v0_gSet, v0_gateCount])), (q0_eSet, .inl (cL, n0_eSet, .inr (.inl h0_eSet))), (q0_eRight, .inl (cI, n0_eRight, .inl h0_eRight)), (q0_sumSet, .inl (cL, n0_sumSet, .inr (.inl (vp_updL h0_sumSet x1.toNatClampNeg x5)))), (q0_sumOf, .inl (cL, n0_sumOf, .inr (.inl h0_sumOf))), (q0_sumRight, .inl (cI, n0_sumRight, .inl h0_sumRight)), (q0_empty, .inl (cL, n0_empty, .inr (.inl h0_empty)))] H := hP
            have hD : va_D A [(q0, .inr (8, [.int f0_thrown, v0_n, .int f0_equations, .ref q0_eSet, .ref q0_eRight, v0_clauses, v0_cYes, v0_cNo, v0_levels, v0_levelEquations, v0_levelClauses, v0_tape, v0_tapeSize, v0_faultIs, v0_faultAt, v0_at, v0_newEquations, v0_newClauses, v0_newSet, v0_newRight, v0_newYes, v0_newNo, v0_lineYes, v0_lineNo, v0_rowCount, v0_rSet, v0_rRight, v0_isImpossible, .ref q0_sumSet, .ref q0_sumOf, .ref q0_sumRight, .ref q0_empty, .int f0_empties, v0_taken, v0_ones, v0_waitTaken, v0_waitOnes, v0_nodeCount, v0_lastModel, v0_modelCount, v0_modelIs, v0_gSet, v0_gateCount])), (q0_eSet, .inl (cL, n0_eSet, .inr (.inl h0_eSet))), (q0_eRight, .inl (cI, n0_eRight, .inl h0_eRight)), (q0_sumSet, .inl (cL, n0_sumSet, .inr (.inl (vp_updL h0_sumSet x1.toNatClampNeg x5)))), (q0_sumOf, .inl (cL, n0_sumOf, .inr (.inl h0_sumOf))), (q0_sumRight, .inl (cI, n0_sumRight, .inl h0_sumRight)), (q0_empty, .inl (cL, n0_empty, .inr (.inl h0_empty)))] := hD
            refine lv_aload_n hx hb dX8_blame_134 rfl (lv_at hl 0 rfl) ?_
            refine va_get (D := D) (ci := 8) (v := .ref q0_sumOf) (C := RX8) (T := TX8) (N := 43) hx hb hts in_X8_blame_X8 hown hK hP 0 rfl rfl 29 (by decide) lk_7 (fun _ h9 => h9) rfl dX8_blame_135 ?_
            refine lv_iload_n hx hb dX8_blame_138 rfl (lv_at hl 1 rfl) ?_
            refine lv_lload hx hb dX8_blame_139 (lv_at hl 5 rfl) ?_
            obtain ⟨b_30, h⟩ := cw_i h
            refine va_last hx hb hK hP hD hS 4 1 rfl rfl b_30 dX8_blame_141 (fun H locs hP hD hS => ?_)
            have hP : va_P D vwCl [(q0, .inr (8, [.int f0_thrown, v0_n, .int f0_equations, .ref q0_eSet, .ref q0_eRight, v0_clauses, v0_cYes, v0_cNo, v0_levels, v0_levelEquations, v0_levelClauses, v0_tape, v0_tapeSize, v0_faultIs, v0_faultAt, v0_at, v0_newEquations, v0_newClauses, v0_newSet, v0_newRight, v0_newYes, v0_newNo, v0_lineYes, v0_lineNo, v0_rowCount, v0_rSet, v0_rRight, v0_isImpossible, .ref q0_sumSet, .ref q0_sumOf, .ref q0_sumRight, .ref q0_empty, .int f0_empties, v0_taken, v0_ones, v0_waitTaken, v0_waitOnes, v0_nodeCount, v0_lastModel, v0_modelCount, v0_modelIs, v0_gSet, v0_gateCount])), (q0_eSet, .inl (cL, n0_eSet, .inr (.inl h0_eSet))), (q0_eRight, .inl (cI, n0_eRight, .inl h0_eRight)), (q0_sumSet, .inl (cL, n0_sumSet, .inr (.inl (vp_updL h0_sumSet x1.toNatClampNeg x5)))), (q0_sumOf, .inl (cL, n0_sumOf, .inr (.inl (vp_updL h0_sumOf x1.toNatClampNeg x7)))), (q0_sumRight, .inl (cI, n0_sumRight, .inl h0_sumRight)), (q0_empty, .inl (cL, n0_empty, .inr (.inl h0_empty)))] H := hP
            have hD : va_D A [(q0, .inr (8, [.int f0_thrown, v0_n, .int f0_equations, .ref q0_eSet, .ref q0_eRight, v0_clauses, v0_cYes, v0_cNo, v0_levels, v0_levelEquations, v0_levelClauses, v0_tape, v0_tapeSize, v0_faultIs, v0_faultAt, v0_at, v0_newEquations, v0_newClauses, v0_newSet, v0_newRight, v0_newYes, v0_newNo, v0_lineYes, v0_lineNo, v0_rowCount, v0_rSet, v0_rRight, v0_isImpossible, .ref q0_sumSet, .ref q0_sumOf, .ref q0_sumRight, .ref q0_empty, .int f0_empties, v0_taken, v0_ones, v0_waitTaken, v0_waitOnes, v0_nodeCount, v0_lastModel, v0_modelCount, v0_modelIs, v0_gSet, v0_gateCount])), (q0_eSet, .inl (cL, n0_eSet, .inr (.inl h0_eSet))), (q0_eRight, .inl (cI, n0_eRight, .inl h0_eRight)), (q0_sumSet, .inl (cL, n0_sumSet, .inr (.inl (vp_updL h0_sumSet x1.toNatClampNeg x5)))), (q0_sumOf, .inl (cL, n0_sumOf, .inr (.inl (vp_updL h0_sumOf x1.toNatClampNeg x7)))), (q0_sumRight, .inl (cI, n0_sumRight, .inl h0_sumRight)), (q0_empty, .inl (cL, n0_empty, .inr (.inl h0_empty)))] := hD
            refine lv_aload_n hx hb dX8_blame_142 rfl (lv_at hl 0 rfl) ?_
            refine va_get (D := D) (ci := 8) (v := .ref q0_sumRight) (C := RX8) (T := TX8) (N := 43) hx hb hts in_X8_blame_X8 hown hK hP 0 rfl rfl 30 (by decide) lk_8 (fun _ h9 => h9) rfl dX8_blame_143 ?_
            refine lv_iload_n hx hb dX8_blame_146 rfl (lv_at hl 1 rfl) ?_
            refine lv_iload hx hb dX8_blame_147 (lv_at hl 6 rfl) ?_
            obtain ⟨b_31, h⟩ := cw_i h
            refine va_iast hx hb hK hP hD hS 5 0 rfl rfl b_31 dX8_blame_149 (fun H locs hP hD hS => ?_)
            have hP : va_P D vwCl [(q0, .inr (8, [.int f0_thrown, v0_n, .int f0_equations, .ref q0_eSet, .ref q0_eRight, v0_clauses, v0_cYes, v0_cNo, v0_levels, v0_levelEquations, v0_levelClauses, v0_tape, v0_tapeSize, v0_faultIs, v0_faultAt, v0_at, v0_newEquations, v0_newClauses, v0_newSet, v0_newRight, v0_newYes, v0_newNo, v0_lineYes, v0_lineNo, v0_rowCount, v0_rSet, v0_rRight, v0_isImpossible, .ref q0_sumSet, .ref q0_sumOf, .ref q0_sumRight, .ref q0_empty, .int f0_empties, v0_taken, v0_ones, v0_waitTaken, v0_waitOnes, v0_nodeCount, v0_lastModel, v0_modelCount, v0_modelIs, v0_gSet, v0_gateCount])), (q0_eSet, .inl (cL, n0_eSet, .inr (.inl h0_eSet))), (q0_eRight, .inl (cI, n0_eRight, .inl h0_eRight)), (q0_sumSet, .inl (cL, n0_sumSet, .inr (.inl (vp_updL h0_sumSet x1.toNatClampNeg x5)))), (q0_sumOf, .inl (cL, n0_sumOf, .inr (.inl (vp_updL h0_sumOf x1.toNatClampNeg x7)))), (q0_sumRight, .inl (cI, n0_sumRight, .inl (upd h0_sumRight x1.toNatClampNeg x9))), (q0_empty, .inl (cL, n0_empty, .inr (.inl h0_empty)))] H := hP
            have hD : va_D A [(q0, .inr (8, [.int f0_thrown, v0_n, .int f0_equations, .ref q0_eSet, .ref q0_eRight, v0_clauses, v0_cYes, v0_cNo, v0_levels, v0_levelEquations, v0_levelClauses, v0_tape, v0_tapeSize, v0_faultIs, v0_faultAt, v0_at, v0_newEquations, v0_newClauses, v0_newSet, v0_newRight, v0_newYes, v0_newNo, v0_lineYes, v0_lineNo, v0_rowCount, v0_rSet, v0_rRight, v0_isImpossible, .ref q0_sumSet, .ref q0_sumOf, .ref q0_sumRight, .ref q0_empty, .int f0_empties, v0_taken, v0_ones, v0_waitTaken, v0_waitOnes, v0_nodeCount, v0_lastModel, v0_modelCount, v0_modelIs, v0_gSet, v0_gateCount])), (q0_eSet, .inl (cL, n0_eSet, .inr (.inl h0_eSet))), (q0_eRight, .inl (cI, n0_eRight, .inl h0_eRight)), (q0_sumSet, .inl (cL, n0_sumSet, .inr (.inl (vp_updL h0_sumSet x1.toNatClampNeg x5)))), (q0_sumOf, .inl (cL, n0_sumOf, .inr (.inl (vp_updL h0_sumOf x1.toNatClampNeg x7)))), (q0_sumRight, .inl (cI, n0_sumRight, .inl (upd h0_sumRight x1.toNatClampNeg x9))), (q0_empty, .inl (cL, n0_empty, .inr (.inl h0_empty)))] := hD
            refine lv_iinc (v := x1 + (1 : Int32)) (lv' := [(1, .int (x1 + (1 : Int32))), (0, .ref q0), (2, .long x2), (4, .int x4), (5, .long x5), (7, .long x7), (9, .int x9), (10, .int x10)]) hx hb dX8_blame_150 hl (k := 1) rfl rfl (by decide) rfl (fun ls hl => ?_)
            refine lv_goto (tgt := 223) hx hb dX8_blame_153 (by decide) ?_
            refine lv_iinc (v := x4 + (1 : Int32)) (lv' := [(4, .int (x4 + (1 : Int32))), (1, .int (x1 + (1 : Int32))), (0, .ref q0), (2, .long x2), (5, .long x5), (7, .long x7), (9, .int x9), (10, .int x10)]) hx hb dX8_blame_223 hl (k := 3) rfl rfl (by decide) rfl (fun ls hl => ?_)
            refine lv_goto (tgt := 17) hx hb dX8_blame_226 (by decide) ?_
            exact ih.1 _ _ _ _ _ _ _ _ _ h _ _ _ hP hD hS (lv_sub hl [2, 1, 3, 0] rfl)
        · have k_10 : ¬ (x1 ≤ x10) := c_9
          have h := cw_f k_10 h
          refine lv_lload hx hb dX8_blame_59 (lv_at hl 4 rfl) ?_
          refine lv_aload_n hx hb dX8_blame_61 rfl (lv_at hl 0 rfl) ?_
          refine va_get (D := D) (ci := 8) (v := .ref q0_sumSet) (C := RX8) (T := TX8) (N := 43) hx hb hts in_X8_blame_X8 hown hK hP 0 rfl rfl 28 (by decide) lk_6 (fun _ h9 => h9) rfl dX8_blame_62 ?_
          refine lv_iload hx hb dX8_blame_65 (lv_at hl 7 rfl) ?_
          obtain ⟨b_32, h⟩ := cw_i h
          refine va_lald hx hb hK hP 3 1 rfl rfl b_32 dX8_blame_67 ?_
          obtain ⟨u_33, hu_34, h⟩ := cw_b h
          refine kx_l (ws' := fun _ => [(q0, .inr (8, [.int f0_thrown, v0_n, .int f0_equations, .ref q0_eSet, .ref q0_eRight, v0_clauses, v0_cYes, v0_cNo, v0_levels, v0_levelEquations, v0_levelClauses, v0_tape, v0_tapeSize, v0_faultIs, v0_faultAt, v0_at, v0_newEquations, v0_newClauses, v0_newSet, v0_newRight, v0_newYes, v0_newNo, v0_lineYes, v0_lineNo, v0_rowCount, v0_rSet, v0_rRight, v0_isImpossible, .ref q0_sumSet, .ref q0_sumOf, .ref q0_sumRight, .ref q0_empty, .int f0_empties, v0_taken, v0_ones, v0_waitTaken, v0_waitOnes, v0_nodeCount, v0_lastModel, v0_modelCount, v0_modelIs, v0_gSet, v0_gateCount])), (q0_eSet, .inl (cL, n0_eSet, .inr (.inl h0_eSet))), (q0_eRight, .inl (cI, n0_eRight, .inl h0_eRight)), (q0_sumSet, .inl (cL, n0_sumSet, .inr (.inl h0_sumSet))), (q0_sumOf, .inl (cL, n0_sumOf, .inr (.inl h0_sumOf))), (q0_sumRight, .inl (cI, n0_sumRight, .inl h0_sumRight)), (q0_empty, .inl (cL, n0_empty, .inr (.inl h0_empty)))]) hP hD hS hA [] [0, 1, 2, 3, 4, 5, 6] [0, 1, 2, 3, 4, 5, 6] rfl (by decide) (by decide) (by decide) (fun _ => rfl) (by decide) (va_runS (As := [.long (h0_sumSet x10.toNatClampNeg)]) (rest := [.long x5]) ⟨hx, hb, hml, hown, hts⟩ (cm_X8_lowest l D cI cL (x0 := h0_sumSet x10.toNatClampNeg) (r0 := u_33) (h0 := hu_34) (sz := H.size)) (va_cwS 1 hts gX8_blame_X8_lowest rfl rfl rfl (by decide +kernel) ⟨Nat.le_of_ble_eq_true rfl, Nat.le_of_ble_eq_true rfl⟩) (kx_preS hEV hP hD [] rfl (by decide)) rfl rfl hl.1 rfl (lv_room (Nat.le_of_ble_eq_true rfl)) dX8_blame_68 ⟨Nat.le_refl _, Nat.le_refl _⟩) (fun _ H locs _ hP hD hS => ?_)
          refine lv_land hx hb dX8_blame_71 ?_
          refine lv_lconst (v := (0 : Int64)) hx hb dX8_blame_72 (by decide) ?_
          refine W.lcmp hx hb dX8_blame_73 ?_
          refine lv_if_eq (tgt := 113) hx hb dX8_blame_74 (by decide) (fun c_35 => ?_) (fun c_35 => ?_)
          · have k_36 : (x5 &&& u_33) = (0 : Int64) := ((lg_cmp_eq _ _).mp c_35)
            have h := cw_t k_36 h
            refine lv_iinc (v := x10 + (1 : Int32)) (lv' := [(10, .int (x10 + (1 : Int32))), (0, .ref q0), (1, .int x1), (2, .long x2), (4, .int x4), (5, .long x5), (7, .long x7), (9, .int x9)]) hx hb dX8_blame_113 hl (k := 7) rfl rfl (by decide) rfl (fun ls hl => ?_)
            refine lv_goto (tgt := 53) hx hb dX8_blame_116 (by decide) ?_
            exact ih.2 _ _ _ _ _ _ _ _ _ _ _ _ _ h _ _ _ hP hD hS (lv_sub hl [1, 2, 3, 4, 5, 6, 7, 0] rfl)
          · have k_36 : ¬ ((x5 &&& u_33) = (0 : Int64)) := (fun z9 => c_35 ((lg_cmp_eq _ _).mpr z9))
            have h := cw_f k_36 h
            refine lv_lload hx hb dX8_blame_77 (lv_at hl 4 rfl) ?_
            refine lv_aload_n hx hb dX8_blame_79 rfl (lv_at hl 0 rfl) ?_
            refine va_get (D := D) (ci := 8) (v := .ref q0_sumSet) (C := RX8) (T := TX8) (N := 43) hx hb hts in_X8_blame_X8 hown hK hP 0 rfl rfl 28 (by decide) lk_6 (fun _ h9 => h9) rfl dX8_blame_80 ?_
            refine lv_iload hx hb dX8_blame_83 (lv_at hl 7 rfl) ?_
            obtain ⟨b_37, h⟩ := cw_i h
            refine va_lald hx hb hK hP 3 1 rfl rfl b_37 dX8_blame_85 ?_
            refine lv_lxor hx hb dX8_blame_86 ?_
            refine lv_lstore (lv' := [(5, .long (x5 ^^^ (h0_sumSet x10.toNatClampNeg))), (0, .ref q0), (1, .int x1), (2, .long x2), (4, .int x4), (7, .long x7), (9, .int x9), (10, .int x10)]) hx hb dX8_blame_87 hl (by decide) rfl (fun ls hl => ?_)
            refine lv_lload hx hb dX8_blame_89 (lv_at hl 5 rfl) ?_
            refine lv_aload_n hx hb dX8_blame_91 rfl (lv_at hl 1 rfl) ?_
            refine va_get (D := D) (ci := 8) (v := .ref q0_sumOf) (C := RX8) (T := TX8) (N := 43) hx hb hts in_X8_blame_X8 hown hK hP 0 rfl rfl 29 (by decide) lk_7 (fun _ h9 => h9) rfl dX8_blame_92 ?_
            refine lv_iload hx hb dX8_blame_95 (lv_at hl 7 rfl) ?_
            obtain ⟨b_38, h⟩ := cw_i h
            refine va_lald hx hb hK hP 4 1 rfl rfl b_38 dX8_blame_97 ?_
            refine lv_lxor hx hb dX8_blame_98 ?_
            refine lv_lstore (lv' := [(7, .long (x7 ^^^ (h0_sumOf x10.toNatClampNeg))), (5, .long (x5 ^^^ (h0_sumSet x10.toNatClampNeg))), (0, .ref q0), (1, .int x1), (2, .long x2), (4, .int x4), (9, .int x9), (10, .int x10)]) hx hb dX8_blame_99 hl (by decide) rfl (fun ls hl => ?_)
            refine lv_iload hx hb dX8_blame_101 (lv_at hl 6 rfl) ?_
            refine lv_aload_n hx hb dX8_blame_103 rfl (lv_at hl 2 rfl) ?_
            refine va_get (D := D) (ci := 8) (v := .ref q0_sumRight) (C := RX8) (T := TX8) (N := 43) hx hb hts in_X8_blame_X8 hown hK hP 0 rfl rfl 30 (by decide) lk_8 (fun _ h9 => h9) rfl dX8_blame_104 ?_
            refine lv_iload hx hb dX8_blame_107 (lv_at hl 7 rfl) ?_
            obtain ⟨b_39, h⟩ := cw_i h
            refine va_iald hx hb hK hP 5 0 rfl rfl b_39 dX8_blame_109 ?_
            refine lv_ixor hx hb dX8_blame_110 ?_
            refine lv_istore (lv' := [(9, .int (x9 ^^^ (h0_sumRight x10.toNatClampNeg))), (7, .long (x7 ^^^ (h0_sumOf x10.toNatClampNeg))), (5, .long (x5 ^^^ (h0_sumSet x10.toNatClampNeg))), (0, .ref q0), (1, .int x1), (2, .long x2), (4, .int x4), (10, .int x10)]) hx hb dX8_blame_111 hl (by decide) rfl (fun ls hl => ?_)
            refine lv_iinc (v := x10 + (1 : Int32)) (lv' := [(10, .int (x10 + (1 : Int32))), (9, .int (x9 ^^^ (h0_sumRight x10.toNatClampNeg))), (7, .long (x7 ^^^ (h0_sumOf x10.toNatClampNeg))), (5, .long (x5 ^^^ (h0_sumSet x10.toNatClampNeg))), (0, .ref q0), (1, .int x1), (2, .long x2), (4, .int x4)]) hx hb dX8_blame_113 hl (k := 7) rfl rfl (by decide) rfl (fun ls hl => ?_)
            refine lv_goto (tgt := 53) hx hb dX8_blame_116 (by decide) ?_
            exact ih.2 _ _ _ _ _ _ _ _ _ _ _ _ _ h _ _ _ hP hD hS (lv_sub hl [4, 5, 6, 7, 3, 2, 1, 0] rfl)
  have h := h0
  unfold D_X8_blame at h
  refine lv_aload_n hx hb dX8_blame_0 rfl (lv_at hl 0 rfl) ?_
  refine lv_iconst (v := (0 : Int32)) hx hb dX8_blame_1 (by decide) ?_
  refine va_put (D := D) (ci := 8) (v := .int (0 : Int32)) (ty := .int) (C := RX8) (T := TX8) (N := 43) hx hb hts in_X8_blame_X8 tyX8 tyX8_ok nmX8 hown hK hP hD hS 0 rfl rfl 0 (by decide) lk_0 (fun _ h9 => h9) rfl (by decide +kernel) rfl rfl (Nat.le_of_ble_eq_true rfl) dX8_blame_2 (fun H locs hP hD hS => ?_)
  have hP : va_P D vwCl [(q0, .inr (8, [.int (0 : Int32), v0_n, .int f0_equations, .ref q0_eSet, .ref q0_eRight, v0_clauses, v0_cYes, v0_cNo, v0_levels, v0_levelEquations, v0_levelClauses, v0_tape, v0_tapeSize, v0_faultIs, v0_faultAt, v0_at, v0_newEquations, v0_newClauses, v0_newSet, v0_newRight, v0_newYes, v0_newNo, v0_lineYes, v0_lineNo, v0_rowCount, v0_rSet, v0_rRight, v0_isImpossible, .ref q0_sumSet, .ref q0_sumOf, .ref q0_sumRight, .ref q0_empty, .int f0_empties, v0_taken, v0_ones, v0_waitTaken, v0_waitOnes, v0_nodeCount, v0_lastModel, v0_modelCount, v0_modelIs, v0_gSet, v0_gateCount])), (q0_eSet, .inl (cL, n0_eSet, .inr (.inl h0_eSet))), (q0_eRight, .inl (cI, n0_eRight, .inl h0_eRight)), (q0_sumSet, .inl (cL, n0_sumSet, .inr (.inl h0_sumSet))), (q0_sumOf, .inl (cL, n0_sumOf, .inr (.inl h0_sumOf))), (q0_sumRight, .inl (cI, n0_sumRight, .inl h0_sumRight)), (q0_empty, .inl (cL, n0_empty, .inr (.inl h0_empty)))] H := hP
  have hD : va_D A [(q0, .inr (8, [.int (0 : Int32), v0_n, .int f0_equations, .ref q0_eSet, .ref q0_eRight, v0_clauses, v0_cYes, v0_cNo, v0_levels, v0_levelEquations, v0_levelClauses, v0_tape, v0_tapeSize, v0_faultIs, v0_faultAt, v0_at, v0_newEquations, v0_newClauses, v0_newSet, v0_newRight, v0_newYes, v0_newNo, v0_lineYes, v0_lineNo, v0_rowCount, v0_rSet, v0_rRight, v0_isImpossible, .ref q0_sumSet, .ref q0_sumOf, .ref q0_sumRight, .ref q0_empty, .int f0_empties, v0_taken, v0_ones, v0_waitTaken, v0_waitOnes, v0_nodeCount, v0_lastModel, v0_modelCount, v0_modelIs, v0_gSet, v0_gateCount])), (q0_eSet, .inl (cL, n0_eSet, .inr (.inl h0_eSet))), (q0_eRight, .inl (cI, n0_eRight, .inl h0_eRight)), (q0_sumSet, .inl (cL, n0_sumSet, .inr (.inl h0_sumSet))), (q0_sumOf, .inl (cL, n0_sumOf, .inr (.inl h0_sumOf))), (q0_sumRight, .inl (cI, n0_sumRight, .inl h0_sumRight)), (q0_empty, .inl (cL, n0_empty, .inr (.inl h0_empty)))] := hD
  refine lv_aload_n hx hb dX8_blame_5 rfl (lv_at hl 0 rfl) ?_
  refine lv_iconst (v := (0 : Int32)) hx hb dX8_blame_6 (by decide) ?_
  refine va_put (D := D) (ci := 8) (v := .int (0 : Int32)) (ty := .int) (C := RX8) (T := TX8) (N := 43) hx hb hts in_X8_blame_X8 tyX8 tyX8_ok nmX8 hown hK hP hD hS 0 rfl rfl 32 (by decide) lk_1 (fun _ h9 => h9) rfl (by decide +kernel) rfl rfl (Nat.le_of_ble_eq_true rfl) dX8_blame_7 (fun H locs hP hD hS => ?_)
  have hP : va_P D vwCl [(q0, .inr (8, [.int (0 : Int32), v0_n, .int f0_equations, .ref q0_eSet, .ref q0_eRight, v0_clauses, v0_cYes, v0_cNo, v0_levels, v0_levelEquations, v0_levelClauses, v0_tape, v0_tapeSize, v0_faultIs, v0_faultAt, v0_at, v0_newEquations, v0_newClauses, v0_newSet, v0_newRight, v0_newYes, v0_newNo, v0_lineYes, v0_lineNo, v0_rowCount, v0_rSet, v0_rRight, v0_isImpossible, .ref q0_sumSet, .ref q0_sumOf, .ref q0_sumRight, .ref q0_empty, .int (0 : Int32), v0_taken, v0_ones, v0_waitTaken, v0_waitOnes, v0_nodeCount, v0_lastModel, v0_modelCount, v0_modelIs, v0_gSet, v0_gateCount])), (q0_eSet, .inl (cL, n0_eSet, .inr (.inl h0_eSet))), (q0_eRight, .inl (cI, n0_eRight, .inl h0_eRight)), (q0_sumSet, .inl (cL, n0_sumSet, .inr (.inl h0_sumSet))), (q0_sumOf, .inl (cL, n0_sumOf, .inr (.inl h0_sumOf))), (q0_sumRight, .inl (cI, n0_sumRight, .inl h0_sumRight)), (q0_empty, .inl (cL, n0_empty, .inr (.inl h0_empty)))] H := hP
  have hD : va_D A [(q0, .inr (8, [.int (0 : Int32), v0_n, .int f0_equations, .ref q0_eSet, .ref q0_eRight, v0_clauses, v0_cYes, v0_cNo, v0_levels, v0_levelEquations, v0_levelClauses, v0_tape, v0_tapeSize, v0_faultIs, v0_faultAt, v0_at, v0_newEquations, v0_newClauses, v0_newSet, v0_newRight, v0_newYes, v0_newNo, v0_lineYes, v0_lineNo, v0_rowCount, v0_rSet, v0_rRight, v0_isImpossible, .ref q0_sumSet, .ref q0_sumOf, .ref q0_sumRight, .ref q0_empty, .int (0 : Int32), v0_taken, v0_ones, v0_waitTaken, v0_waitOnes, v0_nodeCount, v0_lastModel, v0_modelCount, v0_modelIs, v0_gSet, v0_gateCount])), (q0_eSet, .inl (cL, n0_eSet, .inr (.inl h0_eSet))), (q0_eRight, .inl (cI, n0_eRight, .inl h0_eRight)), (q0_sumSet, .inl (cL, n0_sumSet, .inr (.inl h0_sumSet))), (q0_sumOf, .inl (cL, n0_sumOf, .inr (.inl h0_sumOf))), (q0_sumRight, .inl (cI, n0_sumRight, .inl h0_sumRight)), (q0_empty, .inl (cL, n0_empty, .inr (.inl h0_empty)))] := hD
  refine lv_iconst (v := (0 : Int32)) hx hb dX8_blame_10 (by decide) ?_
  refine lv_istore_n (lv' := [(1, .int (0 : Int32)), (0, .ref q0)]) hx hb dX8_blame_11 rfl hl (by decide) rfl (fun ls hl => ?_)
  refine lv_lconst (v := (0 : Int64)) hx hb dX8_blame_12 (by decide) ?_
  refine lv_lstore_n (lv' := [(2, .long (0 : Int64)), (1, .int (0 : Int32)), (0, .ref q0)]) hx hb dX8_blame_13 rfl hl (by decide) rfl (fun ls hl => ?_)
  refine lv_iconst (v := (0 : Int32)) hx hb dX8_blame_14 (by decide) ?_
  refine lv_istore (lv' := [(4, .int (0 : Int32)), (2, .long (0 : Int64)), (1, .int (0 : Int32)), (0, .ref q0)]) hx hb dX8_blame_15 hl (by decide) rfl (fun ls hl => ?_)
  obtain ⟨n9, hn9⟩ := runw_some h
  exact (hloop n9).1 _ _ _ _ _ _ _ _ _ hn9 _ _ _ hP hD hS (lv_sub hl [3, 2, 1, 0] rfl)
noncomputable def D_X8_solutions (f0_thrown : Int32) (f0_n : Int32) (f0_equations : Int32) (f0_rowCount : Int32) (f0_isImpossible : Bool) (n0_eSet : Nat) (h0_eSet : Nat → Int64) (n0_eRight : Nat) (h0_eRight : Nat → Int32) (n0_rSet : Nat) (h0_rSet : Nat → Int64) (n0_rRight : Nat) (h0_rRight : Nat → Int32) : Option (Int64 × Int32 × Int32 × Bool × (Nat → Int64) × (Nat → Int32)) :=
  Option.bind (D_X8_makeRows f0_equations f0_rowCount f0_isImpossible n0_eSet h0_eSet n0_eRight h0_eRight n0_rSet h0_rSet n0_rRight h0_rRight (0 : Int64) (0 : Int64) true) (fun u_1 =>
    cif (u_1.2.1 = true)
      (some ((0 : Int64), (0 : Int32), u_1.1, u_1.2.1, u_1.2.2.1, u_1.2.2.2))
      (some (jshl (1 : Int64) (f0_n - u_1.1), (0 : Int32), u_1.1, u_1.2.1, u_1.2.2.1, u_1.2.2.2)))
theorem in_X8_solutions_X8 : ∀ w ∈ wsX80, w ∈ wsX8_solutions := by decide +kernel
theorem lk_0_X8_solutions : Cond.fieldLink RX8 81 "ParityClausesModel" "thrown" "I" ∈ wsX8_solutions := by decide +kernel
theorem lk_1_X8_solutions : Cond.fieldLink RX8 175 "ParityClausesModel" "isImpossible" "Z" ∈ wsX8_solutions := by decide +kernel
theorem lk_2_X8_solutions : Cond.fieldLink RX8 77 "ParityClausesModel" "n" "I" ∈ wsX8_solutions := by decide +kernel
theorem lk_3_X8_solutions : Cond.fieldLink RX8 172 "ParityClausesModel" "rowCount" "I" ∈ wsX8_solutions := by decide +kernel
abbrev rm_X8_solutions : Room := { frames := 4, cells := 0, slots := 0, locals := 103 }
set_option maxHeartbeats 4000000 in
set_option maxRecDepth 100000 in
theorem cm_X8_solutions (l : Launch) (D : va_G) (cI cL : ClassId) (q0 q0_eSet q0_eRight q0_rSet q0_rRight : Nat) (n0_eSet n0_eRight n0_rSet n0_rRight : Nat) (f0_thrown : Int32) (f0_n : Int32) (f0_equations : Int32) (f0_rowCount : Int32) (f0_isImpossible : Bool) (h0_eSet : Nat → Int64) (h0_eRight : Nat → Int32) (h0_rSet : Nat → Int64) (h0_rRight : Nat → Int32) (v0_clauses v0_cYes v0_cNo v0_levels v0_levelEquations v0_levelClauses v0_tape v0_tapeSize v0_faultIs v0_faultAt v0_at v0_newEquations v0_newClauses v0_newSet v0_newRight v0_newYes v0_newNo v0_lineYes v0_lineNo v0_sumSet v0_sumOf v0_sumRight v0_empty v0_empties v0_taken v0_ones v0_waitTaken v0_waitOnes v0_nodeCount v0_lastModel v0_modelCount v0_modelIs v0_gSet v0_gateCount : Value) (r0 : Int64 × Int32 × Int32 × Bool × (Nat → Int64) × (Nat → Int32)) (h0 : D_X8_solutions f0_thrown f0_n f0_equations f0_rowCount f0_isImpossible n0_eSet h0_eSet n0_eRight h0_eRight n0_rSet h0_rSet n0_rRight h0_rRight = some r0) (sz : Nat) : Met l yX8_solutions wsX8_solutions rm_X8_solutions (PcW D cI cL [.ref q0] [(q0, .inr (8, [.int f0_thrown, .int f0_n, .int f0_equations, .ref q0_eSet, .ref q0_eRight, v0_clauses, v0_cYes, v0_cNo, v0_levels, v0_levelEquations, v0_levelClauses, v0_tape, v0_tapeSize, v0_faultIs, v0_faultAt, v0_at, v0_newEquations, v0_newClauses, v0_newSet, v0_newRight, v0_newYes, v0_newNo, v0_lineYes, v0_lineNo, .int f0_rowCount, .ref q0_rSet, .ref q0_rRight, .int (bI f0_isImpossible), v0_sumSet, v0_sumOf, v0_sumRight, v0_empty, v0_empties, v0_taken, v0_ones, v0_waitTaken, v0_waitOnes, v0_nodeCount, v0_lastModel, v0_modelCount, v0_modelIs, v0_gSet, v0_gateCount])), (q0_eSet, .inl (cL, n0_eSet, .inr (.inl h0_eSet))), (q0_eRight, .inl (cI, n0_eRight, .inl h0_eRight)), (q0_rSet, .inl (cL, n0_rSet, .inr (.inl h0_rSet))), (q0_rRight, .inl (cI, n0_rRight, .inl h0_rRight))] sz) (QlW D [(q0, .inr (8, [.int f0_thrown, .int f0_n, .int f0_equations, .ref q0_eSet, .ref q0_eRight, v0_clauses, v0_cYes, v0_cNo, v0_levels, v0_levelEquations, v0_levelClauses, v0_tape, v0_tapeSize, v0_faultIs, v0_faultAt, v0_at, v0_newEquations, v0_newClauses, v0_newSet, v0_newRight, v0_newYes, v0_newNo, v0_lineYes, v0_lineNo, .int f0_rowCount, .ref q0_rSet, .ref q0_rRight, .int (bI f0_isImpossible), v0_sumSet, v0_sumOf, v0_sumRight, v0_empty, v0_empties, v0_taken, v0_ones, v0_waitTaken, v0_waitOnes, v0_nodeCount, v0_lastModel, v0_modelCount, v0_modelIs, v0_gSet, v0_gateCount])), (q0_eSet, .inl (cL, n0_eSet, .inr (.inl h0_eSet))), (q0_eRight, .inl (cI, n0_eRight, .inl h0_eRight)), (q0_rSet, .inl (cL, n0_rSet, .inr (.inl h0_rSet))), (q0_rRight, .inl (cI, n0_rRight, .inl h0_rRight))] r0.1 (fun _ : Unit => [(q0, .inr (8, [.int r0.2.1, .int f0_n, .int f0_equations, .ref q0_eSet, .ref q0_eRight, v0_clauses, v0_cYes, v0_cNo, v0_levels, v0_levelEquations, v0_levelClauses, v0_tape, v0_tapeSize, v0_faultIs, v0_faultAt, v0_at, v0_newEquations, v0_newClauses, v0_newSet, v0_newRight, v0_newYes, v0_newNo, v0_lineYes, v0_lineNo, .int r0.2.2.1, .ref q0_rSet, .ref q0_rRight, .int (bI r0.2.2.2.1), v0_sumSet, v0_sumOf, v0_sumRight, v0_empty, v0_empties, v0_taken, v0_ones, v0_waitTaken, v0_waitOnes, v0_nodeCount, v0_lastModel, v0_modelCount, v0_modelIs, v0_gSet, v0_gateCount])), (q0_eSet, .inl (cL, n0_eSet, .inr (.inl h0_eSet))), (q0_eRight, .inl (cI, n0_eRight, .inl h0_eRight)), (q0_rSet, .inl (cL, n0_rSet, .inr (.inl r0.2.2.2.2.1))), (q0_rRight, .inl (cI, n0_rRight, .inl r0.2.2.2.2.2))]) tU sz) 0 0 (va_A [(q0, .inr (8, [.int f0_thrown, .int f0_n, .int f0_equations, .ref q0_eSet, .ref q0_eRight, v0_clauses, v0_cYes, v0_cNo, v0_levels, v0_levelEquations, v0_levelClauses, v0_tape, v0_tapeSize, v0_faultIs, v0_faultAt, v0_at, v0_newEquations, v0_newClauses, v0_newSet, v0_newRight, v0_newYes, v0_newNo, v0_lineYes, v0_lineNo, .int f0_rowCount, .ref q0_rSet, .ref q0_rRight, .int (bI f0_isImpossible), v0_sumSet, v0_sumOf, v0_sumRight, v0_empty, v0_empties, v0_taken, v0_ones, v0_waitTaken, v0_waitOnes, v0_nodeCount, v0_lastModel, v0_modelCount, v0_modelIs, v0_gSet, v0_gateCount])), (q0_eSet, .inl (cL, n0_eSet, .inr (.inl h0_eSet))), (q0_eRight, .inl (cI, n0_eRight, .inl h0_eRight)), (q0_rSet, .inl (cL, n0_rSet, .inr (.inl h0_rSet))), (q0_rRight, .inl (cI, n0_rRight, .inl h0_rRight))] sz) := by
  refine Met.ofW (cc := cX8_solutions) (maxL := 1) (ret := (some .long)) (by decide) rfl ?_
  intro p e s m args below meth c s₁ B hml hv
  obtain ⟨hargs, hsz, hP, hEV, hD0⟩ := hv
  have hx := B.exec
  have hb := B.bytes
  have hr := B.returns
  have hts := atoms_spec (ws := wsX8_solutions) B.pre
  have hown : s.vm.findClass RX8 = some m.cls := findClass_of_methodNamed B.named
  have hlocks := B.notSynchronized
  have hK := hEV.K
  have lk_0 := hts _ lk_0_X8_solutions
  have lk_1 := hts _ lk_1_X8_solutions
  have lk_2 := hts _ lk_2_X8_solutions
  have lk_3 := hts _ lk_3_X8_solutions
  subst hsz
  unfold QlW PoW
  have hD := hD0.self (sz := s.heap.size)
  generalize hAe : va_A [(q0, .inr (8, [.int f0_thrown, .int f0_n, .int f0_equations, .ref q0_eSet, .ref q0_eRight, v0_clauses, v0_cYes, v0_cNo, v0_levels, v0_levelEquations, v0_levelClauses, v0_tape, v0_tapeSize, v0_faultIs, v0_faultAt, v0_at, v0_newEquations, v0_newClauses, v0_newSet, v0_newRight, v0_newYes, v0_newNo, v0_lineYes, v0_lineNo, .int f0_rowCount, .ref q0_rSet, .ref q0_rRight, .int (bI f0_isImpossible), v0_sumSet, v0_sumOf, v0_sumRight, v0_empty, v0_empties, v0_taken, v0_ones, v0_waitTaken, v0_waitOnes, v0_nodeCount, v0_lastModel, v0_modelCount, v0_modelIs, v0_gSet, v0_gateCount])), (q0_eSet, .inl (cL, n0_eSet, .inr (.inl h0_eSet))), (q0_eRight, .inl (cI, n0_eRight, .inl h0_eRight)), (q0_rSet, .inl (cL, n0_rSet, .inr (.inl h0_rSet))), (q0_rRight, .inl (cI, n0_rRight, .inl h0_rRight))] s.heap.size = A at hD ⊢
  have hA : ∀ q : Nat, s.heap.size ≤ q → A q := fun q h => by rw [← hAe]; exact Or.inr h
  have hS : va_S A s.heap s.heap [] := va_S.rf
  have hent : entryFrame m args 1 = entryFrame m ([.ref q0] : List Value).toArray 1 := by rw [hargs]
  rw [hent]
  refine kx_Q (fun Q hQ => ?_)
  have hl := lv_entry ([.ref q0]) (n := 1) (Nat.le_of_ble_eq_true rfl)
  rw [lg_entry_eq]
  generalize (lg_sl ([.ref q0]) ++ List.replicate (1 - (lg_sl ([.ref q0])).length) Slot.unset).toArray = ls at hl ⊢
  have hl : lv_has ls 1 [(0, .ref q0)] := hl
  have h := h0
  unfold D_X8_solutions at h
  refine lv_aload_n hx hb dX8_solutions_0 rfl (lv_at hl 0 rfl) ?_
  refine lv_iconst (v := (0 : Int32)) hx hb dX8_solutions_1 (by decide) ?_
  refine va_put (D := D) (ci := 8) (v := .int (0 : Int32)) (ty := .int) (C := RX8) (T := TX8) (N := 43) hx hb hts in_X8_solutions_X8 tyX8 tyX8_ok nmX8 hown hK hP hD hS 0 rfl rfl 0 (by decide) lk_0 (fun _ h9 => h9) rfl (by decide +kernel) rfl rfl (Nat.le_of_ble_eq_true rfl) dX8_solutions_2 (fun H locs hP hD hS => ?_)
  have hP : va_P D vwCl [(q0, .inr (8, [.int (0 : Int32), .int f0_n, .int f0_equations, .ref q0_eSet, .ref q0_eRight, v0_clauses, v0_cYes, v0_cNo, v0_levels, v0_levelEquations, v0_levelClauses, v0_tape, v0_tapeSize, v0_faultIs, v0_faultAt, v0_at, v0_newEquations, v0_newClauses, v0_newSet, v0_newRight, v0_newYes, v0_newNo, v0_lineYes, v0_lineNo, .int f0_rowCount, .ref q0_rSet, .ref q0_rRight, .int (bI f0_isImpossible), v0_sumSet, v0_sumOf, v0_sumRight, v0_empty, v0_empties, v0_taken, v0_ones, v0_waitTaken, v0_waitOnes, v0_nodeCount, v0_lastModel, v0_modelCount, v0_modelIs, v0_gSet, v0_gateCount])), (q0_eSet, .inl (cL, n0_eSet, .inr (.inl h0_eSet))), (q0_eRight, .inl (cI, n0_eRight, .inl h0_eRight)), (q0_rSet, .inl (cL, n0_rSet, .inr (.inl h0_rSet))), (q0_rRight, .inl (cI, n0_rRight, .inl h0_rRight))] H := hP
  have hD : va_D A [(q0, .inr (8, [.int (0 : Int32), .int f0_n, .int f0_equations, .ref q0_eSet, .ref q0_eRight, v0_clauses, v0_cYes, v0_cNo, v0_levels, v0_levelEquations, v0_levelClauses, v0_tape, v0_tapeSize, v0_faultIs, v0_faultAt, v0_at, v0_newEquations, v0_newClauses, v0_newSet, v0_newRight, v0_newYes, v0_newNo, v0_lineYes, v0_lineNo, .int f0_rowCount, .ref q0_rSet, .ref q0_rRight, .int (bI f0_isImpossible), v0_sumSet, v0_sumOf, v0_sumRight, v0_empty, v0_empties, v0_taken, v0_ones, v0_waitTaken, v0_waitOnes, v0_nodeCount, v0_lastModel, v0_modelCount, v0_modelIs, v0_gSet, v0_gateCount])), (q0_eSet, .inl (cL, n0_eSet, .inr (.inl h0_eSet))), (q0_eRight, .inl (cI, n0_eRight, .inl h0_eRight)), (q0_rSet, .inl (cL, n0_rSet, .inr (.inl h0_rSet))), (q0_rRight, .inl (cI, n0_rRight, .inl h0_rRight))] := hD
  refine lv_aload_n hx hb dX8_solutions_5 rfl (lv_at hl 0 rfl) ?_
  refine lv_lconst (v := (0 : Int64)) hx hb dX8_solutions_6 (by decide) ?_
  refine lv_lconst (v := (0 : Int64)) hx hb dX8_solutions_7 (by decide) ?_
  refine lv_iconst (v := (1 : Int32)) hx hb dX8_solutions_8 (by decide) ?_
  obtain ⟨u_1, hu_2, h⟩ := co_b h
  refine kx_v (ws' := fun _ => [(q0, .inr (8, [.int (0 : Int32), .int f0_n, .int f0_equations, .ref q0_eSet, .ref q0_eRight, v0_clauses, v0_cYes, v0_cNo, v0_levels, v0_levelEquations, v0_levelClauses, v0_tape, v0_tapeSize, v0_faultIs, v0_faultAt, v0_at, v0_newEquations, v0_newClauses, v0_newSet, v0_newRight, v0_newYes, v0_newNo, v0_lineYes, v0_lineNo, .int u_1.1, .ref q0_rSet, .ref q0_rRight, .int (bI u_1.2.1), v0_sumSet, v0_sumOf, v0_sumRight, v0_empty, v0_empties, v0_taken, v0_ones, v0_waitTaken, v0_waitOnes, v0_nodeCount, v0_lastModel, v0_modelCount, v0_modelIs, v0_gSet, v0_gateCount])), (q0_eSet, .inl (cL, n0_eSet, .inr (.inl h0_eSet))), (q0_eRight, .inl (cI, n0_eRight, .inl h0_eRight)), (q0_rSet, .inl (cL, n0_rSet, .inr (.inl u_1.2.2.1))), (q0_rRight, .inl (cI, n0_rRight, .inl u_1.2.2.2))]) hP hD hS hA [0, 1, 2, 3, 4] [] [0, 1, 2, 3, 4] rfl (by decide) (by decide) (by decide) (fun _ => rfl) (by decide) (va_runV (As := [.long (0 : Int64), .long (0 : Int64), .int (bI true)]) (rest := []) ⟨hx, hb, hml, hown, hts⟩ (cm_X8_makeRows l D cI cL (q0 := q0) (q0_eSet := q0_eSet) (q0_eRight := q0_eRight) (q0_rSet := q0_rSet) (q0_rRight := q0_rRight) (n0_eSet := n0_eSet) (n0_eRight := n0_eRight) (n0_rSet := n0_rSet) (n0_rRight := n0_rRight) (f0_equations := f0_equations) (f0_rowCount := f0_rowCount) (f0_isImpossible := f0_isImpossible) (h0_eSet := h0_eSet) (h0_eRight := h0_eRight) (h0_rSet := h0_rSet) (h0_rRight := h0_rRight) (v0_thrown := .int (0 : Int32)) (v0_n := .int f0_n) (v0_clauses := v0_clauses) (v0_cYes := v0_cYes) (v0_cNo := v0_cNo) (v0_levels := v0_levels) (v0_levelEquations := v0_levelEquations) (v0_levelClauses := v0_levelClauses) (v0_tape := v0_tape) (v0_tapeSize := v0_tapeSize) (v0_faultIs := v0_faultIs) (v0_faultAt := v0_faultAt) (v0_at := v0_at) (v0_newEquations := v0_newEquations) (v0_newClauses := v0_newClauses) (v0_newSet := v0_newSet) (v0_newRight := v0_newRight) (v0_newYes := v0_newYes) (v0_newNo := v0_newNo) (v0_lineYes := v0_lineYes) (v0_lineNo := v0_lineNo) (v0_sumSet := v0_sumSet) (v0_sumOf := v0_sumOf) (v0_sumRight := v0_sumRight) (v0_empty := v0_empty) (v0_empties := v0_empties) (v0_taken := v0_taken) (v0_ones := v0_ones) (v0_waitTaken := v0_waitTaken) (v0_waitOnes := v0_waitOnes) (v0_nodeCount := v0_nodeCount) (v0_lastModel := v0_lastModel) (v0_modelCount := v0_modelCount) (v0_modelIs := v0_modelIs) (v0_gSet := v0_gSet) (v0_gateCount := v0_gateCount) (x1 := (0 : Int64)) (x3 := (0 : Int64)) (x5 := true) (r0 := u_1) (h0 := hu_2) (sz := H.size)) (cwV 3 hts gX8_solutions_X8_makeRows rfl rfl rfl (by decide +kernel) ⟨Nat.le_of_ble_eq_true rfl, Nat.le_of_ble_eq_true rfl⟩) (kx_preV hEV hP hD [0, 1, 2, 3, 4] rfl (by decide) (k0 := 0) (ci := 8) rfl rfl rfl) rfl rfl hl.1 rfl (lv_room (Nat.le_of_ble_eq_true rfl)) dX8_solutions_9 ⟨Nat.le_refl _, Nat.le_refl _⟩) (fun _ H locs _ hP hD hS => ?_)
  refine lv_aload_n hx hb dX8_solutions_12 rfl (lv_at hl 0 rfl) ?_
  refine va_get (D := D) (ci := 8) (v := .int (bI u_1.2.1)) (C := RX8) (T := TX8) (N := 43) hx hb hts in_X8_solutions_X8 hown hK hP 0 rfl rfl 27 (by decide) lk_1 (fun _ h9 => h9) rfl dX8_solutions_13 ?_
  refine lv_if_eq (tgt := 23) hx hb dX8_solutions_16 (by decide) (fun c_3 => ?_) (fun c_3 => ?_)
  · have k_4 : ¬ (u_1.2.1 = true) := (kx_z c_3)
    have h := co_f k_4 h
    refine lv_lconst (v := (1 : Int64)) hx hb dX8_solutions_23 (by decide) ?_
    refine lv_aload_n hx hb dX8_solutions_24 rfl (lv_at hl 0 rfl) ?_
    refine va_get (D := D) (ci := 8) (v := .int f0_n) (C := RX8) (T := TX8) (N := 43) hx hb hts in_X8_solutions_X8 hown hK hP 0 rfl rfl 1 (by decide) lk_2 (fun _ h9 => h9) rfl dX8_solutions_25 ?_
    refine lv_aload_n hx hb dX8_solutions_28 rfl (lv_at hl 0 rfl) ?_
    refine va_get (D := D) (ci := 8) (v := .int u_1.1) (C := RX8) (T := TX8) (N := 43) hx hb hts in_X8_solutions_X8 hown hK hP 0 rfl rfl 24 (by decide) lk_3 (fun _ h9 => h9) rfl dX8_solutions_29 ?_
    refine lv_isub hx hb dX8_solutions_32 ?_
    refine lv_lshl (v := jshl (1 : Int64) (f0_n - u_1.1)) hx hb dX8_solutions_33 rfl ?_
    have h := Option.some.inj h
    subst h
    subst hQ
    exact W.lret (v := jshl (1 : Int64) (f0_n - u_1.1)) hx hb hr (fun t ht hW => ⟨⟨jshl (1 : Int64) (f0_n - u_1.1), (), rfl, ⟨rfl, trivial⟩, by rw [ht]; exact hP, hD⟩, hS.F ht⟩) hS.2.2 dX8_solutions_34
  · have k_4 : u_1.2.1 = true := (kx_nz c_3)
    have h := co_t k_4 h
    refine lv_lconst (v := (0 : Int64)) hx hb dX8_solutions_19 (by decide) ?_
    refine lv_goto (tgt := 34) hx hb dX8_solutions_20 (by decide) ?_
    have h := Option.some.inj h
    subst h
    subst hQ
    exact W.lret (v := (0 : Int64)) hx hb hr (fun t ht hW => ⟨⟨(0 : Int64), (), rfl, ⟨rfl, trivial⟩, by rw [ht]; exact hP, hD⟩, hS.F ht⟩) hS.2.2 dX8_solutions_34
