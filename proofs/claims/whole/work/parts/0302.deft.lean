abbrev S_X8_makeRows : Type := (Int32 × Int32 × Bool × (Nat → Int64) × (Nat → Int32)) ⊕ (Int32 × Int64 × Int32 × Int32 × Int32 × Bool × (Nat → Int64) × (Nat → Int32))
noncomputable def b_X8_makeRows_13 (f0_equations : Int32) (n0_eSet : Nat) (h0_eSet : Nat → Int64) (n0_eRight : Nat) (h0_eRight : Nat → Int32) (n0_rSet : Nat) (n0_rRight : Nat) (x1 : Int64) (x3 : Int64) (x5 : Bool) (x6 : Int32) (f0_rowCount : Int32) (f0_isImpossible : Bool) (h0_rSet : Nat → Int64) (h0_rRight : Nat → Int32) : Option (Int32 × Bool × (Nat → Int64) × (Nat → Int32)) ⊕ S_X8_makeRows :=
  cif (f0_equations ≤ x6)
    (cif (f0_isImpossible = true)
      (.inl (some ((0 : Int32), f0_isImpossible, h0_rSet, h0_rRight)))
      (.inl (some (f0_rowCount, f0_isImpossible, h0_rSet, h0_rRight))))
    (cif (vp_in x6 n0_eSet)
      (cif (vp_in x6 n0_eRight)
        (cif (vp_in x6 n0_eSet)
          (sbd (D_X8_parity ((h0_eSet x6.toNatClampNeg) &&& x3)) (fun u_8 =>
            .inr (.inr (x6, (h0_eSet x6.toNatClampNeg) &&& (x1 ^^^ (-1 : Int64)), (h0_eRight x6.toNatClampNeg) ^^^ u_8, (0 : Int32), f0_rowCount, f0_isImpossible, h0_rSet, h0_rRight))))
          (.inl none))
        (.inl none))
      (.inl none))
noncomputable def b_X8_makeRows_62 (f0_equations : Int32) (n0_eSet : Nat) (h0_eSet : Nat → Int64) (n0_eRight : Nat) (h0_eRight : Nat → Int32) (n0_rSet : Nat) (n0_rRight : Nat) (x1 : Int64) (x3 : Int64) (x5 : Bool) (x6 : Int32) (x7 : Int64) (x9 : Int32) (x10 : Int32) (f0_rowCount : Int32) (f0_isImpossible : Bool) (h0_rSet : Nat → Int64) (h0_rRight : Nat → Int32) : Option (Int32 × Bool × (Nat → Int64) × (Nat → Int32)) ⊕ S_X8_makeRows :=
  cif (f0_rowCount ≤ x10)
    (cif (x7 = (0 : Int64))
      (cif (x9 = (1 : Int32))
        (.inr (.inl (x6 + (1 : Int32), f0_rowCount, true, h0_rSet, h0_rRight)))
        (.inr (.inl (x6 + (1 : Int32), f0_rowCount, f0_isImpossible, h0_rSet, h0_rRight))))
      (sbd (D_X8_putRow f0_rowCount n0_rSet h0_rSet n0_rRight h0_rRight x7 x9 x5) (fun u_16 =>
        .inr (.inl (x6 + (1 : Int32), u_16.1, f0_isImpossible, u_16.2.1, u_16.2.2)))))
    (sbd (D_X8_headOf n0_rSet h0_rSet x10 x5) (fun u_18 =>
      cif ((x7 &&& u_18) = (0 : Int64))
        (.inr (.inr (x6, x7, x9, x10 + (1 : Int32), f0_rowCount, f0_isImpossible, h0_rSet, h0_rRight)))
        (cif (vp_in x10 n0_rSet)
          (cif (vp_in x10 n0_rRight)
            (.inr (.inr (x6, x7 ^^^ (h0_rSet x10.toNatClampNeg), x9 ^^^ (h0_rRight x10.toNatClampNeg), x10 + (1 : Int32), f0_rowCount, f0_isImpossible, h0_rSet, h0_rRight)))
            (.inl none))
          (.inl none))))
noncomputable def st_X8_makeRows (f0_equations : Int32) (n0_eSet : Nat) (h0_eSet : Nat → Int64) (n0_eRight : Nat) (h0_eRight : Nat → Int32) (n0_rSet : Nat) (n0_rRight : Nat) (x1 : Int64) (x3 : Int64) (x5 : Bool) : S_X8_makeRows → Option (Int32 × Bool × (Nat → Int64) × (Nat → Int32)) ⊕ S_X8_makeRows := fun x => match x with
  | .inl (x6, f0_rowCount, f0_isImpossible, h0_rSet, h0_rRight) => b_X8_makeRows_13 f0_equations n0_eSet h0_eSet n0_eRight h0_eRight n0_rSet n0_rRight x1 x3 x5 x6 f0_rowCount f0_isImpossible h0_rSet h0_rRight
  | .inr (x6, x7, x9, x10, f0_rowCount, f0_isImpossible, h0_rSet, h0_rRight) => b_X8_makeRows_62 f0_equations n0_eSet h0_eSet n0_eRight h0_eRight n0_rSet n0_rRight x1 x3 x5 x6 x7 x9 x10 f0_rowCount f0_isImpossible h0_rSet h0_rRight
noncomputable def L_X8_makeRows_13 (f0_equations : Int32) (n0_eSet : Nat) (h0_eSet : Nat → Int64) (n0_eRight : Nat) (h0_eRight : Nat → Int32) (n0_rSet : Nat) (n0_rRight : Nat) (x1 : Int64) (x3 : Int64) (x5 : Bool) (x6 : Int32) (f0_rowCount : Int32) (f0_isImpossible : Bool) (h0_rSet : Nat → Int64) (h0_rRight : Nat → Int32) : Option (Int32 × Bool × (Nat → Int64) × (Nat → Int32)) := runw (st_X8_makeRows f0_equations n0_eSet h0_eSet n0_eRight h0_eRight n0_rSet n0_rRight x1 x3 x5) (.inl (x6, f0_rowCount, f0_isImpossible, h0_rSet, h0_rRight))
noncomputable def L_X8_makeRows_62 (f0_equations : Int32) (n0_eSet : Nat) (h0_eSet : Nat → Int64) (n0_eRight : Nat) (h0_eRight : Nat → Int32) (n0_rSet : Nat) (n0_rRight : Nat) (x1 : Int64) (x3 : Int64) (x5 : Bool) (x6 : Int32) (x7 : Int64) (x9 : Int32) (x10 : Int32) (f0_rowCount : Int32) (f0_isImpossible : Bool) (h0_rSet : Nat → Int64) (h0_rRight : Nat → Int32) : Option (Int32 × Bool × (Nat → Int64) × (Nat → Int32)) := runw (st_X8_makeRows f0_equations n0_eSet h0_eSet n0_eRight h0_eRight n0_rSet n0_rRight x1 x3 x5) (.inr (x6, x7, x9, x10, f0_rowCount, f0_isImpossible, h0_rSet, h0_rRight))
theorem E_X8_makeRows_13 (f0_equations : Int32) (n0_eSet : Nat) (h0_eSet : Nat → Int64) (n0_eRight : Nat) (h0_eRight : Nat → Int32) (n0_rSet : Nat) (n0_rRight : Nat) (x1 : Int64) (x3 : Int64) (x5 : Bool) (x6 : Int32) (f0_rowCount : Int32) (f0_isImpossible : Bool) (h0_rSet : Nat → Int64) (h0_rRight : Nat → Int32) : L_X8_makeRows_13 f0_equations n0_eSet h0_eSet n0_eRight h0_eRight n0_rSet n0_rRight x1 x3 x5 x6 f0_rowCount f0_isImpossible h0_rSet h0_rRight =
    cif (f0_equations ≤ x6)
      (cif (f0_isImpossible = true)
        (some ((0 : Int32), f0_isImpossible, h0_rSet, h0_rRight))
        (some (f0_rowCount, f0_isImpossible, h0_rSet, h0_rRight)))
      (cif (vp_in x6 n0_eSet)
        (cif (vp_in x6 n0_eRight)
          (cif (vp_in x6 n0_eSet)
            (Option.bind (D_X8_parity ((h0_eSet x6.toNatClampNeg) &&& x3)) (fun u_8 =>
              L_X8_makeRows_62 f0_equations n0_eSet h0_eSet n0_eRight h0_eRight n0_rSet n0_rRight x1 x3 x5 x6 ((h0_eSet x6.toNatClampNeg) &&& (x1 ^^^ (-1 : Int64))) ((h0_eRight x6.toNatClampNeg) ^^^ u_8) (0 : Int32) f0_rowCount f0_isImpossible h0_rSet h0_rRight))
            (none))
          (none))
        (none)) := by
  show runw (st_X8_makeRows f0_equations n0_eSet h0_eSet n0_eRight h0_eRight n0_rSet n0_rRight x1 x3 x5) (.inl (x6, f0_rowCount, f0_isImpossible, h0_rSet, h0_rRight)) = _
  rw [runw_eq]
  show run1 _ (b_X8_makeRows_13 f0_equations n0_eSet h0_eSet n0_eRight h0_eRight n0_rSet n0_rRight x1 x3 x5 x6 f0_rowCount f0_isImpossible h0_rSet h0_rRight) = _
  simp only [b_X8_makeRows_13, run1_cif, run1_sbd, run1_inl, run1_inr]
  try rfl
theorem E_X8_makeRows_62 (f0_equations : Int32) (n0_eSet : Nat) (h0_eSet : Nat → Int64) (n0_eRight : Nat) (h0_eRight : Nat → Int32) (n0_rSet : Nat) (n0_rRight : Nat) (x1 : Int64) (x3 : Int64) (x5 : Bool) (x6 : Int32) (x7 : Int64) (x9 : Int32) (x10 : Int32) (f0_rowCount : Int32) (f0_isImpossible : Bool) (h0_rSet : Nat → Int64) (h0_rRight : Nat → Int32) : L_X8_makeRows_62 f0_equations n0_eSet h0_eSet n0_eRight h0_eRight n0_rSet n0_rRight x1 x3 x5 x6 x7 x9 x10 f0_rowCount f0_isImpossible h0_rSet h0_rRight =
    cif (f0_rowCount ≤ x10)
      (cif (x7 = (0 : Int64))
        (cif (x9 = (1 : Int32))
          (L_X8_makeRows_13 f0_equations n0_eSet h0_eSet n0_eRight h0_eRight n0_rSet n0_rRight x1 x3 x5 (x6 + (1 : Int32)) f0_rowCount true h0_rSet h0_rRight)
          (L_X8_makeRows_13 f0_equations n0_eSet h0_eSet n0_eRight h0_eRight n0_rSet n0_rRight x1 x3 x5 (x6 + (1 : Int32)) f0_rowCount f0_isImpossible h0_rSet h0_rRight))
        (Option.bind (D_X8_putRow f0_rowCount n0_rSet h0_rSet n0_rRight h0_rRight x7 x9 x5) (fun u_16 =>
          L_X8_makeRows_13 f0_equations n0_eSet h0_eSet n0_eRight h0_eRight n0_rSet n0_rRight x1 x3 x5 (x6 + (1 : Int32)) u_16.1 f0_isImpossible u_16.2.1 u_16.2.2)))
      (Option.bind (D_X8_headOf n0_rSet h0_rSet x10 x5) (fun u_18 =>
        cif ((x7 &&& u_18) = (0 : Int64))
          (L_X8_makeRows_62 f0_equations n0_eSet h0_eSet n0_eRight h0_eRight n0_rSet n0_rRight x1 x3 x5 x6 x7 x9 (x10 + (1 : Int32)) f0_rowCount f0_isImpossible h0_rSet h0_rRight)
          (cif (vp_in x10 n0_rSet)
            (cif (vp_in x10 n0_rRight)
              (L_X8_makeRows_62 f0_equations n0_eSet h0_eSet n0_eRight h0_eRight n0_rSet n0_rRight x1 x3 x5 x6 (x7 ^^^ (h0_rSet x10.toNatClampNeg)) (x9 ^^^ (h0_rRight x10.toNatClampNeg)) (x10 + (1 : Int32)) f0_rowCount f0_isImpossible h0_rSet h0_rRight)
              (none))
            (none)))) := by
  show runw (st_X8_makeRows f0_equations n0_eSet h0_eSet n0_eRight h0_eRight n0_rSet n0_rRight x1 x3 x5) (.inr (x6, x7, x9, x10, f0_rowCount, f0_isImpossible, h0_rSet, h0_rRight)) = _
  rw [runw_eq]
  show run1 _ (b_X8_makeRows_62 f0_equations n0_eSet h0_eSet n0_eRight h0_eRight n0_rSet n0_rRight x1 x3 x5 x6 x7 x9 x10 f0_rowCount f0_isImpossible h0_rSet h0_rRight) = _
  simp only [b_X8_makeRows_62, run1_cif, run1_sbd, run1_inl, run1_inr]
  try rfl
noncomputable def D_X8_makeRows (f0_equations : Int32) (f0_rowCount : Int32) (f0_isImpossible : Bool) (n0_eSet : Nat) (h0_eSet : Nat → Int64) (n0_eRight : Nat) (h0_eRight : Nat → Int32) (n0_rSet : Nat) (h0_rSet : Nat → Int64) (n0_rRight : Nat) (h0_rRight : Nat → Int32) (x1 : Int64) (x3 : Int64) (x5 : Bool) : Option (Int32 × Bool × (Nat → Int64) × (Nat → Int32)) :=
  L_X8_makeRows_13 f0_equations n0_eSet h0_eSet n0_eRight h0_eRight n0_rSet n0_rRight x1 x3 x5 (0 : Int32) (0 : Int32) false h0_rSet h0_rRight
noncomputable def D_X8_rows (f0_thrown : Int32) (f0_equations : Int32) (f0_rowCount : Int32) (f0_isImpossible : Bool) (n0_eSet : Nat) (h0_eSet : Nat → Int64) (n0_eRight : Nat) (h0_eRight : Nat → Int32) (n0_rSet : Nat) (h0_rSet : Nat → Int64) (n0_rRight : Nat) (h0_rRight : Nat → Int32) : Option (Int32 × Int32 × Int32 × Bool × (Nat → Int64) × (Nat → Int32)) :=
  Option.bind (D_X8_makeRows f0_equations f0_rowCount f0_isImpossible n0_eSet h0_eSet n0_eRight h0_eRight n0_rSet h0_rSet n0_rRight h0_rRight (0 : Int64) (0 : Int64) true) (fun u_1 =>
    cif (u_1.2.1 = true)
      (some ((-1 : Int32), (0 : Int32), u_1.1, u_1.2.1, u_1.2.2.1, u_1.2.2.2))
      (some (u_1.1, (0 : Int32), u_1.1, u_1.2.1, u_1.2.2.1, u_1.2.2.2)))
noncomputable def D_X8_row (f0_thrown : Int32) (f0_equations : Int32) (f0_rowCount : Int32) (f0_isImpossible : Bool) (n0_eSet : Nat) (h0_eSet : Nat → Int64) (n0_eRight : Nat) (h0_eRight : Nat → Int32) (n0_rSet : Nat) (h0_rSet : Nat → Int64) (n0_rRight : Nat) (h0_rRight : Nat → Int32) (x1 : Int32) : Option (Int64 × Int32 × Int32 × Bool × (Nat → Int64) × (Nat → Int32)) :=
  Option.bind (D_X8_makeRows f0_equations f0_rowCount f0_isImpossible n0_eSet h0_eSet n0_eRight h0_eRight n0_rSet h0_rSet n0_rRight h0_rRight (0 : Int64) (0 : Int64) true) (fun u_1 =>
    Option.bind (D_X8_isIn x1.toInt64 (0 : Int64) ((u_1.1 - (1 : Int32)).toInt64)) (fun u_3 =>
      Option.bind (D_X8_may f0_thrown u_3 true) (fun u_5 =>
        cif (u_5.1 = true)
          (cif (vp_in x1 n0_rSet)
            (cif (vp_in x1 n0_rRight)
              (cif ((u_1.2.2.2 x1.toNatClampNeg) = (1 : Int32))
                (some ((u_1.2.2.1 x1.toNatClampNeg) ||| (4611686018427387904 : Int64), u_5.2, u_1.1, u_1.2.1, u_1.2.2.1, u_1.2.2.2))
                (some ((u_1.2.2.1 x1.toNatClampNeg) ||| (0 : Int64), u_5.2, u_1.1, u_1.2.1, u_1.2.2.1, u_1.2.2.2)))
              (none))
            (none))
          (some ((0 : Int64), u_5.2, u_1.1, u_1.2.1, u_1.2.2.1, u_1.2.2.2)))))
abbrev S_X8_reduced : Type := (Int64 × Int64) ⊕ (Int64 × Int64 × Int32)
noncomputable def b_X8_reduced_7 (f0_empties : Int32) (n0_empty : Nat) (h0_empty : Nat → Int64) (x1 : Int64) (x3 : Int64) (x5 : Int64) : Option (Int64) ⊕ S_X8_reduced :=
  cif (x5 ≤ (0 : Int64))
    (.inl (some x3))
    (.inr (.inr (x3, x5, (0 : Int32))))
noncomputable def b_X8_reduced_17 (f0_empties : Int32) (n0_empty : Nat) (h0_empty : Nat → Int64) (x1 : Int64) (x3 : Int64) (x5 : Int64) (x7 : Int32) : Option (Int64) ⊕ S_X8_reduced :=
  cif (f0_empties ≤ x7)
    (.inr (.inl (x3, jshr x5 (1 : Int32))))
    (cif ((x3 &&& x5) = (0 : Int64))
      (.inr (.inl (x3, jshr x5 (1 : Int32))))
      (cif (vp_in x7 n0_empty)
        (sbd (D_X8_highest (h0_empty x7.toNatClampNeg)) (fun u_8 =>
          cif (u_8 = x5)
            (cif (vp_in x7 n0_empty)
              (.inr (.inr (x3 ^^^ (h0_empty x7.toNatClampNeg), x5, x7 + (1 : Int32))))
              (.inl none))
            (.inr (.inr (x3, x5, x7 + (1 : Int32))))))
        (.inl none)))
noncomputable def st_X8_reduced (f0_empties : Int32) (n0_empty : Nat) (h0_empty : Nat → Int64) (x1 : Int64) : S_X8_reduced → Option (Int64) ⊕ S_X8_reduced := fun x => match x with
  | .inl (x3, x5) => b_X8_reduced_7 f0_empties n0_empty h0_empty x1 x3 x5
  | .inr (x3, x5, x7) => b_X8_reduced_17 f0_empties n0_empty h0_empty x1 x3 x5 x7
noncomputable def L_X8_reduced_7 (f0_empties : Int32) (n0_empty : Nat) (h0_empty : Nat → Int64) (x1 : Int64) (x3 : Int64) (x5 : Int64) : Option (Int64) := runw (st_X8_reduced f0_empties n0_empty h0_empty x1) (.inl (x3, x5))
noncomputable def L_X8_reduced_17 (f0_empties : Int32) (n0_empty : Nat) (h0_empty : Nat → Int64) (x1 : Int64) (x3 : Int64) (x5 : Int64) (x7 : Int32) : Option (Int64) := runw (st_X8_reduced f0_empties n0_empty h0_empty x1) (.inr (x3, x5, x7))
theorem E_X8_reduced_7 (f0_empties : Int32) (n0_empty : Nat) (h0_empty : Nat → Int64) (x1 : Int64) (x3 : Int64) (x5 : Int64) : L_X8_reduced_7 f0_empties n0_empty h0_empty x1 x3 x5 =
    cif (x5 ≤ (0 : Int64))
      (some x3)
      (L_X8_reduced_17 f0_empties n0_empty h0_empty x1 x3 x5 (0 : Int32)) := by
  show runw (st_X8_reduced f0_empties n0_empty h0_empty x1) (.inl (x3, x5)) = _
  rw [runw_eq]
  show run1 _ (b_X8_reduced_7 f0_empties n0_empty h0_empty x1 x3 x5) = _
  simp only [b_X8_reduced_7, run1_cif, run1_sbd, run1_inl, run1_inr]
  try rfl
theorem E_X8_reduced_17 (f0_empties : Int32) (n0_empty : Nat) (h0_empty : Nat → Int64) (x1 : Int64) (x3 : Int64) (x5 : Int64) (x7 : Int32) : L_X8_reduced_17 f0_empties n0_empty h0_empty x1 x3 x5 x7 =
    cif (f0_empties ≤ x7)
      (L_X8_reduced_7 f0_empties n0_empty h0_empty x1 x3 (jshr x5 (1 : Int32)))
      (cif ((x3 &&& x5) = (0 : Int64))
        (L_X8_reduced_7 f0_empties n0_empty h0_empty x1 x3 (jshr x5 (1 : Int32)))
        (cif (vp_in x7 n0_empty)
          (Option.bind (D_X8_highest (h0_empty x7.toNatClampNeg)) (fun u_8 =>
            cif (u_8 = x5)
              (cif (vp_in x7 n0_empty)
                (L_X8_reduced_17 f0_empties n0_empty h0_empty x1 (x3 ^^^ (h0_empty x7.toNatClampNeg)) x5 (x7 + (1 : Int32)))
                (none))
              (L_X8_reduced_17 f0_empties n0_empty h0_empty x1 x3 x5 (x7 + (1 : Int32)))))
          (none))) := by
  show runw (st_X8_reduced f0_empties n0_empty h0_empty x1) (.inr (x3, x5, x7)) = _
  rw [runw_eq]
  show run1 _ (b_X8_reduced_17 f0_empties n0_empty h0_empty x1 x3 x5 x7) = _
  simp only [b_X8_reduced_17, run1_cif, run1_sbd, run1_inl, run1_inr]
  try rfl
noncomputable def D_X8_reduced (f0_empties : Int32) (n0_empty : Nat) (h0_empty : Nat → Int64) (x1 : Int64) : Option (Int64) :=
  L_X8_reduced_7 f0_empties n0_empty h0_empty x1 x1 (1152921504606846976 : Int64)
abbrev S_X8_blame : Type := (Int32 × Int64 × Int32 × Int32 × Int32 × (Nat → Int64) × (Nat → Int64) × (Nat → Int32) × (Nat → Int64)) ⊕ (Int32 × Int64 × Int32 × Int64 × Int64 × Int32 × Int32 × Int32 × Int32 × (Nat → Int64) × (Nat → Int64) × (Nat → Int32) × (Nat → Int64))
noncomputable def b_X8_blame_17 (f0_equations : Int32) (n0_eSet : Nat) (h0_eSet : Nat → Int64) (n0_eRight : Nat) (h0_eRight : Nat → Int32) (n0_sumSet : Nat) (n0_sumOf : Nat) (n0_sumRight : Nat) (n0_empty : Nat) (x1 : Int32) (x2 : Int64) (x4 : Int32) (f0_thrown : Int32) (f0_empties : Int32) (h0_sumSet : Nat → Int64) (h0_sumOf : Nat → Int64) (h0_sumRight : Nat → Int32) (h0_empty : Nat → Int64) : Option (Int64 × Int32 × Int32 × (Nat → Int64) × (Nat → Int64) × (Nat → Int32) × (Nat → Int64)) ⊕ S_X8_blame :=
  cif (f0_equations ≤ x4)
    (cif (x2 = (0 : Int64))
      (.inl (some ((0 : Int64), f0_thrown, f0_empties, h0_sumSet, h0_sumOf, h0_sumRight, h0_empty)))
      (sbd (D_X8_reduced f0_empties n0_empty h0_empty x2) (fun u_5 =>
        .inl (some (u_5, f0_thrown, f0_empties, h0_sumSet, h0_sumOf, h0_sumRight, h0_empty)))))
    (cif (vp_in x4 n0_eSet)
      (cif (vp_in x4 n0_eRight)
        (.inr (.inr (x1, x2, x4, h0_eSet x4.toNatClampNeg, jshl (1 : Int64) x4, h0_eRight x4.toNatClampNeg, (0 : Int32), f0_thrown, f0_empties, h0_sumSet, h0_sumOf, h0_sumRight, h0_empty)))
        (.inl none))
      (.inl none))
noncomputable def b_X8_blame_53 (f0_equations : Int32) (n0_eSet : Nat) (h0_eSet : Nat → Int64) (n0_eRight : Nat) (h0_eRight : Nat → Int32) (n0_sumSet : Nat) (n0_sumOf : Nat) (n0_sumRight : Nat) (n0_empty : Nat) (x1 : Int32) (x2 : Int64) (x4 : Int32) (x5 : Int64) (x7 : Int64) (x9 : Int32) (x10 : Int32) (f0_thrown : Int32) (f0_empties : Int32) (h0_sumSet : Nat → Int64) (h0_sumOf : Nat → Int64) (h0_sumRight : Nat → Int32) (h0_empty : Nat → Int64) : Option (Int64 × Int32 × Int32 × (Nat → Int64) × (Nat → Int64) × (Nat → Int32) × (Nat → Int64)) ⊕ S_X8_blame :=
  cif (x1 ≤ x10)
    (cif (x5 = (0 : Int64))
      (cif (x9 = (1 : Int32))
        (cif (x2 = (0 : Int64))
          (.inr (.inl (x1, x7, x4 + (1 : Int32), f0_thrown, f0_empties, h0_sumSet, h0_sumOf, h0_sumRight, h0_empty)))
          (sbd (D_X8_reduced f0_empties n0_empty h0_empty (x7 ^^^ x2)) (fun u_24 =>
            cif (u_24 = (0 : Int64))
              (.inr (.inl (x1, x2, x4 + (1 : Int32), f0_thrown, f0_empties, h0_sumSet, h0_sumOf, h0_sumRight, h0_empty)))
              (cif (vp_in f0_empties n0_empty)
                (.inr (.inl (x1, x2, x4 + (1 : Int32), f0_thrown, f0_empties + (1 : Int32), h0_sumSet, h0_sumOf, h0_sumRight, vp_updL h0_empty f0_empties.toNatClampNeg u_24)))
                (.inl none)))))
        (sbd (D_X8_reduced f0_empties n0_empty h0_empty x7) (fun u_16 =>
          cif (u_16 = (0 : Int64))
            (.inr (.inl (x1, x2, x4 + (1 : Int32), f0_thrown, f0_empties, h0_sumSet, h0_sumOf, h0_sumRight, h0_empty)))
            (cif (vp_in f0_empties n0_empty)
              (.inr (.inl (x1, x2, x4 + (1 : Int32), f0_thrown, f0_empties + (1 : Int32), h0_sumSet, h0_sumOf, h0_sumRight, vp_updL h0_empty f0_empties.toNatClampNeg u_16)))
              (.inl none)))))
      (cif (vp_in x1 n0_sumSet)
        (cif (vp_in x1 n0_sumOf)
          (cif (vp_in x1 n0_sumRight)
            (.inr (.inl (x1 + (1 : Int32), x2, x4 + (1 : Int32), f0_thrown, f0_empties, vp_updL h0_sumSet x1.toNatClampNeg x5, vp_updL h0_sumOf x1.toNatClampNeg x7, upd h0_sumRight x1.toNatClampNeg x9, h0_empty)))
            (.inl none))
          (.inl none))
        (.inl none)))
    (cif (vp_in x10 n0_sumSet)
      (sbd (D_X8_lowest (h0_sumSet x10.toNatClampNeg)) (fun u_33 =>
        cif ((x5 &&& u_33) = (0 : Int64))
          (.inr (.inr (x1, x2, x4, x5, x7, x9, x10 + (1 : Int32), f0_thrown, f0_empties, h0_sumSet, h0_sumOf, h0_sumRight, h0_empty)))
          (cif (vp_in x10 n0_sumSet)
            (cif (vp_in x10 n0_sumOf)
              (cif (vp_in x10 n0_sumRight)
                (.inr (.inr (x1, x2, x4, x5 ^^^ (h0_sumSet x10.toNatClampNeg), x7 ^^^ (h0_sumOf x10.toNatClampNeg), x9 ^^^ (h0_sumRight x10.toNatClampNeg), x10 + (1 : Int32), f0_thrown, f0_empties, h0_sumSet, h0_sumOf, h0_sumRight, h0_empty)))
                (.inl none))
              (.inl none))
            (.inl none))))
      (.inl none))
noncomputable def st_X8_blame (f0_equations : Int32) (n0_eSet : Nat) (h0_eSet : Nat → Int64) (n0_eRight : Nat) (h0_eRight : Nat → Int32) (n0_sumSet : Nat) (n0_sumOf : Nat) (n0_sumRight : Nat) (n0_empty : Nat) : S_X8_blame → Option (Int64 × Int32 × Int32 × (Nat → Int64) × (Nat → Int64) × (Nat → Int32) × (Nat → Int64)) ⊕ S_X8_blame := fun x => match x with
  | .inl (x1, x2, x4, f0_thrown, f0_empties, h0_sumSet, h0_sumOf, h0_sumRight, h0_empty) => b_X8_blame_17 f0_equations n0_eSet h0_eSet n0_eRight h0_eRight n0_sumSet n0_sumOf n0_sumRight n0_empty x1 x2 x4 f0_thrown f0_empties h0_sumSet h0_sumOf h0_sumRight h0_empty
  | .inr (x1, x2, x4, x5, x7, x9, x10, f0_thrown, f0_empties, h0_sumSet, h0_sumOf, h0_sumRight, h0_empty) => b_X8_blame_53 f0_equations n0_eSet h0_eSet n0_eRight h0_eRight n0_sumSet n0_sumOf n0_sumRight n0_empty x1 x2 x4 x5 x7 x9 x10 f0_thrown f0_empties h0_sumSet h0_sumOf h0_sumRight h0_empty
noncomputable def L_X8_blame_17 (f0_equations : Int32) (n0_eSet : Nat) (h0_eSet : Nat → Int64) (n0_eRight : Nat) (h0_eRight : Nat → Int32) (n0_sumSet : Nat) (n0_sumOf : Nat) (n0_sumRight : Nat) (n0_empty : Nat) (x1 : Int32) (x2 : Int64) (x4 : Int32) (f0_thrown : Int32) (f0_empties : Int32) (h0_sumSet : Nat → Int64) (h0_sumOf : Nat → Int64) (h0_sumRight : Nat → Int32) (h0_empty : Nat → Int64) : Option (Int64 × Int32 × Int32 × (Nat → Int64) × (Nat → Int64) × (Nat → Int32) × (Nat → Int64)) := runw (st_X8_blame f0_equations n0_eSet h0_eSet n0_eRight h0_eRight n0_sumSet n0_sumOf n0_sumRight n0_empty) (.inl (x1, x2, x4, f0_thrown, f0_empties, h0_sumSet, h0_sumOf, h0_sumRight, h0_empty))
noncomputable def L_X8_blame_53 (f0_equations : Int32) (n0_eSet : Nat) (h0_eSet : Nat → Int64) (n0_eRight : Nat) (h0_eRight : Nat → Int32) (n0_sumSet : Nat) (n0_sumOf : Nat) (n0_sumRight : Nat) (n0_empty : Nat) (x1 : Int32) (x2 : Int64) (x4 : Int32) (x5 : Int64) (x7 : Int64) (x9 : Int32) (x10 : Int32) (f0_thrown : Int32) (f0_empties : Int32) (h0_sumSet : Nat → Int64) (h0_sumOf : Nat → Int64) (h0_sumRight : Nat → Int32) (h0_empty : Nat → Int64) : Option (Int64 × Int32 × Int32 × (Nat → Int64) × (Nat → Int64) × (Nat → Int32) × (Nat → Int64)) := runw (st_X8_blame f0_equations n0_eSet h0_eSet n0_eRight h0_eRight n0_sumSet n0_sumOf n0_sumRight n0_empty) (.inr (x1, x2, x4, x5, x7, x9, x10, f0_thrown, f0_empties, h0_sumSet, h0_sumOf, h0_sumRight, h0_empty))
theorem E_X8_blame_17 (f0_equations : Int32) (n0_eSet : Nat) (h0_eSet : Nat → Int64) (n0_eRight : Nat) (h0_eRight : Nat → Int32) (n0_sumSet : Nat) (n0_sumOf : Nat) (n0_sumRight : Nat) (n0_empty : Nat) (x1 : Int32) (x2 : Int64) (x4 : Int32) (f0_thrown : Int32) (f0_empties : Int32) (h0_sumSet : Nat → Int64) (h0_sumOf : Nat → Int64) (h0_sumRight : Nat → Int32) (h0_empty : Nat → Int64) : L_X8_blame_17 f0_equations n0_eSet h0_eSet n0_eRight h0_eRight n0_sumSet n0_sumOf n0_sumRight n0_empty x1 x2 x4 f0_thrown f0_empties h0_sumSet h0_sumOf h0_sumRight h0_empty =
    cif (f0_equations ≤ x4)
      (cif (x2 = (0 : Int64))
        (some ((0 : Int64), f0_thrown, f0_empties, h0_sumSet, h0_sumOf, h0_sumRight, h0_empty))
        (Option.bind (D_X8_reduced f0_empties n0_empty h0_empty x2) (fun u_5 =>
          some (u_5, f0_thrown, f0_empties, h0_sumSet, h0_sumOf, h0_sumRight, h0_empty))))
      (cif (vp_in x4 n0_eSet)
        (cif (vp_in x4 n0_eRight)
          (L_X8_blame_53 f0_equations n0_eSet h0_eSet n0_eRight h0_eRight n0_sumSet n0_sumOf n0_sumRight n0_empty x1 x2 x4 (h0_eSet x4.toNatClampNeg) (jshl (1 : Int64) x4) (h0_eRight x4.toNatClampNeg) (0 : Int32) f0_thrown f0_empties h0_sumSet h0_sumOf h0_sumRight h0_empty)
          (none))
        (none)) := by
  show runw (st_X8_blame f0_equations n0_eSet h0_eSet n0_eRight h0_eRight n0_sumSet n0_sumOf n0_sumRight n0_empty) (.inl (x1, x2, x4, f0_thrown, f0_empties, h0_sumSet, h0_sumOf, h0_sumRight, h0_empty)) = _
  rw [runw_eq]
  show run1 _ (b_X8_blame_17 f0_equations n0_eSet h0_eSet n0_eRight h0_eRight n0_sumSet n0_sumOf n0_sumRight n0_empty x1 x2 x4 f0_thrown f0_empties h0_sumSet h0_sumOf h0_sumRight h0_empty) = _
  simp only [b_X8_blame_17, run1_cif, run1_sbd, run1_inl, run1_inr]
  try rfl
theorem E_X8_blame_53 (f0_equations : Int32) (n0_eSet : Nat) (h0_eSet : Nat → Int64) (n0_eRight : Nat) (h0_eRight : Nat → Int32) (n0_sumSet : Nat) (n0_sumOf : Nat) (n0_sumRight : Nat) (n0_empty : Nat) (x1 : Int32) (x2 : Int64) (x4 : Int32) (x5 : Int64) (x7 : Int64) (x9 : Int32) (x10 : Int32) (f0_thrown : Int32) (f0_empties : Int32) (h0_sumSet : Nat → Int64) (h0_sumOf : Nat → Int64) (h0_sumRight : Nat → Int32) (h0_empty : Nat → Int64) : L_X8_blame_53 f0_equations n0_eSet h0_eSet n0_eRight h0_eRight n0_sumSet n0_sumOf n0_sumRight n0_empty x1 x2 x4 x5 x7 x9 x10 f0_thrown f0_empties h0_sumSet h0_sumOf h0_sumRight h0_empty =
    cif (x1 ≤ x10)
      (cif (x5 = (0 : Int64))
        (cif (x9 = (1 : Int32))
          (cif (x2 = (0 : Int64))
            (L_X8_blame_17 f0_equations n0_eSet h0_eSet n0_eRight h0_eRight n0_sumSet n0_sumOf n0_sumRight n0_empty x1 x7 (x4 + (1 : Int32)) f0_thrown f0_empties h0_sumSet h0_sumOf h0_sumRight h0_empty)
            (Option.bind (D_X8_reduced f0_empties n0_empty h0_empty (x7 ^^^ x2)) (fun u_24 =>
              cif (u_24 = (0 : Int64))
                (L_X8_blame_17 f0_equations n0_eSet h0_eSet n0_eRight h0_eRight n0_sumSet n0_sumOf n0_sumRight n0_empty x1 x2 (x4 + (1 : Int32)) f0_thrown f0_empties h0_sumSet h0_sumOf h0_sumRight h0_empty)
                (cif (vp_in f0_empties n0_empty)
                  (L_X8_blame_17 f0_equations n0_eSet h0_eSet n0_eRight h0_eRight n0_sumSet n0_sumOf n0_sumRight n0_empty x1 x2 (x4 + (1 : Int32)) f0_thrown (f0_empties + (1 : Int32)) h0_sumSet h0_sumOf h0_sumRight (vp_updL h0_empty f0_empties.toNatClampNeg u_24))
                  (none)))))
          (Option.bind (D_X8_reduced f0_empties n0_empty h0_empty x7) (fun u_16 =>
            cif (u_16 = (0 : Int64))
              (L_X8_blame_17 f0_equations n0_eSet h0_eSet n0_eRight h0_eRight n0_sumSet n0_sumOf n0_sumRight n0_empty x1 x2 (x4 + (1 : Int32)) f0_thrown f0_empties h0_sumSet h0_sumOf h0_sumRight h0_empty)
              (cif (vp_in f0_empties n0_empty)
                (L_X8_blame_17 f0_equations n0_eSet h0_eSet n0_eRight h0_eRight n0_sumSet n0_sumOf n0_sumRight n0_empty x1 x2 (x4 + (1 : Int32)) f0_thrown (f0_empties + (1 : Int32)) h0_sumSet h0_sumOf h0_sumRight (vp_updL h0_empty f0_empties.toNatClampNeg u_16))
                (none)))))
        (cif (vp_in x1 n0_sumSet)
          (cif (vp_in x1 n0_sumOf)
            (cif (vp_in x1 n0_sumRight)
              (L_X8_blame_17 f0_equations n0_eSet h0_eSet n0_eRight h0_eRight n0_sumSet n0_sumOf n0_sumRight n0_empty (x1 + (1 : Int32)) x2 (x4 + (1 : Int32)) f0_thrown f0_empties (vp_updL h0_sumSet x1.toNatClampNeg x5) (vp_updL h0_sumOf x1.toNatClampNeg x7) (upd h0_sumRight x1.toNatClampNeg x9) h0_empty)
              (none))
            (none))
          (none)))
      (cif (vp_in x10 n0_sumSet)
        (Option.bind (D_X8_lowest (h0_sumSet x10.toNatClampNeg)) (fun u_33 =>
          cif ((x5 &&& u_33) = (0 : Int64))
            (L_X8_blame_53 f0_equations n0_eSet h0_eSet n0_eRight h0_eRight n0_sumSet n0_sumOf n0_sumRight n0_empty x1 x2 x4 x5 x7 x9 (x10 + (1 : Int32)) f0_thrown f0_empties h0_sumSet h0_sumOf h0_sumRight h0_empty)
            (cif (vp_in x10 n0_sumSet)
              (cif (vp_in x10 n0_sumOf)
                (cif (vp_in x10 n0_sumRight)
                  (L_X8_blame_53 f0_equations n0_eSet h0_eSet n0_eRight h0_eRight n0_sumSet n0_sumOf n0_sumRight n0_empty x1 x2 x4 (x5 ^^^ (h0_sumSet x10.toNatClampNeg)) (x7 ^^^ (h0_sumOf x10.toNatClampNeg)) (x9 ^^^ (h0_sumRight x10.toNatClampNeg)) (x10 + (1 : Int32)) f0_thrown f0_empties h0_sumSet h0_sumOf h0_sumRight h0_empty)
                  (none))
                (none))
              (none))))
        (none)) := by
  show runw (st_X8_blame f0_equations n0_eSet h0_eSet n0_eRight h0_eRight n0_sumSet n0_sumOf n0_sumRight n0_empty) (.inr (x1, x2, x4, x5, x7, x9, x10, f0_thrown, f0_empties, h0_sumSet, h0_sumOf, h0_sumRight, h0_empty)) = _
  rw [runw_eq]
  show run1 _ (b_X8_blame_53 f0_equations n0_eSet h0_eSet n0_eRight h0_eRight n0_sumSet n0_sumOf n0_sumRight n0_empty x1 x2 x4 x5 x7 x9 x10 f0_thrown f0_empties h0_sumSet h0_sumOf h0_sumRight h0_empty) = _
  simp only [b_X8_blame_53, run1_cif, run1_sbd, run1_inl, run1_inr]
  try rfl
noncomputable def D_X8_blame (f0_thrown : Int32) (f0_equations : Int32) (f0_empties : Int32) (n0_eSet : Nat) (h0_eSet : Nat → Int64) (n0_eRight : Nat) (h0_eRight : Nat → Int32) (n0_sumSet : Nat) (h0_sumSet : Nat → Int64) (n0_sumOf : Nat) (h0_sumOf : Nat → Int64) (n0_sumRight : Nat) (h0_sumRight : Nat → Int32) (n0_empty : Nat) (h0_empty : Nat → Int64) : Option (Int64 × Int32 × Int32 × (Nat → Int64) × (Nat → Int64) × (Nat → Int32) × (Nat → Int64)) :=
  L_X8_blame_17 f0_equations n0_eSet h0_eSet n0_eRight h0_eRight n0_sumSet n0_sumOf n0_sumRight n0_empty (0 : Int32) (0 : Int64) (0 : Int32) (0 : Int32) (0 : Int32) h0_sumSet h0_sumOf h0_sumRight h0_empty
noncomputable def D_X8_solutions (f0_thrown : Int32) (f0_n : Int32) (f0_equations : Int32) (f0_rowCount : Int32) (f0_isImpossible : Bool) (n0_eSet : Nat) (h0_eSet : Nat → Int64) (n0_eRight : Nat) (h0_eRight : Nat → Int32) (n0_rSet : Nat) (h0_rSet : Nat → Int64) (n0_rRight : Nat) (h0_rRight : Nat → Int32) : Option (Int64 × Int32 × Int32 × Bool × (Nat → Int64) × (Nat → Int32)) :=
  Option.bind (D_X8_makeRows f0_equations f0_rowCount f0_isImpossible n0_eSet h0_eSet n0_eRight h0_eRight n0_rSet h0_rSet n0_rRight h0_rRight (0 : Int64) (0 : Int64) true) (fun u_1 =>
    cif (u_1.2.1 = true)
      (some ((0 : Int64), (0 : Int32), u_1.1, u_1.2.1, u_1.2.2.1, u_1.2.2.2))
      (some (jshl (1 : Int64) (f0_n - u_1.1), (0 : Int32), u_1.1, u_1.2.1, u_1.2.2.1, u_1.2.2.2)))
abbrev S_X8_solution : Type := (Int32 × Int64 × Int32 × Int32 × Int32 × Int32 × Bool × (Nat → Int64) × (Nat → Int32))
noncomputable def b_X8_solution_64 (f0_n : Int32) (f0_equations : Int32) (n0_eSet : Nat) (h0_eSet : Nat → Int64) (n0_eRight : Nat) (h0_eRight : Nat → Int32) (n0_rSet : Nat) (n0_rRight : Nat) (x1 : Int64) (x3 : Int32) (x4 : Int64) (x6 : Int32) (x7 : Int32) (f0_thrown : Int32) (f0_rowCount : Int32) (f0_isImpossible : Bool) (h0_rSet : Nat → Int64) (h0_rRight : Nat → Int32) : Option (Int64 × Int32 × Int32 × Bool × (Nat → Int64) × (Nat → Int32)) ⊕ S_X8_solution :=
  cif (f0_n ≤ x7)
    (.inl (some (x4, f0_thrown, f0_rowCount, f0_isImpossible, h0_rSet, h0_rRight)))
    (cif (f0_rowCount ≤ x6)
      (cif (((jshr x1 (x3 + (-1 : Int32))) &&& (1 : Int64)) = (1 : Int64))
        (.inr (x3 + (-1 : Int32), x4 ||| (jshl (1 : Int64) x7), x6, x7 + (1 : Int32), f0_thrown, f0_rowCount, f0_isImpossible, h0_rSet, h0_rRight))
        (.inr (x3 + (-1 : Int32), x4 ||| (0 : Int64), x6, x7 + (1 : Int32), f0_thrown, f0_rowCount, f0_isImpossible, h0_rSet, h0_rRight)))
      (cif (vp_in x6 n0_rSet)
        (sbd (D_X8_highest (h0_rSet x6.toNatClampNeg)) (fun u_16 =>
          cif (u_16 = (jshl (1 : Int64) x7))
            (cif (vp_in x6 n0_rRight)
              (cif (vp_in x6 n0_rSet)
                (sbd (D_X8_parity ((h0_rSet x6.toNatClampNeg) &&& x4)) (fun u_24 =>
                  cif (((h0_rRight x6.toNatClampNeg) ^^^ u_24) = (1 : Int32))
                    (.inr (x3, x4 ||| (jshl (1 : Int64) x7), x6 + (1 : Int32), x7 + (1 : Int32), f0_thrown, f0_rowCount, f0_isImpossible, h0_rSet, h0_rRight))
                    (.inr (x3, x4 ||| (0 : Int64), x6 + (1 : Int32), x7 + (1 : Int32), f0_thrown, f0_rowCount, f0_isImpossible, h0_rSet, h0_rRight))))
                (.inl none))
              (.inl none))
            (cif (((jshr x1 (x3 + (-1 : Int32))) &&& (1 : Int64)) = (1 : Int64))
              (.inr (x3 + (-1 : Int32), x4 ||| (jshl (1 : Int64) x7), x6, x7 + (1 : Int32), f0_thrown, f0_rowCount, f0_isImpossible, h0_rSet, h0_rRight))
              (.inr (x3 + (-1 : Int32), x4 ||| (0 : Int64), x6, x7 + (1 : Int32), f0_thrown, f0_rowCount, f0_isImpossible, h0_rSet, h0_rRight)))))
        (.inl none)))
noncomputable def st_X8_solution (f0_n : Int32) (f0_equations : Int32) (n0_eSet : Nat) (h0_eSet : Nat → Int64) (n0_eRight : Nat) (h0_eRight : Nat → Int32) (n0_rSet : Nat) (n0_rRight : Nat) (x1 : Int64) : S_X8_solution → Option (Int64 × Int32 × Int32 × Bool × (Nat → Int64) × (Nat → Int32)) ⊕ S_X8_solution := fun x => match x with
  | (x3, x4, x6, x7, f0_thrown, f0_rowCount, f0_isImpossible, h0_rSet, h0_rRight) => b_X8_solution_64 f0_n f0_equations n0_eSet h0_eSet n0_eRight h0_eRight n0_rSet n0_rRight x1 x3 x4 x6 x7 f0_thrown f0_rowCount f0_isImpossible h0_rSet h0_rRight
noncomputable def L_X8_solution_64 (f0_n : Int32) (f0_equations : Int32) (n0_eSet : Nat) (h0_eSet : Nat → Int64) (n0_eRight : Nat) (h0_eRight : Nat → Int32) (n0_rSet : Nat) (n0_rRight : Nat) (x1 : Int64) (x3 : Int32) (x4 : Int64) (x6 : Int32) (x7 : Int32) (f0_thrown : Int32) (f0_rowCount : Int32) (f0_isImpossible : Bool) (h0_rSet : Nat → Int64) (h0_rRight : Nat → Int32) : Option (Int64 × Int32 × Int32 × Bool × (Nat → Int64) × (Nat → Int32)) := runw (st_X8_solution f0_n f0_equations n0_eSet h0_eSet n0_eRight h0_eRight n0_rSet n0_rRight x1) (x3, x4, x6, x7, f0_thrown, f0_rowCount, f0_isImpossible, h0_rSet, h0_rRight)
theorem E_X8_solution_64 (f0_n : Int32) (f0_equations : Int32) (n0_eSet : Nat) (h0_eSet : Nat → Int64) (n0_eRight : Nat) (h0_eRight : Nat → Int32) (n0_rSet : Nat) (n0_rRight : Nat) (x1 : Int64) (x3 : Int32) (x4 : Int64) (x6 : Int32) (x7 : Int32) (f0_thrown : Int32) (f0_rowCount : Int32) (f0_isImpossible : Bool) (h0_rSet : Nat → Int64) (h0_rRight : Nat → Int32) : L_X8_solution_64 f0_n f0_equations n0_eSet h0_eSet n0_eRight h0_eRight n0_rSet n0_rRight x1 x3 x4 x6 x7 f0_thrown f0_rowCount f0_isImpossible h0_rSet h0_rRight =
    cif (f0_n ≤ x7)
      (some (x4, f0_thrown, f0_rowCount, f0_isImpossible, h0_rSet, h0_rRight))
      (cif (f0_rowCount ≤ x6)
        (cif (((jshr x1 (x3 + (-1 : Int32))) &&& (1 : Int64)) = (1 : Int64))
          (L_X8_solution_64 f0_n f0_equations n0_eSet h0_eSet n0_eRight h0_eRight n0_rSet n0_rRight x1 (x3 + (-1 : Int32)) (x4 ||| (jshl (1 : Int64) x7)) x6 (x7 + (1 : Int32)) f0_thrown f0_rowCount f0_isImpossible h0_rSet h0_rRight)
          (L_X8_solution_64 f0_n f0_equations n0_eSet h0_eSet n0_eRight h0_eRight n0_rSet n0_rRight x1 (x3 + (-1 : Int32)) (x4 ||| (0 : Int64)) x6 (x7 + (1 : Int32)) f0_thrown f0_rowCount f0_isImpossible h0_rSet h0_rRight))
        (cif (vp_in x6 n0_rSet)
          (Option.bind (D_X8_highest (h0_rSet x6.toNatClampNeg)) (fun u_16 =>
            cif (u_16 = (jshl (1 : Int64) x7))
              (cif (vp_in x6 n0_rRight)
                (cif (vp_in x6 n0_rSet)
                  (Option.bind (D_X8_parity ((h0_rSet x6.toNatClampNeg) &&& x4)) (fun u_24 =>
                    cif (((h0_rRight x6.toNatClampNeg) ^^^ u_24) = (1 : Int32))
                      (L_X8_solution_64 f0_n f0_equations n0_eSet h0_eSet n0_eRight h0_eRight n0_rSet n0_rRight x1 x3 (x4 ||| (jshl (1 : Int64) x7)) (x6 + (1 : Int32)) (x7 + (1 : Int32)) f0_thrown f0_rowCount f0_isImpossible h0_rSet h0_rRight)
                      (L_X8_solution_64 f0_n f0_equations n0_eSet h0_eSet n0_eRight h0_eRight n0_rSet n0_rRight x1 x3 (x4 ||| (0 : Int64)) (x6 + (1 : Int32)) (x7 + (1 : Int32)) f0_thrown f0_rowCount f0_isImpossible h0_rSet h0_rRight)))
                  (none))
                (none))
              (cif (((jshr x1 (x3 + (-1 : Int32))) &&& (1 : Int64)) = (1 : Int64))
                (L_X8_solution_64 f0_n f0_equations n0_eSet h0_eSet n0_eRight h0_eRight n0_rSet n0_rRight x1 (x3 + (-1 : Int32)) (x4 ||| (jshl (1 : Int64) x7)) x6 (x7 + (1 : Int32)) f0_thrown f0_rowCount f0_isImpossible h0_rSet h0_rRight)
                (L_X8_solution_64 f0_n f0_equations n0_eSet h0_eSet n0_eRight h0_eRight n0_rSet n0_rRight x1 (x3 + (-1 : Int32)) (x4 ||| (0 : Int64)) x6 (x7 + (1 : Int32)) f0_thrown f0_rowCount f0_isImpossible h0_rSet h0_rRight))))
          (none))) := by
  show runw (st_X8_solution f0_n f0_equations n0_eSet h0_eSet n0_eRight h0_eRight n0_rSet n0_rRight x1) (x3, x4, x6, x7, f0_thrown, f0_rowCount, f0_isImpossible, h0_rSet, h0_rRight) = _
  rw [runw_eq]
  show run1 _ (b_X8_solution_64 f0_n f0_equations n0_eSet h0_eSet n0_eRight h0_eRight n0_rSet n0_rRight x1 x3 x4 x6 x7 f0_thrown f0_rowCount f0_isImpossible h0_rSet h0_rRight) = _
  simp only [b_X8_solution_64, run1_cif, run1_sbd, run1_inl, run1_inr]
  try rfl
noncomputable def D_X8_solution (f0_thrown : Int32) (f0_n : Int32) (f0_equations : Int32) (f0_rowCount : Int32) (f0_isImpossible : Bool) (n0_eSet : Nat) (h0_eSet : Nat → Int64) (n0_eRight : Nat) (h0_eRight : Nat → Int32) (n0_rSet : Nat) (h0_rSet : Nat → Int64) (n0_rRight : Nat) (h0_rRight : Nat → Int32) (x1 : Int64) : Option (Int64 × Int32 × Int32 × Bool × (Nat → Int64) × (Nat → Int32)) :=
  Option.bind (D_X8_makeRows f0_equations f0_rowCount f0_isImpossible n0_eSet h0_eSet n0_eRight h0_eRight n0_rSet h0_rSet n0_rRight h0_rRight (0 : Int64) (0 : Int64) false) (fun u_1 =>
    cif (u_1.2.1 = true)
      (some ((-1 : Int64), (0 : Int32), u_1.1, u_1.2.1, u_1.2.2.1, u_1.2.2.2))
      (cif (x1 < (0 : Int64))
        (some ((-1 : Int64), (0 : Int32), u_1.1, u_1.2.1, u_1.2.2.1, u_1.2.2.2))
        (cif (x1 < (jshl (1 : Int64) (f0_n - u_1.1)))
          (L_X8_solution_64 f0_n f0_equations n0_eSet h0_eSet n0_eRight h0_eRight n0_rSet n0_rRight x1 (f0_n - u_1.1) (0 : Int64) (0 : Int32) (0 : Int32) (0 : Int32) u_1.1 u_1.2.1 u_1.2.2.1 u_1.2.2.2)
          (some ((-1 : Int64), (0 : Int32), u_1.1, u_1.2.1, u_1.2.2.1, u_1.2.2.2)))))
abbrev S_X8_sum : Type := (Int64 × Int32 × Int32 × Int32 × Int32 × Bool × (Nat → Int64) × (Nat → Int32))
noncomputable def b_X8_sum_40 (f0_n : Int32) (f0_equations : Int32) (n0_eSet : Nat) (h0_eSet : Nat → Int64) (n0_eRight : Nat) (h0_eRight : Nat → Int32) (n0_rSet : Nat) (n0_rRight : Nat) (x1 : Int64) (x3 : Int64) (x5 : Int32) (x6 : Int32) (f0_thrown : Int32) (f0_rowCount : Int32) (f0_isImpossible : Bool) (h0_rSet : Nat → Int64) (h0_rRight : Nat → Int32) : Option (Int32 × Int32 × Int32 × Bool × (Nat → Int64) × (Nat → Int32)) ⊕ S_X8_sum :=
  cif (f0_rowCount ≤ x6)
    (cif (x3 = (0 : Int64))
      (.inl (some (x5, f0_thrown, f0_rowCount, f0_isImpossible, h0_rSet, h0_rRight)))
      (.inl (some ((-1 : Int32), f0_thrown, f0_rowCount, f0_isImpossible, h0_rSet, h0_rRight))))
    (cif (vp_in x6 n0_rSet)
      (sbd (D_X8_lowest (h0_rSet x6.toNatClampNeg)) (fun u_16 =>
        cif ((x3 &&& u_16) = (0 : Int64))
          (.inr (x3, x5, x6 + (1 : Int32), f0_thrown, f0_rowCount, f0_isImpossible, h0_rSet, h0_rRight))
          (cif (vp_in x6 n0_rSet)
            (cif (vp_in x6 n0_rRight)
              (.inr (x3 ^^^ (h0_rSet x6.toNatClampNeg), x5 ^^^ (h0_rRight x6.toNatClampNeg), x6 + (1 : Int32), f0_thrown, f0_rowCount, f0_isImpossible, h0_rSet, h0_rRight))
              (.inl none))
            (.inl none))))
      (.inl none))
noncomputable def st_X8_sum (f0_n : Int32) (f0_equations : Int32) (n0_eSet : Nat) (h0_eSet : Nat → Int64) (n0_eRight : Nat) (h0_eRight : Nat → Int32) (n0_rSet : Nat) (n0_rRight : Nat) (x1 : Int64) : S_X8_sum → Option (Int32 × Int32 × Int32 × Bool × (Nat → Int64) × (Nat → Int32)) ⊕ S_X8_sum := fun x => match x with
  | (x3, x5, x6, f0_thrown, f0_rowCount, f0_isImpossible, h0_rSet, h0_rRight) => b_X8_sum_40 f0_n f0_equations n0_eSet h0_eSet n0_eRight h0_eRight n0_rSet n0_rRight x1 x3 x5 x6 f0_thrown f0_rowCount f0_isImpossible h0_rSet h0_rRight
noncomputable def L_X8_sum_40 (f0_n : Int32) (f0_equations : Int32) (n0_eSet : Nat) (h0_eSet : Nat → Int64) (n0_eRight : Nat) (h0_eRight : Nat → Int32) (n0_rSet : Nat) (n0_rRight : Nat) (x1 : Int64) (x3 : Int64) (x5 : Int32) (x6 : Int32) (f0_thrown : Int32) (f0_rowCount : Int32) (f0_isImpossible : Bool) (h0_rSet : Nat → Int64) (h0_rRight : Nat → Int32) : Option (Int32 × Int32 × Int32 × Bool × (Nat → Int64) × (Nat → Int32)) := runw (st_X8_sum f0_n f0_equations n0_eSet h0_eSet n0_eRight h0_eRight n0_rSet n0_rRight x1) (x3, x5, x6, f0_thrown, f0_rowCount, f0_isImpossible, h0_rSet, h0_rRight)
theorem E_X8_sum_40 (f0_n : Int32) (f0_equations : Int32) (n0_eSet : Nat) (h0_eSet : Nat → Int64) (n0_eRight : Nat) (h0_eRight : Nat → Int32) (n0_rSet : Nat) (n0_rRight : Nat) (x1 : Int64) (x3 : Int64) (x5 : Int32) (x6 : Int32) (f0_thrown : Int32) (f0_rowCount : Int32) (f0_isImpossible : Bool) (h0_rSet : Nat → Int64) (h0_rRight : Nat → Int32) : L_X8_sum_40 f0_n f0_equations n0_eSet h0_eSet n0_eRight h0_eRight n0_rSet n0_rRight x1 x3 x5 x6 f0_thrown f0_rowCount f0_isImpossible h0_rSet h0_rRight =
    cif (f0_rowCount ≤ x6)
      (cif (x3 = (0 : Int64))
        (some (x5, f0_thrown, f0_rowCount, f0_isImpossible, h0_rSet, h0_rRight))
        (some ((-1 : Int32), f0_thrown, f0_rowCount, f0_isImpossible, h0_rSet, h0_rRight)))
      (cif (vp_in x6 n0_rSet)
        (Option.bind (D_X8_lowest (h0_rSet x6.toNatClampNeg)) (fun u_16 =>
          cif ((x3 &&& u_16) = (0 : Int64))
            (L_X8_sum_40 f0_n f0_equations n0_eSet h0_eSet n0_eRight h0_eRight n0_rSet n0_rRight x1 x3 x5 (x6 + (1 : Int32)) f0_thrown f0_rowCount f0_isImpossible h0_rSet h0_rRight)
            (cif (vp_in x6 n0_rSet)
              (cif (vp_in x6 n0_rRight)
                (L_X8_sum_40 f0_n f0_equations n0_eSet h0_eSet n0_eRight h0_eRight n0_rSet n0_rRight x1 (x3 ^^^ (h0_rSet x6.toNatClampNeg)) (x5 ^^^ (h0_rRight x6.toNatClampNeg)) (x6 + (1 : Int32)) f0_thrown f0_rowCount f0_isImpossible h0_rSet h0_rRight)
                (none))
              (none))))
        (none)) := by
  show runw (st_X8_sum f0_n f0_equations n0_eSet h0_eSet n0_eRight h0_eRight n0_rSet n0_rRight x1) (x3, x5, x6, f0_thrown, f0_rowCount, f0_isImpossible, h0_rSet, h0_rRight) = _
  rw [runw_eq]
  show run1 _ (b_X8_sum_40 f0_n f0_equations n0_eSet h0_eSet n0_eRight h0_eRight n0_rSet n0_rRight x1 x3 x5 x6 f0_thrown f0_rowCount f0_isImpossible h0_rSet h0_rRight) = _
  simp only [b_X8_sum_40, run1_cif, run1_sbd, run1_inl, run1_inr]
  try rfl
noncomputable def D_X8_sum (f0_thrown : Int32) (f0_n : Int32) (f0_equations : Int32) (f0_rowCount : Int32) (f0_isImpossible : Bool) (n0_eSet : Nat) (h0_eSet : Nat → Int64) (n0_eRight : Nat) (h0_eRight : Nat → Int32) (n0_rSet : Nat) (h0_rSet : Nat → Int64) (n0_rRight : Nat) (h0_rRight : Nat → Int32) (x1 : Int64) : Option (Int32 × Int32 × Int32 × Bool × (Nat → Int64) × (Nat → Int32)) :=
  Option.bind (D_X8_areThere f0_n x1) (fun u_1 =>
    Option.bind (D_X8_may f0_thrown u_1 true) (fun u_3 =>
      cif (u_3.1 = true)
        (Option.bind (D_X8_makeRows f0_equations f0_rowCount f0_isImpossible n0_eSet h0_eSet n0_eRight h0_eRight n0_rSet h0_rSet n0_rRight h0_rRight (0 : Int64) (0 : Int64) true) (fun u_7 =>
          cif (u_7.2.1 = true)
            (some ((-2 : Int32), u_3.2, u_7.1, u_7.2.1, u_7.2.2.1, u_7.2.2.2))
            (L_X8_sum_40 f0_n f0_equations n0_eSet h0_eSet n0_eRight h0_eRight n0_rSet n0_rRight x1 x1 (0 : Int32) (0 : Int32) u_3.2 u_7.1 u_7.2.1 u_7.2.2.1 u_7.2.2.2)))
        (some ((0 : Int32), u_3.2, f0_rowCount, f0_isImpossible, h0_rSet, h0_rRight))))
noncomputable def D_X8_take (f0_taken : Int64) (f0_ones : Int64) (x1 : Int64) (x3 : Bool) : Option (Bool × Int64 × Int64) :=
  cif (x3 = true)
    (some (true, f0_taken ||| x1, f0_ones ||| x1))
    (some (true, f0_taken ||| x1, f0_ones ||| (0 : Int64)))
abbrev S_X8_clausesFollow : Type := (Int32 × Int64 × Int64)
noncomputable def b_X8_clausesFollow_2 (f0_clauses : Int32) (n0_cYes : Nat) (h0_cYes : Nat → Int64) (n0_cNo : Nat) (h0_cNo : Nat → Int64) (x1 : Int32) (f0_taken : Int64) (f0_ones : Int64) : Option (Bool × Int64 × Int64) ⊕ S_X8_clausesFollow :=
  cif (f0_clauses ≤ x1)
    (.inl (some (true, f0_taken, f0_ones)))
    (cif (vp_in x1 n0_cYes)
      (cif (((h0_cYes x1.toNatClampNeg) &&& f0_ones) = (0 : Int64))
        (cif (vp_in x1 n0_cNo)
          (cif ((((h0_cNo x1.toNatClampNeg) &&& f0_taken) &&& (f0_ones ^^^ (-1 : Int64))) = (0 : Int64))
            (cif (vp_in x1 n0_cYes)
              (cif (vp_in x1 n0_cNo)
                (cif ((((h0_cYes x1.toNatClampNeg) ||| (h0_cNo x1.toNatClampNeg)) &&& (f0_taken ^^^ (-1 : Int64))) = (0 : Int64))
                  (.inl (some (false, f0_taken, f0_ones)))
                  (sbd (D_X8_lowest (((h0_cYes x1.toNatClampNeg) ||| (h0_cNo x1.toNatClampNeg)) &&& (f0_taken ^^^ (-1 : Int64)))) (fun u_19 =>
                    cif (u_19 = (((h0_cYes x1.toNatClampNeg) ||| (h0_cNo x1.toNatClampNeg)) &&& (f0_taken ^^^ (-1 : Int64))))
                      (cif (vp_in x1 n0_cYes)
                        (cif (((h0_cYes x1.toNatClampNeg) &&& (((h0_cYes x1.toNatClampNeg) ||| (h0_cNo x1.toNatClampNeg)) &&& (f0_taken ^^^ (-1 : Int64)))) = (0 : Int64))
                          (sbd (D_X8_take f0_taken f0_ones (((h0_cYes x1.toNatClampNeg) ||| (h0_cNo x1.toNatClampNeg)) &&& (f0_taken ^^^ (-1 : Int64))) false) (fun u_26 =>
                            .inr (x1 + (1 : Int32), u_26.2.1, u_26.2.2)))
                          (sbd (D_X8_take f0_taken f0_ones (((h0_cYes x1.toNatClampNeg) ||| (h0_cNo x1.toNatClampNeg)) &&& (f0_taken ^^^ (-1 : Int64))) true) (fun u_28 =>
                            .inr (x1 + (1 : Int32), u_28.2.1, u_28.2.2))))
                        (.inl none))
                      (.inr (x1 + (1 : Int32), f0_taken, f0_ones)))))
                (.inl none))
              (.inl none))
            (cif (vp_in x1 n0_cYes)
              (cif (vp_in x1 n0_cNo)
                (.inr (x1 + (1 : Int32), f0_taken, f0_ones))
                (.inl none))
              (.inl none)))
          (.inl none))
        (cif (vp_in x1 n0_cYes)
          (cif (vp_in x1 n0_cNo)
            (.inr (x1 + (1 : Int32), f0_taken, f0_ones))
            (.inl none))
          (.inl none)))
      (.inl none))
noncomputable def st_X8_clausesFollow (f0_clauses : Int32) (n0_cYes : Nat) (h0_cYes : Nat → Int64) (n0_cNo : Nat) (h0_cNo : Nat → Int64) : S_X8_clausesFollow → Option (Bool × Int64 × Int64) ⊕ S_X8_clausesFollow := fun x => match x with
  | (x1, f0_taken, f0_ones) => b_X8_clausesFollow_2 f0_clauses n0_cYes h0_cYes n0_cNo h0_cNo x1 f0_taken f0_ones
noncomputable def L_X8_clausesFollow_2 (f0_clauses : Int32) (n0_cYes : Nat) (h0_cYes : Nat → Int64) (n0_cNo : Nat) (h0_cNo : Nat → Int64) (x1 : Int32) (f0_taken : Int64) (f0_ones : Int64) : Option (Bool × Int64 × Int64) := runw (st_X8_clausesFollow f0_clauses n0_cYes h0_cYes n0_cNo h0_cNo) (x1, f0_taken, f0_ones)
theorem E_X8_clausesFollow_2 (f0_clauses : Int32) (n0_cYes : Nat) (h0_cYes : Nat → Int64) (n0_cNo : Nat) (h0_cNo : Nat → Int64) (x1 : Int32) (f0_taken : Int64) (f0_ones : Int64) : L_X8_clausesFollow_2 f0_clauses n0_cYes h0_cYes n0_cNo h0_cNo x1 f0_taken f0_ones =
    cif (f0_clauses ≤ x1)
      (some (true, f0_taken, f0_ones))
      (cif (vp_in x1 n0_cYes)
        (cif (((h0_cYes x1.toNatClampNeg) &&& f0_ones) = (0 : Int64))
          (cif (vp_in x1 n0_cNo)
            (cif ((((h0_cNo x1.toNatClampNeg) &&& f0_taken) &&& (f0_ones ^^^ (-1 : Int64))) = (0 : Int64))
              (cif (vp_in x1 n0_cYes)
                (cif (vp_in x1 n0_cNo)
                  (cif ((((h0_cYes x1.toNatClampNeg) ||| (h0_cNo x1.toNatClampNeg)) &&& (f0_taken ^^^ (-1 : Int64))) = (0 : Int64))
                    (some (false, f0_taken, f0_ones))
                    (Option.bind (D_X8_lowest (((h0_cYes x1.toNatClampNeg) ||| (h0_cNo x1.toNatClampNeg)) &&& (f0_taken ^^^ (-1 : Int64)))) (fun u_19 =>
                      cif (u_19 = (((h0_cYes x1.toNatClampNeg) ||| (h0_cNo x1.toNatClampNeg)) &&& (f0_taken ^^^ (-1 : Int64))))
                        (cif (vp_in x1 n0_cYes)
                          (cif (((h0_cYes x1.toNatClampNeg) &&& (((h0_cYes x1.toNatClampNeg) ||| (h0_cNo x1.toNatClampNeg)) &&& (f0_taken ^^^ (-1 : Int64)))) = (0 : Int64))
                            (Option.bind (D_X8_take f0_taken f0_ones (((h0_cYes x1.toNatClampNeg) ||| (h0_cNo x1.toNatClampNeg)) &&& (f0_taken ^^^ (-1 : Int64))) false) (fun u_26 =>
                              L_X8_clausesFollow_2 f0_clauses n0_cYes h0_cYes n0_cNo h0_cNo (x1 + (1 : Int32)) u_26.2.1 u_26.2.2))
                            (Option.bind (D_X8_take f0_taken f0_ones (((h0_cYes x1.toNatClampNeg) ||| (h0_cNo x1.toNatClampNeg)) &&& (f0_taken ^^^ (-1 : Int64))) true) (fun u_28 =>
                              L_X8_clausesFollow_2 f0_clauses n0_cYes h0_cYes n0_cNo h0_cNo (x1 + (1 : Int32)) u_28.2.1 u_28.2.2)))
                          (none))
                        (L_X8_clausesFollow_2 f0_clauses n0_cYes h0_cYes n0_cNo h0_cNo (x1 + (1 : Int32)) f0_taken f0_ones))))
                  (none))
                (none))
              (cif (vp_in x1 n0_cYes)
                (cif (vp_in x1 n0_cNo)
                  (L_X8_clausesFollow_2 f0_clauses n0_cYes h0_cYes n0_cNo h0_cNo (x1 + (1 : Int32)) f0_taken f0_ones)
                  (none))
                (none)))
            (none))
          (cif (vp_in x1 n0_cYes)
            (cif (vp_in x1 n0_cNo)
              (L_X8_clausesFollow_2 f0_clauses n0_cYes h0_cYes n0_cNo h0_cNo (x1 + (1 : Int32)) f0_taken f0_ones)
              (none))
            (none)))
        (none)) := by
  show runw (st_X8_clausesFollow f0_clauses n0_cYes h0_cYes n0_cNo h0_cNo) (x1, f0_taken, f0_ones) = _
  rw [runw_eq]
  show run1 _ (b_X8_clausesFollow_2 f0_clauses n0_cYes h0_cYes n0_cNo h0_cNo x1 f0_taken f0_ones) = _
  simp only [b_X8_clausesFollow_2, run1_cif, run1_sbd, run1_inl, run1_inr]
  try rfl
noncomputable def D_X8_clausesFollow (f0_clauses : Int32) (f0_taken : Int64) (f0_ones : Int64) (n0_cYes : Nat) (h0_cYes : Nat → Int64) (n0_cNo : Nat) (h0_cNo : Nat → Int64) : Option (Bool × Int64 × Int64) :=
  L_X8_clausesFollow_2 f0_clauses n0_cYes h0_cYes n0_cNo h0_cNo (0 : Int32) f0_taken f0_ones
abbrev S_X8_allFollows : Type := (Int64 × Int32 × Bool × Int64 × Int64 × (Nat → Int64) × (Nat → Int32)) ⊕ (Int64 × Int32 × Int32 × Bool × Int64 × Int64 × (Nat → Int64) × (Nat → Int32))
noncomputable def b_X8_allFollows_4 (f0_equations : Int32) (f0_clauses : Int32) (n0_eSet : Nat) (h0_eSet : Nat → Int64) (n0_eRight : Nat) (h0_eRight : Nat → Int32) (n0_cYes : Nat) (h0_cYes : Nat → Int64) (n0_cNo : Nat) (h0_cNo : Nat → Int64) (n0_rSet : Nat) (n0_rRight : Nat) (x1 : Int64) (f0_rowCount : Int32) (f0_isImpossible : Bool) (f0_taken : Int64) (f0_ones : Int64) (h0_rSet : Nat → Int64) (h0_rRight : Nat → Int32) : Option (Bool × Int32 × Bool × Int64 × Int64 × (Nat → Int64) × (Nat → Int32)) ⊕ S_X8_allFollows :=
  cif (x1 = f0_taken)
    (.inl (some (true, f0_rowCount, f0_isImpossible, f0_taken, f0_ones, h0_rSet, h0_rRight)))
    (sbd (D_X8_clausesFollow f0_clauses f0_taken f0_ones n0_cYes h0_cYes n0_cNo h0_cNo) (fun u_3 =>
      cif (u_3.1 = true)
        (sbd (D_X8_makeRows f0_equations f0_rowCount f0_isImpossible n0_eSet h0_eSet n0_eRight h0_eRight n0_rSet h0_rSet n0_rRight h0_rRight u_3.2.1 u_3.2.2 true) (fun u_7 =>
          cif (u_7.2.1 = true)
            (.inl (some (false, u_7.1, u_7.2.1, u_3.2.1, u_3.2.2, u_7.2.2.1, u_7.2.2.2)))
            (.inr (.inr (f0_taken, (0 : Int32), u_7.1, u_7.2.1, u_3.2.1, u_3.2.2, u_7.2.2.1, u_7.2.2.2)))))
        (.inl (some (false, f0_rowCount, f0_isImpossible, u_3.2.1, u_3.2.2, h0_rSet, h0_rRight)))))
noncomputable def b_X8_allFollows_51 (f0_equations : Int32) (f0_clauses : Int32) (n0_eSet : Nat) (h0_eSet : Nat → Int64) (n0_eRight : Nat) (h0_eRight : Nat → Int32) (n0_cYes : Nat) (h0_cYes : Nat → Int64) (n0_cNo : Nat) (h0_cNo : Nat → Int64) (n0_rSet : Nat) (n0_rRight : Nat) (x1 : Int64) (x3 : Int32) (f0_rowCount : Int32) (f0_isImpossible : Bool) (f0_taken : Int64) (f0_ones : Int64) (h0_rSet : Nat → Int64) (h0_rRight : Nat → Int32) : Option (Bool × Int32 × Bool × Int64 × Int64 × (Nat → Int64) × (Nat → Int32)) ⊕ S_X8_allFollows :=
  cif (f0_rowCount ≤ x3)
    (.inr (.inl (x1, f0_rowCount, f0_isImpossible, f0_taken, f0_ones, h0_rSet, h0_rRight)))
    (cif (vp_in x3 n0_rSet)
      (sbd (D_X8_lowest (h0_rSet x3.toNatClampNeg)) (fun u_14 =>
        cif (vp_in x3 n0_rSet)
          (cif (u_14 = (h0_rSet x3.toNatClampNeg))
            (cif (vp_in x3 n0_rSet)
              (cif (vp_in x3 n0_rRight)
                (cif ((h0_rRight x3.toNatClampNeg) = (1 : Int32))
                  (sbd (D_X8_take f0_taken f0_ones (h0_rSet x3.toNatClampNeg) true) (fun u_25 =>
                    .inr (.inr (x1, x3 + (1 : Int32), f0_rowCount, f0_isImpossible, u_25.2.1, u_25.2.2, h0_rSet, h0_rRight))))
                  (sbd (D_X8_take f0_taken f0_ones (h0_rSet x3.toNatClampNeg) false) (fun u_23 =>
                    .inr (.inr (x1, x3 + (1 : Int32), f0_rowCount, f0_isImpossible, u_23.2.1, u_23.2.2, h0_rSet, h0_rRight)))))
                (.inl none))
              (.inl none))
            (.inr (.inr (x1, x3 + (1 : Int32), f0_rowCount, f0_isImpossible, f0_taken, f0_ones, h0_rSet, h0_rRight))))
          (.inl none)))
      (.inl none))
noncomputable def st_X8_allFollows (f0_equations : Int32) (f0_clauses : Int32) (n0_eSet : Nat) (h0_eSet : Nat → Int64) (n0_eRight : Nat) (h0_eRight : Nat → Int32) (n0_cYes : Nat) (h0_cYes : Nat → Int64) (n0_cNo : Nat) (h0_cNo : Nat → Int64) (n0_rSet : Nat) (n0_rRight : Nat) : S_X8_allFollows → Option (Bool × Int32 × Bool × Int64 × Int64 × (Nat → Int64) × (Nat → Int32)) ⊕ S_X8_allFollows := fun x => match x with
  | .inl (x1, f0_rowCount, f0_isImpossible, f0_taken, f0_ones, h0_rSet, h0_rRight) => b_X8_allFollows_4 f0_equations f0_clauses n0_eSet h0_eSet n0_eRight h0_eRight n0_cYes h0_cYes n0_cNo h0_cNo n0_rSet n0_rRight x1 f0_rowCount f0_isImpossible f0_taken f0_ones h0_rSet h0_rRight
  | .inr (x1, x3, f0_rowCount, f0_isImpossible, f0_taken, f0_ones, h0_rSet, h0_rRight) => b_X8_allFollows_51 f0_equations f0_clauses n0_eSet h0_eSet n0_eRight h0_eRight n0_cYes h0_cYes n0_cNo h0_cNo n0_rSet n0_rRight x1 x3 f0_rowCount f0_isImpossible f0_taken f0_ones h0_rSet h0_rRight
noncomputable def L_X8_allFollows_4 (f0_equations : Int32) (f0_clauses : Int32) (n0_eSet : Nat) (h0_eSet : Nat → Int64) (n0_eRight : Nat) (h0_eRight : Nat → Int32) (n0_cYes : Nat) (h0_cYes : Nat → Int64) (n0_cNo : Nat) (h0_cNo : Nat → Int64) (n0_rSet : Nat) (n0_rRight : Nat) (x1 : Int64) (f0_rowCount : Int32) (f0_isImpossible : Bool) (f0_taken : Int64) (f0_ones : Int64) (h0_rSet : Nat → Int64) (h0_rRight : Nat → Int32) : Option (Bool × Int32 × Bool × Int64 × Int64 × (Nat → Int64) × (Nat → Int32)) := runw (st_X8_allFollows f0_equations f0_clauses n0_eSet h0_eSet n0_eRight h0_eRight n0_cYes h0_cYes n0_cNo h0_cNo n0_rSet n0_rRight) (.inl (x1, f0_rowCount, f0_isImpossible, f0_taken, f0_ones, h0_rSet, h0_rRight))
noncomputable def L_X8_allFollows_51 (f0_equations : Int32) (f0_clauses : Int32) (n0_eSet : Nat) (h0_eSet : Nat → Int64) (n0_eRight : Nat) (h0_eRight : Nat → Int32) (n0_cYes : Nat) (h0_cYes : Nat → Int64) (n0_cNo : Nat) (h0_cNo : Nat → Int64) (n0_rSet : Nat) (n0_rRight : Nat) (x1 : Int64) (x3 : Int32) (f0_rowCount : Int32) (f0_isImpossible : Bool) (f0_taken : Int64) (f0_ones : Int64) (h0_rSet : Nat → Int64) (h0_rRight : Nat → Int32) : Option (Bool × Int32 × Bool × Int64 × Int64 × (Nat → Int64) × (Nat → Int32)) := runw (st_X8_allFollows f0_equations f0_clauses n0_eSet h0_eSet n0_eRight h0_eRight n0_cYes h0_cYes n0_cNo h0_cNo n0_rSet n0_rRight) (.inr (x1, x3, f0_rowCount, f0_isImpossible, f0_taken, f0_ones, h0_rSet, h0_rRight))
theorem E_X8_allFollows_4 (f0_equations : Int32) (f0_clauses : Int32) (n0_eSet : Nat) (h0_eSet : Nat → Int64) (n0_eRight : Nat) (h0_eRight : Nat → Int32) (n0_cYes : Nat) (h0_cYes : Nat → Int64) (n0_cNo : Nat) (h0_cNo : Nat → Int64) (n0_rSet : Nat) (n0_rRight : Nat) (x1 : Int64) (f0_rowCount : Int32) (f0_isImpossible : Bool) (f0_taken : Int64) (f0_ones : Int64) (h0_rSet : Nat → Int64) (h0_rRight : Nat → Int32) : L_X8_allFollows_4 f0_equations f0_clauses n0_eSet h0_eSet n0_eRight h0_eRight n0_cYes h0_cYes n0_cNo h0_cNo n0_rSet n0_rRight x1 f0_rowCount f0_isImpossible f0_taken f0_ones h0_rSet h0_rRight =
    cif (x1 = f0_taken)
      (some (true, f0_rowCount, f0_isImpossible, f0_taken, f0_ones, h0_rSet, h0_rRight))
      (Option.bind (D_X8_clausesFollow f0_clauses f0_taken f0_ones n0_cYes h0_cYes n0_cNo h0_cNo) (fun u_3 =>
        cif (u_3.1 = true)
          (Option.bind (D_X8_makeRows f0_equations f0_rowCount f0_isImpossible n0_eSet h0_eSet n0_eRight h0_eRight n0_rSet h0_rSet n0_rRight h0_rRight u_3.2.1 u_3.2.2 true) (fun u_7 =>
            cif (u_7.2.1 = true)
              (some (false, u_7.1, u_7.2.1, u_3.2.1, u_3.2.2, u_7.2.2.1, u_7.2.2.2))
              (L_X8_allFollows_51 f0_equations f0_clauses n0_eSet h0_eSet n0_eRight h0_eRight n0_cYes h0_cYes n0_cNo h0_cNo n0_rSet n0_rRight f0_taken (0 : Int32) u_7.1 u_7.2.1 u_3.2.1 u_3.2.2 u_7.2.2.1 u_7.2.2.2)))
          (some (false, f0_rowCount, f0_isImpossible, u_3.2.1, u_3.2.2, h0_rSet, h0_rRight)))) := by
  show runw (st_X8_allFollows f0_equations f0_clauses n0_eSet h0_eSet n0_eRight h0_eRight n0_cYes h0_cYes n0_cNo h0_cNo n0_rSet n0_rRight) (.inl (x1, f0_rowCount, f0_isImpossible, f0_taken, f0_ones, h0_rSet, h0_rRight)) = _
  rw [runw_eq]
  show run1 _ (b_X8_allFollows_4 f0_equations f0_clauses n0_eSet h0_eSet n0_eRight h0_eRight n0_cYes h0_cYes n0_cNo h0_cNo n0_rSet n0_rRight x1 f0_rowCount f0_isImpossible f0_taken f0_ones h0_rSet h0_rRight) = _
  simp only [b_X8_allFollows_4, run1_cif, run1_sbd, run1_inl, run1_inr]
  try rfl
theorem E_X8_allFollows_51 (f0_equations : Int32) (f0_clauses : Int32) (n0_eSet : Nat) (h0_eSet : Nat → Int64) (n0_eRight : Nat) (h0_eRight : Nat → Int32) (n0_cYes : Nat) (h0_cYes : Nat → Int64) (n0_cNo : Nat) (h0_cNo : Nat → Int64) (n0_rSet : Nat) (n0_rRight : Nat) (x1 : Int64) (x3 : Int32) (f0_rowCount : Int32) (f0_isImpossible : Bool) (f0_taken : Int64) (f0_ones : Int64) (h0_rSet : Nat → Int64) (h0_rRight : Nat → Int32) : L_X8_allFollows_51 f0_equations f0_clauses n0_eSet h0_eSet n0_eRight h0_eRight n0_cYes h0_cYes n0_cNo h0_cNo n0_rSet n0_rRight x1 x3 f0_rowCount f0_isImpossible f0_taken f0_ones h0_rSet h0_rRight =
    cif (f0_rowCount ≤ x3)
      (L_X8_allFollows_4 f0_equations f0_clauses n0_eSet h0_eSet n0_eRight h0_eRight n0_cYes h0_cYes n0_cNo h0_cNo n0_rSet n0_rRight x1 f0_rowCount f0_isImpossible f0_taken f0_ones h0_rSet h0_rRight)
      (cif (vp_in x3 n0_rSet)
        (Option.bind (D_X8_lowest (h0_rSet x3.toNatClampNeg)) (fun u_14 =>
          cif (vp_in x3 n0_rSet)
            (cif (u_14 = (h0_rSet x3.toNatClampNeg))
              (cif (vp_in x3 n0_rSet)
                (cif (vp_in x3 n0_rRight)
                  (cif ((h0_rRight x3.toNatClampNeg) = (1 : Int32))
                    (Option.bind (D_X8_take f0_taken f0_ones (h0_rSet x3.toNatClampNeg) true) (fun u_25 =>
                      L_X8_allFollows_51 f0_equations f0_clauses n0_eSet h0_eSet n0_eRight h0_eRight n0_cYes h0_cYes n0_cNo h0_cNo n0_rSet n0_rRight x1 (x3 + (1 : Int32)) f0_rowCount f0_isImpossible u_25.2.1 u_25.2.2 h0_rSet h0_rRight))
                    (Option.bind (D_X8_take f0_taken f0_ones (h0_rSet x3.toNatClampNeg) false) (fun u_23 =>
                      L_X8_allFollows_51 f0_equations f0_clauses n0_eSet h0_eSet n0_eRight h0_eRight n0_cYes h0_cYes n0_cNo h0_cNo n0_rSet n0_rRight x1 (x3 + (1 : Int32)) f0_rowCount f0_isImpossible u_23.2.1 u_23.2.2 h0_rSet h0_rRight)))
                  (none))
                (none))
              (L_X8_allFollows_51 f0_equations f0_clauses n0_eSet h0_eSet n0_eRight h0_eRight n0_cYes h0_cYes n0_cNo h0_cNo n0_rSet n0_rRight x1 (x3 + (1 : Int32)) f0_rowCount f0_isImpossible f0_taken f0_ones h0_rSet h0_rRight))
            (none)))
        (none)) := by
  show runw (st_X8_allFollows f0_equations f0_clauses n0_eSet h0_eSet n0_eRight h0_eRight n0_cYes h0_cYes n0_cNo h0_cNo n0_rSet n0_rRight) (.inr (x1, x3, f0_rowCount, f0_isImpossible, f0_taken, f0_ones, h0_rSet, h0_rRight)) = _
  rw [runw_eq]
  show run1 _ (b_X8_allFollows_51 f0_equations f0_clauses n0_eSet h0_eSet n0_eRight h0_eRight n0_cYes h0_cYes n0_cNo h0_cNo n0_rSet n0_rRight x1 x3 f0_rowCount f0_isImpossible f0_taken f0_ones h0_rSet h0_rRight) = _
  simp only [b_X8_allFollows_51, run1_cif, run1_sbd, run1_inl, run1_inr]
  try rfl
noncomputable def D_X8_allFollows (f0_equations : Int32) (f0_clauses : Int32) (f0_rowCount : Int32) (f0_isImpossible : Bool) (f0_taken : Int64) (f0_ones : Int64) (n0_eSet : Nat) (h0_eSet : Nat → Int64) (n0_eRight : Nat) (h0_eRight : Nat → Int32) (n0_cYes : Nat) (h0_cYes : Nat → Int64) (n0_cNo : Nat) (h0_cNo : Nat → Int64) (n0_rSet : Nat) (h0_rSet : Nat → Int64) (n0_rRight : Nat) (h0_rRight : Nat → Int32) : Option (Bool × Int32 × Bool × Int64 × Int64 × (Nat → Int64) × (Nat → Int32)) :=
  L_X8_allFollows_4 f0_equations f0_clauses n0_eSet h0_eSet n0_eRight h0_eRight n0_cYes h0_cYes n0_cNo h0_cNo n0_rSet n0_rRight (-1 : Int64) f0_rowCount f0_isImpossible f0_taken f0_ones h0_rSet h0_rRight
noncomputable def D_X8_follow (f0_thrown : Int32) (f0_n : Int32) (f0_equations : Int32) (f0_clauses : Int32) (f0_rowCount : Int32) (f0_isImpossible : Bool) (f0_taken : Int64) (f0_ones : Int64) (n0_eSet : Nat) (h0_eSet : Nat → Int64) (n0_eRight : Nat) (h0_eRight : Nat → Int32) (n0_cYes : Nat) (h0_cYes : Nat → Int64) (n0_cNo : Nat) (h0_cNo : Nat → Int64) (n0_rSet : Nat) (h0_rSet : Nat → Int64) (n0_rRight : Nat) (h0_rRight : Nat → Int32) (x1 : Int64) (x3 : Int64) (x5 : Bool) : Option (Int64 × Int32 × Int32 × Bool × Int64 × Int64 × (Nat → Int64) × (Nat → Int32)) :=
  Option.bind (D_X8_areThere f0_n x1) (fun u_1 =>
    cif (u_1 = true)
      (Option.bind (D_X8_areThere f0_n x3) (fun u_15 =>
        cif (u_15 = true)
          (cif ((x1 &&& x3) = (0 : Int64))
            (Option.bind (D_X8_may f0_thrown true true) (fun u_41 =>
              cif (u_41.1 = true)
                (Option.bind (D_X8_allFollows f0_equations f0_clauses f0_rowCount f0_isImpossible (x1 ||| x3) x1 n0_eSet h0_eSet n0_eRight h0_eRight n0_cYes h0_cYes n0_cNo h0_cNo n0_rSet h0_rSet n0_rRight h0_rRight) (fun u_45 =>
                  cif (u_45.1 = true)
                    (cif (x5 = true)
                      (some (u_45.2.2.2.2.1, u_41.2, u_45.2.1, u_45.2.2.1, u_45.2.2.2.1, u_45.2.2.2.2.1, u_45.2.2.2.2.2.1, u_45.2.2.2.2.2.2))
                      (some (u_45.2.2.2.1 &&& (u_45.2.2.2.2.1 ^^^ (-1 : Int64)), u_41.2, u_45.2.1, u_45.2.2.1, u_45.2.2.2.1, u_45.2.2.2.2.1, u_45.2.2.2.2.2.1, u_45.2.2.2.2.2.2)))
                    (some ((-1 : Int64), u_41.2, u_45.2.1, u_45.2.2.1, u_45.2.2.2.1, u_45.2.2.2.2.1, u_45.2.2.2.2.2.1, u_45.2.2.2.2.2.2))))
                (some ((0 : Int64), u_41.2, f0_rowCount, f0_isImpossible, f0_taken, f0_ones, h0_rSet, h0_rRight))))
            (Option.bind (D_X8_may f0_thrown false true) (fun u_31 =>
              cif (u_31.1 = true)
                (Option.bind (D_X8_allFollows f0_equations f0_clauses f0_rowCount f0_isImpossible (x1 ||| x3) x1 n0_eSet h0_eSet n0_eRight h0_eRight n0_cYes h0_cYes n0_cNo h0_cNo n0_rSet h0_rSet n0_rRight h0_rRight) (fun u_35 =>
                  cif (u_35.1 = true)
                    (cif (x5 = true)
                      (some (u_35.2.2.2.2.1, u_31.2, u_35.2.1, u_35.2.2.1, u_35.2.2.2.1, u_35.2.2.2.2.1, u_35.2.2.2.2.2.1, u_35.2.2.2.2.2.2))
                      (some (u_35.2.2.2.1 &&& (u_35.2.2.2.2.1 ^^^ (-1 : Int64)), u_31.2, u_35.2.1, u_35.2.2.1, u_35.2.2.2.1, u_35.2.2.2.2.1, u_35.2.2.2.2.2.1, u_35.2.2.2.2.2.2)))
                    (some ((-1 : Int64), u_31.2, u_35.2.1, u_35.2.2.1, u_35.2.2.2.1, u_35.2.2.2.2.1, u_35.2.2.2.2.2.1, u_35.2.2.2.2.2.2))))
                (some ((0 : Int64), u_31.2, f0_rowCount, f0_isImpossible, f0_taken, f0_ones, h0_rSet, h0_rRight)))))
          (Option.bind (D_X8_may f0_thrown false true) (fun u_19 =>
            cif (u_19.1 = true)
              (Option.bind (D_X8_allFollows f0_equations f0_clauses f0_rowCount f0_isImpossible (x1 ||| x3) x1 n0_eSet h0_eSet n0_eRight h0_eRight n0_cYes h0_cYes n0_cNo h0_cNo n0_rSet h0_rSet n0_rRight h0_rRight) (fun u_23 =>
                cif (u_23.1 = true)
                  (cif (x5 = true)
                    (some (u_23.2.2.2.2.1, u_19.2, u_23.2.1, u_23.2.2.1, u_23.2.2.2.1, u_23.2.2.2.2.1, u_23.2.2.2.2.2.1, u_23.2.2.2.2.2.2))
                    (some (u_23.2.2.2.1 &&& (u_23.2.2.2.2.1 ^^^ (-1 : Int64)), u_19.2, u_23.2.1, u_23.2.2.1, u_23.2.2.2.1, u_23.2.2.2.2.1, u_23.2.2.2.2.2.1, u_23.2.2.2.2.2.2)))
                  (some ((-1 : Int64), u_19.2, u_23.2.1, u_23.2.2.1, u_23.2.2.2.1, u_23.2.2.2.2.1, u_23.2.2.2.2.2.1, u_23.2.2.2.2.2.2))))
              (some ((0 : Int64), u_19.2, f0_rowCount, f0_isImpossible, f0_taken, f0_ones, h0_rSet, h0_rRight))))))
      (Option.bind (D_X8_may f0_thrown false true) (fun u_5 =>
        cif (u_5.1 = true)
          (Option.bind (D_X8_allFollows f0_equations f0_clauses f0_rowCount f0_isImpossible (x1 ||| x3) x1 n0_eSet h0_eSet n0_eRight h0_eRight n0_cYes h0_cYes n0_cNo h0_cNo n0_rSet h0_rSet n0_rRight h0_rRight) (fun u_9 =>
            cif (u_9.1 = true)
              (cif (x5 = true)
                (some (u_9.2.2.2.2.1, u_5.2, u_9.2.1, u_9.2.2.1, u_9.2.2.2.1, u_9.2.2.2.2.1, u_9.2.2.2.2.2.1, u_9.2.2.2.2.2.2))
                (some (u_9.2.2.2.1 &&& (u_9.2.2.2.2.1 ^^^ (-1 : Int64)), u_5.2, u_9.2.1, u_9.2.2.1, u_9.2.2.2.1, u_9.2.2.2.2.1, u_9.2.2.2.2.2.1, u_9.2.2.2.2.2.2)))
              (some ((-1 : Int64), u_5.2, u_9.2.1, u_9.2.2.1, u_9.2.2.2.1, u_9.2.2.2.2.1, u_9.2.2.2.2.2.1, u_9.2.2.2.2.2.2))))
          (some ((0 : Int64), u_5.2, f0_rowCount, f0_isImpossible, f0_taken, f0_ones, h0_rSet, h0_rRight)))))
abbrev S_X8_search : Type := (Int32 × Int32 × Int32 × Bool × Int64 × Int64 × Int32 × Int64 × Int64 × (Nat → Int64) × (Nat → Int32) × (Nat → Int64) × (Nat → Int64))
noncomputable def b_X8_search_25 (f0_n : Int32) (f0_equations : Int32) (f0_clauses : Int32) (n0_eSet : Nat) (h0_eSet : Nat → Int64) (n0_eRight : Nat) (h0_eRight : Nat → Int32) (n0_cYes : Nat) (h0_cYes : Nat → Int64) (n0_cNo : Nat) (h0_cNo : Nat → Int64) (n0_rSet : Nat) (n0_rRight : Nat) (n0_waitTaken : Nat) (n0_waitOnes : Nat) (x1 : Int64) (x3 : Int64) (x5 : Int32) (x6 : Bool) (x7 : Int32) (x8 : Int32) (f0_rowCount : Int32) (f0_isImpossible : Bool) (f0_taken : Int64) (f0_ones : Int64) (f0_nodeCount : Int32) (f0_modelCount : Int64) (f0_modelIs : Int64) (h0_rSet : Nat → Int64) (h0_rRight : Nat → Int32) (h0_waitTaken : Nat → Int64) (h0_waitOnes : Nat → Int64) : Option (Int32 × Int32 × Bool × Int64 × Int64 × Int32 × Int64 × Int64 × (Nat → Int64) × (Nat → Int32) × (Nat → Int64) × (Nat → Int64)) ⊕ S_X8_search :=
  cif (x7 ≤ 0)
    (.inl (some ((0 : Int32), f0_rowCount, f0_isImpossible, f0_taken, f0_ones, f0_nodeCount + x8, f0_modelCount, f0_modelIs, h0_rSet, h0_rRight, h0_waitTaken, h0_waitOnes)))
    (cif (x8 = x5)
      (.inl (some ((-2 : Int32), f0_rowCount, f0_isImpossible, f0_taken, f0_ones, f0_nodeCount + x8, f0_modelCount, f0_modelIs, h0_rSet, h0_rRight, h0_waitTaken, h0_waitOnes)))
      (cif (vp_in (x7 + (-1 : Int32)) n0_waitTaken)
        (cif (vp_in (x7 + (-1 : Int32)) n0_waitOnes)
          (sbd (D_X8_allFollows f0_equations f0_clauses f0_rowCount f0_isImpossible (h0_waitTaken (x7 + (-1 : Int32)).toNatClampNeg) (h0_waitOnes (x7 + (-1 : Int32)).toNatClampNeg) n0_eSet h0_eSet n0_eRight h0_eRight n0_cYes h0_cYes n0_cNo h0_cNo n0_rSet h0_rSet n0_rRight h0_rRight) (fun u_9 =>
            cif (u_9.1 = true)
              (sbd (D_X8_bits u_9.2.2.2.1) (fun u_13 =>
                cif (u_13 = f0_n)
                  (cif (x6 = true)
                    (.inr (x7 + (-1 : Int32), x8 + (1 : Int32), u_9.2.1, u_9.2.2.1, u_9.2.2.2.1, u_9.2.2.2.2.1, f0_nodeCount, f0_modelCount + (1 : Int64), u_9.2.2.2.2.1, u_9.2.2.2.2.2.1, u_9.2.2.2.2.2.2, h0_waitTaken, h0_waitOnes))
                    (.inl (some ((1 : Int32), u_9.2.1, u_9.2.2.1, u_9.2.2.2.1, u_9.2.2.2.2.1, f0_nodeCount + (x8 + (1 : Int32)), f0_modelCount + (1 : Int64), u_9.2.2.2.2.1, u_9.2.2.2.2.2.1, u_9.2.2.2.2.2.2, h0_waitTaken, h0_waitOnes))))
                  (sbd (D_X8_lowest (u_9.2.2.2.1 ^^^ (-1 : Int64))) (fun u_17 =>
                    cif (vp_in (x7 + (-1 : Int32)) n0_waitTaken)
                      (cif (vp_in (x7 + (-1 : Int32)) n0_waitOnes)
                        (cif (vp_in ((x7 + (-1 : Int32)) + (1 : Int32)) n0_waitTaken)
                          (cif (vp_in ((x7 + (-1 : Int32)) + (1 : Int32)) n0_waitOnes)
                            (.inr ((x7 + (-1 : Int32)) + (2 : Int32), x8 + (1 : Int32), u_9.2.1, u_9.2.2.1, u_9.2.2.2.1, u_9.2.2.2.2.1, f0_nodeCount, f0_modelCount, f0_modelIs, u_9.2.2.2.2.2.1, u_9.2.2.2.2.2.2, vp_updL (vp_updL h0_waitTaken (x7 + (-1 : Int32)).toNatClampNeg (u_9.2.2.2.1 ||| u_17)) ((x7 + (-1 : Int32)) + (1 : Int32)).toNatClampNeg (u_9.2.2.2.1 ||| u_17), vp_updL (vp_updL h0_waitOnes (x7 + (-1 : Int32)).toNatClampNeg (u_9.2.2.2.2.1 ||| u_17)) ((x7 + (-1 : Int32)) + (1 : Int32)).toNatClampNeg u_9.2.2.2.2.1))
                            (.inl none))
                          (.inl none))
                        (.inl none))
                      (.inl none)))))
              (.inr (x7 + (-1 : Int32), x8 + (1 : Int32), u_9.2.1, u_9.2.2.1, u_9.2.2.2.1, u_9.2.2.2.2.1, f0_nodeCount, f0_modelCount, f0_modelIs, u_9.2.2.2.2.2.1, u_9.2.2.2.2.2.2, h0_waitTaken, h0_waitOnes))))
          (.inl none))
        (.inl none)))
noncomputable def st_X8_search (f0_n : Int32) (f0_equations : Int32) (f0_clauses : Int32) (n0_eSet : Nat) (h0_eSet : Nat → Int64) (n0_eRight : Nat) (h0_eRight : Nat → Int32) (n0_cYes : Nat) (h0_cYes : Nat → Int64) (n0_cNo : Nat) (h0_cNo : Nat → Int64) (n0_rSet : Nat) (n0_rRight : Nat) (n0_waitTaken : Nat) (n0_waitOnes : Nat) (x1 : Int64) (x3 : Int64) (x5 : Int32) (x6 : Bool) : S_X8_search → Option (Int32 × Int32 × Bool × Int64 × Int64 × Int32 × Int64 × Int64 × (Nat → Int64) × (Nat → Int32) × (Nat → Int64) × (Nat → Int64)) ⊕ S_X8_search := fun x => match x with
  | (x7, x8, f0_rowCount, f0_isImpossible, f0_taken, f0_ones, f0_nodeCount, f0_modelCount, f0_modelIs, h0_rSet, h0_rRight, h0_waitTaken, h0_waitOnes) => b_X8_search_25 f0_n f0_equations f0_clauses n0_eSet h0_eSet n0_eRight h0_eRight n0_cYes h0_cYes n0_cNo h0_cNo n0_rSet n0_rRight n0_waitTaken n0_waitOnes x1 x3 x5 x6 x7 x8 f0_rowCount f0_isImpossible f0_taken f0_ones f0_nodeCount f0_modelCount f0_modelIs h0_rSet h0_rRight h0_waitTaken h0_waitOnes
noncomputable def L_X8_search_25 (f0_n : Int32) (f0_equations : Int32) (f0_clauses : Int32) (n0_eSet : Nat) (h0_eSet : Nat → Int64) (n0_eRight : Nat) (h0_eRight : Nat → Int32) (n0_cYes : Nat) (h0_cYes : Nat → Int64) (n0_cNo : Nat) (h0_cNo : Nat → Int64) (n0_rSet : Nat) (n0_rRight : Nat) (n0_waitTaken : Nat) (n0_waitOnes : Nat) (x1 : Int64) (x3 : Int64) (x5 : Int32) (x6 : Bool) (x7 : Int32) (x8 : Int32) (f0_rowCount : Int32) (f0_isImpossible : Bool) (f0_taken : Int64) (f0_ones : Int64) (f0_nodeCount : Int32) (f0_modelCount : Int64) (f0_modelIs : Int64) (h0_rSet : Nat → Int64) (h0_rRight : Nat → Int32) (h0_waitTaken : Nat → Int64) (h0_waitOnes : Nat → Int64) : Option (Int32 × Int32 × Bool × Int64 × Int64 × Int32 × Int64 × Int64 × (Nat → Int64) × (Nat → Int32) × (Nat → Int64) × (Nat → Int64)) := runw (st_X8_search f0_n f0_equations f0_clauses n0_eSet h0_eSet n0_eRight h0_eRight n0_cYes h0_cYes n0_cNo h0_cNo n0_rSet n0_rRight n0_waitTaken n0_waitOnes x1 x3 x5 x6) (x7, x8, f0_rowCount, f0_isImpossible, f0_taken, f0_ones, f0_nodeCount, f0_modelCount, f0_modelIs, h0_rSet, h0_rRight, h0_waitTaken, h0_waitOnes)
theorem E_X8_search_25 (f0_n : Int32) (f0_equations : Int32) (f0_clauses : Int32) (n0_eSet : Nat) (h0_eSet : Nat → Int64) (n0_eRight : Nat) (h0_eRight : Nat → Int32) (n0_cYes : Nat) (h0_cYes : Nat → Int64) (n0_cNo : Nat) (h0_cNo : Nat → Int64) (n0_rSet : Nat) (n0_rRight : Nat) (n0_waitTaken : Nat) (n0_waitOnes : Nat) (x1 : Int64) (x3 : Int64) (x5 : Int32) (x6 : Bool) (x7 : Int32) (x8 : Int32) (f0_rowCount : Int32) (f0_isImpossible : Bool) (f0_taken : Int64) (f0_ones : Int64) (f0_nodeCount : Int32) (f0_modelCount : Int64) (f0_modelIs : Int64) (h0_rSet : Nat → Int64) (h0_rRight : Nat → Int32) (h0_waitTaken : Nat → Int64) (h0_waitOnes : Nat → Int64) : L_X8_search_25 f0_n f0_equations f0_clauses n0_eSet h0_eSet n0_eRight h0_eRight n0_cYes h0_cYes n0_cNo h0_cNo n0_rSet n0_rRight n0_waitTaken n0_waitOnes x1 x3 x5 x6 x7 x8 f0_rowCount f0_isImpossible f0_taken f0_ones f0_nodeCount f0_modelCount f0_modelIs h0_rSet h0_rRight h0_waitTaken h0_waitOnes =
    cif (x7 ≤ 0)
      (some ((0 : Int32), f0_rowCount, f0_isImpossible, f0_taken, f0_ones, f0_nodeCount + x8, f0_modelCount, f0_modelIs, h0_rSet, h0_rRight, h0_waitTaken, h0_waitOnes))
      (cif (x8 = x5)
        (some ((-2 : Int32), f0_rowCount, f0_isImpossible, f0_taken, f0_ones, f0_nodeCount + x8, f0_modelCount, f0_modelIs, h0_rSet, h0_rRight, h0_waitTaken, h0_waitOnes))
        (cif (vp_in (x7 + (-1 : Int32)) n0_waitTaken)
          (cif (vp_in (x7 + (-1 : Int32)) n0_waitOnes)
            (Option.bind (D_X8_allFollows f0_equations f0_clauses f0_rowCount f0_isImpossible (h0_waitTaken (x7 + (-1 : Int32)).toNatClampNeg) (h0_waitOnes (x7 + (-1 : Int32)).toNatClampNeg) n0_eSet h0_eSet n0_eRight h0_eRight n0_cYes h0_cYes n0_cNo h0_cNo n0_rSet h0_rSet n0_rRight h0_rRight) (fun u_9 =>
              cif (u_9.1 = true)
                (Option.bind (D_X8_bits u_9.2.2.2.1) (fun u_13 =>
                  cif (u_13 = f0_n)
                    (cif (x6 = true)
                      (L_X8_search_25 f0_n f0_equations f0_clauses n0_eSet h0_eSet n0_eRight h0_eRight n0_cYes h0_cYes n0_cNo h0_cNo n0_rSet n0_rRight n0_waitTaken n0_waitOnes x1 x3 x5 x6 (x7 + (-1 : Int32)) (x8 + (1 : Int32)) u_9.2.1 u_9.2.2.1 u_9.2.2.2.1 u_9.2.2.2.2.1 f0_nodeCount (f0_modelCount + (1 : Int64)) u_9.2.2.2.2.1 u_9.2.2.2.2.2.1 u_9.2.2.2.2.2.2 h0_waitTaken h0_waitOnes)
                      (some ((1 : Int32), u_9.2.1, u_9.2.2.1, u_9.2.2.2.1, u_9.2.2.2.2.1, f0_nodeCount + (x8 + (1 : Int32)), f0_modelCount + (1 : Int64), u_9.2.2.2.2.1, u_9.2.2.2.2.2.1, u_9.2.2.2.2.2.2, h0_waitTaken, h0_waitOnes)))
                    (Option.bind (D_X8_lowest (u_9.2.2.2.1 ^^^ (-1 : Int64))) (fun u_17 =>
                      cif (vp_in (x7 + (-1 : Int32)) n0_waitTaken)
                        (cif (vp_in (x7 + (-1 : Int32)) n0_waitOnes)
                          (cif (vp_in ((x7 + (-1 : Int32)) + (1 : Int32)) n0_waitTaken)
                            (cif (vp_in ((x7 + (-1 : Int32)) + (1 : Int32)) n0_waitOnes)
                              (L_X8_search_25 f0_n f0_equations f0_clauses n0_eSet h0_eSet n0_eRight h0_eRight n0_cYes h0_cYes n0_cNo h0_cNo n0_rSet n0_rRight n0_waitTaken n0_waitOnes x1 x3 x5 x6 ((x7 + (-1 : Int32)) + (2 : Int32)) (x8 + (1 : Int32)) u_9.2.1 u_9.2.2.1 u_9.2.2.2.1 u_9.2.2.2.2.1 f0_nodeCount f0_modelCount f0_modelIs u_9.2.2.2.2.2.1 u_9.2.2.2.2.2.2 (vp_updL (vp_updL h0_waitTaken (x7 + (-1 : Int32)).toNatClampNeg (u_9.2.2.2.1 ||| u_17)) ((x7 + (-1 : Int32)) + (1 : Int32)).toNatClampNeg (u_9.2.2.2.1 ||| u_17)) (vp_updL (vp_updL h0_waitOnes (x7 + (-1 : Int32)).toNatClampNeg (u_9.2.2.2.2.1 ||| u_17)) ((x7 + (-1 : Int32)) + (1 : Int32)).toNatClampNeg u_9.2.2.2.2.1))
                              (none))
                            (none))
                          (none))
                        (none)))))
                (L_X8_search_25 f0_n f0_equations f0_clauses n0_eSet h0_eSet n0_eRight h0_eRight n0_cYes h0_cYes n0_cNo h0_cNo n0_rSet n0_rRight n0_waitTaken n0_waitOnes x1 x3 x5 x6 (x7 + (-1 : Int32)) (x8 + (1 : Int32)) u_9.2.1 u_9.2.2.1 u_9.2.2.2.1 u_9.2.2.2.2.1 f0_nodeCount f0_modelCount f0_modelIs u_9.2.2.2.2.2.1 u_9.2.2.2.2.2.2 h0_waitTaken h0_waitOnes)))
            (none))
          (none))) := by
  show runw (st_X8_search f0_n f0_equations f0_clauses n0_eSet h0_eSet n0_eRight h0_eRight n0_cYes h0_cYes n0_cNo h0_cNo n0_rSet n0_rRight n0_waitTaken n0_waitOnes x1 x3 x5 x6) (x7, x8, f0_rowCount, f0_isImpossible, f0_taken, f0_ones, f0_nodeCount, f0_modelCount, f0_modelIs, h0_rSet, h0_rRight, h0_waitTaken, h0_waitOnes) = _
  rw [runw_eq]
  show run1 _ (b_X8_search_25 f0_n f0_equations f0_clauses n0_eSet h0_eSet n0_eRight h0_eRight n0_cYes h0_cYes n0_cNo h0_cNo n0_rSet n0_rRight n0_waitTaken n0_waitOnes x1 x3 x5 x6 x7 x8 f0_rowCount f0_isImpossible f0_taken f0_ones f0_nodeCount f0_modelCount f0_modelIs h0_rSet h0_rRight h0_waitTaken h0_waitOnes) = _
  simp only [b_X8_search_25, run1_cif, run1_sbd, run1_inl, run1_inr]
  try rfl
noncomputable def D_X8_search (f0_n : Int32) (f0_equations : Int32) (f0_clauses : Int32) (f0_rowCount : Int32) (f0_isImpossible : Bool) (f0_taken : Int64) (f0_ones : Int64) (f0_nodeCount : Int32) (f0_modelCount : Int64) (f0_modelIs : Int64) (n0_eSet : Nat) (h0_eSet : Nat → Int64) (n0_eRight : Nat) (h0_eRight : Nat → Int32) (n0_cYes : Nat) (h0_cYes : Nat → Int64) (n0_cNo : Nat) (h0_cNo : Nat → Int64) (n0_rSet : Nat) (h0_rSet : Nat → Int64) (n0_rRight : Nat) (h0_rRight : Nat → Int32) (n0_waitTaken : Nat) (h0_waitTaken : Nat → Int64) (n0_waitOnes : Nat) (h0_waitOnes : Nat → Int64) (x1 : Int64) (x3 : Int64) (x5 : Int32) (x6 : Bool) : Option (Int32 × Int32 × Bool × Int64 × Int64 × Int32 × Int64 × Int64 × (Nat → Int64) × (Nat → Int32) × (Nat → Int64) × (Nat → Int64)) :=
  cif (vp_in (0 : Int32) n0_waitTaken)
    (cif (vp_in (0 : Int32) n0_waitOnes)
      (L_X8_search_25 f0_n f0_equations f0_clauses n0_eSet h0_eSet n0_eRight h0_eRight n0_cYes h0_cYes n0_cNo h0_cNo n0_rSet n0_rRight n0_waitTaken n0_waitOnes x1 x3 x5 x6 (1 : Int32) (0 : Int32) f0_rowCount f0_isImpossible f0_taken f0_ones f0_nodeCount (0 : Int64) f0_modelIs h0_rSet h0_rRight (vp_updL h0_waitTaken (0 : Int32).toNatClampNeg x1) (vp_updL h0_waitOnes (0 : Int32).toNatClampNeg x3))
      (none))
    (none)
noncomputable def D_X8_solve (f0_thrown : Int32) (f0_n : Int32) (f0_equations : Int32) (f0_clauses : Int32) (f0_rowCount : Int32) (f0_isImpossible : Bool) (f0_taken : Int64) (f0_ones : Int64) (f0_nodeCount : Int32) (f0_lastModel : Int64) (f0_modelCount : Int64) (f0_modelIs : Int64) (n0_eSet : Nat) (h0_eSet : Nat → Int64) (n0_eRight : Nat) (h0_eRight : Nat → Int32) (n0_cYes : Nat) (h0_cYes : Nat → Int64) (n0_cNo : Nat) (h0_cNo : Nat → Int64) (n0_rSet : Nat) (h0_rSet : Nat → Int64) (n0_rRight : Nat) (h0_rRight : Nat → Int32) (n0_waitTaken : Nat) (h0_waitTaken : Nat → Int64) (n0_waitOnes : Nat) (h0_waitOnes : Nat → Int64) (x1 : Int32) : Option (Int32 × Int32 × Int32 × Bool × Int64 × Int64 × Int32 × Int64 × Int64 × Int64 × (Nat → Int64) × (Nat → Int32) × (Nat → Int64) × (Nat → Int64)) :=
  Option.bind (D_X8_isIn x1.toInt64 (1 : Int64) (5000 : Int64)) (fun u_1 =>
    Option.bind (D_X8_may f0_thrown u_1 true) (fun u_3 =>
      cif (u_3.1 = true)
        (Option.bind (D_X8_search f0_n f0_equations f0_clauses f0_rowCount f0_isImpossible f0_taken f0_ones (0 : Int32) f0_modelCount f0_modelIs n0_eSet h0_eSet n0_eRight h0_eRight n0_cYes h0_cYes n0_cNo h0_cNo n0_rSet h0_rSet n0_rRight h0_rRight n0_waitTaken h0_waitTaken n0_waitOnes h0_waitOnes (0 : Int64) (0 : Int64) x1 false) (fun u_7 =>
          cif (u_7.1 = (1 : Int32))
            (some (u_7.1, u_3.2, u_7.2.1, u_7.2.2.1, u_7.2.2.2.1, u_7.2.2.2.2.1, u_7.2.2.2.2.2.1, u_7.2.2.2.2.2.2.2.1, u_7.2.2.2.2.2.2.1, u_7.2.2.2.2.2.2.2.1, u_7.2.2.2.2.2.2.2.2.1, u_7.2.2.2.2.2.2.2.2.2.1, u_7.2.2.2.2.2.2.2.2.2.2.1, u_7.2.2.2.2.2.2.2.2.2.2.2))
            (some (u_7.1, u_3.2, u_7.2.1, u_7.2.2.1, u_7.2.2.2.1, u_7.2.2.2.2.1, u_7.2.2.2.2.2.1, (-1 : Int64), u_7.2.2.2.2.2.2.1, u_7.2.2.2.2.2.2.2.1, u_7.2.2.2.2.2.2.2.2.1, u_7.2.2.2.2.2.2.2.2.2.1, u_7.2.2.2.2.2.2.2.2.2.2.1, u_7.2.2.2.2.2.2.2.2.2.2.2))))
        (some ((0 : Int32), u_3.2, f0_rowCount, f0_isImpossible, f0_taken, f0_ones, f0_nodeCount, f0_lastModel, f0_modelCount, f0_modelIs, h0_rSet, h0_rRight, h0_waitTaken, h0_waitOnes))))
noncomputable def D_X8_model (f0_thrown : Int32) (f0_lastModel : Int64) : Option (Int64 × Int32) :=
  some (f0_lastModel, (0 : Int32))
noncomputable def D_X8_models (f0_thrown : Int32) (f0_n : Int32) (f0_equations : Int32) (f0_clauses : Int32) (f0_rowCount : Int32) (f0_isImpossible : Bool) (f0_taken : Int64) (f0_ones : Int64) (f0_nodeCount : Int32) (f0_modelCount : Int64) (f0_modelIs : Int64) (n0_eSet : Nat) (h0_eSet : Nat → Int64) (n0_eRight : Nat) (h0_eRight : Nat → Int32) (n0_cYes : Nat) (h0_cYes : Nat → Int64) (n0_cNo : Nat) (h0_cNo : Nat → Int64) (n0_rSet : Nat) (h0_rSet : Nat → Int64) (n0_rRight : Nat) (h0_rRight : Nat → Int32) (n0_waitTaken : Nat) (h0_waitTaken : Nat → Int64) (n0_waitOnes : Nat) (h0_waitOnes : Nat → Int64) (x1 : Int32) : Option (Int64 × Int32 × Int32 × Bool × Int64 × Int64 × Int32 × Int64 × Int64 × (Nat → Int64) × (Nat → Int32) × (Nat → Int64) × (Nat → Int64)) :=
  Option.bind (D_X8_isIn x1.toInt64 (1 : Int64) (5000 : Int64)) (fun u_1 =>
    Option.bind (D_X8_may f0_thrown u_1 true) (fun u_3 =>
      cif (u_3.1 = true)
        (Option.bind (D_X8_search f0_n f0_equations f0_clauses f0_rowCount f0_isImpossible f0_taken f0_ones (0 : Int32) f0_modelCount f0_modelIs n0_eSet h0_eSet n0_eRight h0_eRight n0_cYes h0_cYes n0_cNo h0_cNo n0_rSet h0_rSet n0_rRight h0_rRight n0_waitTaken h0_waitTaken n0_waitOnes h0_waitOnes (0 : Int64) (0 : Int64) x1 true) (fun u_7 =>
          cif (u_7.1 = (-2 : Int32))
            (some ((-2 : Int64), u_3.2, u_7.2.1, u_7.2.2.1, u_7.2.2.2.1, u_7.2.2.2.2.1, u_7.2.2.2.2.2.1, u_7.2.2.2.2.2.2.1, u_7.2.2.2.2.2.2.2.1, u_7.2.2.2.2.2.2.2.2.1, u_7.2.2.2.2.2.2.2.2.2.1, u_7.2.2.2.2.2.2.2.2.2.2.1, u_7.2.2.2.2.2.2.2.2.2.2.2))
            (some (u_7.2.2.2.2.2.2.1, u_3.2, u_7.2.1, u_7.2.2.1, u_7.2.2.2.1, u_7.2.2.2.2.1, u_7.2.2.2.2.2.1, u_7.2.2.2.2.2.2.1, u_7.2.2.2.2.2.2.2.1, u_7.2.2.2.2.2.2.2.2.1, u_7.2.2.2.2.2.2.2.2.2.1, u_7.2.2.2.2.2.2.2.2.2.2.1, u_7.2.2.2.2.2.2.2.2.2.2.2))))
        (some ((0 : Int64), u_3.2, f0_rowCount, f0_isImpossible, f0_taken, f0_ones, f0_nodeCount, f0_modelCount, f0_modelIs, h0_rSet, h0_rRight, h0_waitTaken, h0_waitOnes))))
noncomputable def D_X8_nodes (f0_thrown : Int32) (f0_nodeCount : Int32) : Option (Int32 × Int32) :=
  some (f0_nodeCount, (0 : Int32))
noncomputable def D_X8_must (f0_thrown : Int32) (f0_n : Int32) (f0_equations : Int32) (f0_clauses : Int32) (f0_rowCount : Int32) (f0_isImpossible : Bool) (f0_taken : Int64) (f0_ones : Int64) (f0_nodeCount : Int32) (f0_modelCount : Int64) (f0_modelIs : Int64) (n0_eSet : Nat) (h0_eSet : Nat → Int64) (n0_eRight : Nat) (h0_eRight : Nat → Int32) (n0_cYes : Nat) (h0_cYes : Nat → Int64) (n0_cNo : Nat) (h0_cNo : Nat → Int64) (n0_rSet : Nat) (h0_rSet : Nat → Int64) (n0_rRight : Nat) (h0_rRight : Nat → Int32) (n0_waitTaken : Nat) (h0_waitTaken : Nat → Int64) (n0_waitOnes : Nat) (h0_waitOnes : Nat → Int64) (x1 : Int32) (x2 : Int32) : Option (Int32 × Int32 × Int32 × Bool × Int64 × Int64 × Int32 × Int64 × Int64 × (Nat → Int64) × (Nat → Int32) × (Nat → Int64) × (Nat → Int64)) :=
  Option.bind (D_X8_isIn x1.toInt64 (1 : Int64) f0_n.toInt64) (fun u_1 =>
    Option.bind (D_X8_isIn x2.toInt64 (1 : Int64) (5000 : Int64)) (fun u_3 =>
      Option.bind (D_X8_may f0_thrown u_1 u_3) (fun u_5 =>
        cif (u_5.1 = true)
          (Option.bind (D_X8_search f0_n f0_equations f0_clauses f0_rowCount f0_isImpossible f0_taken f0_ones (0 : Int32) f0_modelCount f0_modelIs n0_eSet h0_eSet n0_eRight h0_eRight n0_cYes h0_cYes n0_cNo h0_cNo n0_rSet h0_rSet n0_rRight h0_rRight n0_waitTaken h0_waitTaken n0_waitOnes h0_waitOnes (jshl (1 : Int64) (x1 - (1 : Int32))) (0 : Int64) x2 false) (fun u_9 =>
            cif (u_9.1 = (-2 : Int32))
              (some ((-2 : Int32), u_5.2, u_9.2.1, u_9.2.2.1, u_9.2.2.2.1, u_9.2.2.2.2.1, u_9.2.2.2.2.2.1, u_9.2.2.2.2.2.2.1, u_9.2.2.2.2.2.2.2.1, u_9.2.2.2.2.2.2.2.2.1, u_9.2.2.2.2.2.2.2.2.2.1, u_9.2.2.2.2.2.2.2.2.2.2.1, u_9.2.2.2.2.2.2.2.2.2.2.2))
              (Option.bind (D_X8_search f0_n f0_equations f0_clauses u_9.2.1 u_9.2.2.1 u_9.2.2.2.1 u_9.2.2.2.2.1 u_9.2.2.2.2.2.1 u_9.2.2.2.2.2.2.1 u_9.2.2.2.2.2.2.2.1 n0_eSet h0_eSet n0_eRight h0_eRight n0_cYes h0_cYes n0_cNo h0_cNo n0_rSet u_9.2.2.2.2.2.2.2.2.1 n0_rRight u_9.2.2.2.2.2.2.2.2.2.1 n0_waitTaken u_9.2.2.2.2.2.2.2.2.2.2.1 n0_waitOnes u_9.2.2.2.2.2.2.2.2.2.2.2 (jshl (1 : Int64) (x1 - (1 : Int32))) (jshl (1 : Int64) (x1 - (1 : Int32))) x2 false) (fun u_13 =>
                cif (u_13.1 = (-2 : Int32))
                  (some ((-2 : Int32), u_5.2, u_13.2.1, u_13.2.2.1, u_13.2.2.2.1, u_13.2.2.2.2.1, u_13.2.2.2.2.2.1, u_13.2.2.2.2.2.2.1, u_13.2.2.2.2.2.2.2.1, u_13.2.2.2.2.2.2.2.2.1, u_13.2.2.2.2.2.2.2.2.2.1, u_13.2.2.2.2.2.2.2.2.2.2.1, u_13.2.2.2.2.2.2.2.2.2.2.2))
                  (cif (u_13.1 = u_9.1)
                    (some ((-1 : Int32), u_5.2, u_13.2.1, u_13.2.2.1, u_13.2.2.2.1, u_13.2.2.2.2.1, u_13.2.2.2.2.2.1, u_13.2.2.2.2.2.2.1, u_13.2.2.2.2.2.2.2.1, u_13.2.2.2.2.2.2.2.2.1, u_13.2.2.2.2.2.2.2.2.2.1, u_13.2.2.2.2.2.2.2.2.2.2.1, u_13.2.2.2.2.2.2.2.2.2.2.2))
                    (some (u_13.1, u_5.2, u_13.2.1, u_13.2.2.1, u_13.2.2.2.1, u_13.2.2.2.2.1, u_13.2.2.2.2.2.1, u_13.2.2.2.2.2.2.1, u_13.2.2.2.2.2.2.2.1, u_13.2.2.2.2.2.2.2.2.1, u_13.2.2.2.2.2.2.2.2.2.1, u_13.2.2.2.2.2.2.2.2.2.2.1, u_13.2.2.2.2.2.2.2.2.2.2.2)))))))
          (some ((0 : Int32), u_5.2, f0_rowCount, f0_isImpossible, f0_taken, f0_ones, f0_nodeCount, f0_modelCount, f0_modelIs, h0_rSet, h0_rRight, h0_waitTaken, h0_waitOnes)))))
abbrev S_X8_isGate : Type := (Int32 × Int32) ⊕ (Int32 × Int32 × Bool × Int32)
noncomputable def b_X8_isGate_6 (f0_clauses : Int32) (n0_cYes : Nat) (h0_cYes : Nat → Int64) (n0_cNo : Nat) (h0_cNo : Nat → Int64) (x1 : Int64) (x3 : Int32) (x4 : Int32) (x5 : Int32) : Option (Bool) ⊕ S_X8_isGate :=
  cif (f0_clauses ≤ x5)
    (sbd (D_X8_bits x1) (fun u_3 =>
      cif (x4 = ((1 : Int32) <<< ((u_3 - (1 : Int32)) &&& 31)))
        (.inl (some true))
        (.inl (some false))))
    (cif (vp_in x5 n0_cYes)
      (cif (vp_in x5 n0_cNo)
        (cif (((h0_cYes x5.toNatClampNeg) ||| (h0_cNo x5.toNatClampNeg)) = x1)
          (cif (vp_in x5 n0_cNo)
            (sbd (D_X8_parity (h0_cNo x5.toNatClampNeg)) (fun u_12 =>
              cif (u_12 = x3)
                (.inr (.inr (x4, x5, false, (0 : Int32))))
                (.inr (.inr (x4, x5, true, (0 : Int32))))))
            (.inl none))
          (.inr (.inr (x4, x5, false, (0 : Int32)))))
        (.inl none))
      (.inl none))
noncomputable def b_X8_isGate_59 (f0_clauses : Int32) (n0_cYes : Nat) (h0_cYes : Nat → Int64) (n0_cNo : Nat) (h0_cNo : Nat → Int64) (x1 : Int64) (x3 : Int32) (x4 : Int32) (x5 : Int32) (x6 : Bool) (x7 : Int32) : Option (Bool) ⊕ S_X8_isGate :=
  cif (x5 ≤ x7)
    (cif (x6 = true)
      (.inr (.inl (x4 + (1 : Int32), x5 + (1 : Int32))))
      (.inr (.inl (x4 + (0 : Int32), x5 + (1 : Int32)))))
    (cif (x6 = true)
      (cif (vp_in x7 n0_cYes)
        (cif (vp_in x5 n0_cYes)
          (cif ((h0_cYes x7.toNatClampNeg) = (h0_cYes x5.toNatClampNeg))
            (cif (vp_in x7 n0_cNo)
              (cif (vp_in x5 n0_cNo)
                (cif ((h0_cNo x7.toNatClampNeg) = (h0_cNo x5.toNatClampNeg))
                  (.inr (.inr (x4, x5, false, x7 + (1 : Int32))))
                  (.inr (.inr (x4, x5, true, x7 + (1 : Int32)))))
                (.inl none))
              (.inl none))
            (.inr (.inr (x4, x5, true, x7 + (1 : Int32)))))
          (.inl none))
        (.inl none))
      (.inr (.inl (x4 + (0 : Int32), x5 + (1 : Int32)))))
noncomputable def st_X8_isGate (f0_clauses : Int32) (n0_cYes : Nat) (h0_cYes : Nat → Int64) (n0_cNo : Nat) (h0_cNo : Nat → Int64) (x1 : Int64) (x3 : Int32) : S_X8_isGate → Option (Bool) ⊕ S_X8_isGate := fun x => match x with
  | .inl (x4, x5) => b_X8_isGate_6 f0_clauses n0_cYes h0_cYes n0_cNo h0_cNo x1 x3 x4 x5
  | .inr (x4, x5, x6, x7) => b_X8_isGate_59 f0_clauses n0_cYes h0_cYes n0_cNo h0_cNo x1 x3 x4 x5 x6 x7
noncomputable def L_X8_isGate_6 (f0_clauses : Int32) (n0_cYes : Nat) (h0_cYes : Nat → Int64) (n0_cNo : Nat) (h0_cNo : Nat → Int64) (x1 : Int64) (x3 : Int32) (x4 : Int32) (x5 : Int32) : Option (Bool) := runw (st_X8_isGate f0_clauses n0_cYes h0_cYes n0_cNo h0_cNo x1 x3) (.inl (x4, x5))
noncomputable def L_X8_isGate_59 (f0_clauses : Int32) (n0_cYes : Nat) (h0_cYes : Nat → Int64) (n0_cNo : Nat) (h0_cNo : Nat → Int64) (x1 : Int64) (x3 : Int32) (x4 : Int32) (x5 : Int32) (x6 : Bool) (x7 : Int32) : Option (Bool) := runw (st_X8_isGate f0_clauses n0_cYes h0_cYes n0_cNo h0_cNo x1 x3) (.inr (x4, x5, x6, x7))
theorem E_X8_isGate_6 (f0_clauses : Int32) (n0_cYes : Nat) (h0_cYes : Nat → Int64) (n0_cNo : Nat) (h0_cNo : Nat → Int64) (x1 : Int64) (x3 : Int32) (x4 : Int32) (x5 : Int32) : L_X8_isGate_6 f0_clauses n0_cYes h0_cYes n0_cNo h0_cNo x1 x3 x4 x5 =
    cif (f0_clauses ≤ x5)
      (Option.bind (D_X8_bits x1) (fun u_3 =>
        cif (x4 = ((1 : Int32) <<< ((u_3 - (1 : Int32)) &&& 31)))
          (some true)
          (some false)))
      (cif (vp_in x5 n0_cYes)
        (cif (vp_in x5 n0_cNo)
          (cif (((h0_cYes x5.toNatClampNeg) ||| (h0_cNo x5.toNatClampNeg)) = x1)
            (cif (vp_in x5 n0_cNo)
              (Option.bind (D_X8_parity (h0_cNo x5.toNatClampNeg)) (fun u_12 =>
                cif (u_12 = x3)
                  (L_X8_isGate_59 f0_clauses n0_cYes h0_cYes n0_cNo h0_cNo x1 x3 x4 x5 false (0 : Int32))
                  (L_X8_isGate_59 f0_clauses n0_cYes h0_cYes n0_cNo h0_cNo x1 x3 x4 x5 true (0 : Int32))))
              (none))
            (L_X8_isGate_59 f0_clauses n0_cYes h0_cYes n0_cNo h0_cNo x1 x3 x4 x5 false (0 : Int32)))
          (none))
        (none)) := by
  show runw (st_X8_isGate f0_clauses n0_cYes h0_cYes n0_cNo h0_cNo x1 x3) (.inl (x4, x5)) = _
  rw [runw_eq]
  show run1 _ (b_X8_isGate_6 f0_clauses n0_cYes h0_cYes n0_cNo h0_cNo x1 x3 x4 x5) = _
  simp only [b_X8_isGate_6, run1_cif, run1_sbd, run1_inl, run1_inr]
  try rfl
theorem E_X8_isGate_59 (f0_clauses : Int32) (n0_cYes : Nat) (h0_cYes : Nat → Int64) (n0_cNo : Nat) (h0_cNo : Nat → Int64) (x1 : Int64) (x3 : Int32) (x4 : Int32) (x5 : Int32) (x6 : Bool) (x7 : Int32) : L_X8_isGate_59 f0_clauses n0_cYes h0_cYes n0_cNo h0_cNo x1 x3 x4 x5 x6 x7 =
    cif (x5 ≤ x7)
      (cif (x6 = true)
        (L_X8_isGate_6 f0_clauses n0_cYes h0_cYes n0_cNo h0_cNo x1 x3 (x4 + (1 : Int32)) (x5 + (1 : Int32)))
        (L_X8_isGate_6 f0_clauses n0_cYes h0_cYes n0_cNo h0_cNo x1 x3 (x4 + (0 : Int32)) (x5 + (1 : Int32))))
      (cif (x6 = true)
        (cif (vp_in x7 n0_cYes)
          (cif (vp_in x5 n0_cYes)
            (cif ((h0_cYes x7.toNatClampNeg) = (h0_cYes x5.toNatClampNeg))
              (cif (vp_in x7 n0_cNo)
                (cif (vp_in x5 n0_cNo)
                  (cif ((h0_cNo x7.toNatClampNeg) = (h0_cNo x5.toNatClampNeg))
                    (L_X8_isGate_59 f0_clauses n0_cYes h0_cYes n0_cNo h0_cNo x1 x3 x4 x5 false (x7 + (1 : Int32)))
                    (L_X8_isGate_59 f0_clauses n0_cYes h0_cYes n0_cNo h0_cNo x1 x3 x4 x5 true (x7 + (1 : Int32))))
                  (none))
                (none))
              (L_X8_isGate_59 f0_clauses n0_cYes h0_cYes n0_cNo h0_cNo x1 x3 x4 x5 true (x7 + (1 : Int32))))
            (none))
          (none))
        (L_X8_isGate_6 f0_clauses n0_cYes h0_cYes n0_cNo h0_cNo x1 x3 (x4 + (0 : Int32)) (x5 + (1 : Int32)))) := by
  show runw (st_X8_isGate f0_clauses n0_cYes h0_cYes n0_cNo h0_cNo x1 x3) (.inr (x4, x5, x6, x7)) = _
  rw [runw_eq]
  show run1 _ (b_X8_isGate_59 f0_clauses n0_cYes h0_cYes n0_cNo h0_cNo x1 x3 x4 x5 x6 x7) = _
  simp only [b_X8_isGate_59, run1_cif, run1_sbd, run1_inl, run1_inr]
  try rfl
noncomputable def D_X8_isGate (f0_clauses : Int32) (n0_cYes : Nat) (h0_cYes : Nat → Int64) (n0_cNo : Nat) (h0_cNo : Nat → Int64) (x1 : Int64) (x3 : Int32) : Option (Bool) :=
  L_X8_isGate_6 f0_clauses n0_cYes h0_cYes n0_cNo h0_cNo x1 x3 (0 : Int32) (0 : Int32)
abbrev S_X8_findGates : Type := (Int64 × Bool × Int32 × (Nat → Int64)) ⊕ (Int64 × Int64 × Int32 × Int32 × (Nat → Int64)) ⊕ (Bool × Int64 × Int32 × Int32 × (Nat → Int64))
noncomputable def b_X8_findGates_9 (f0_clauses : Int32) (n0_cYes : Nat) (h0_cYes : Nat → Int64) (n0_cNo : Nat) (h0_cNo : Nat → Int64) (n0_gSet : Nat) (x1 : Int64) (x3 : Bool) (f0_gateCount : Int32) (h0_gSet : Nat → Int64) : Option (Int32 × (Nat → Int64)) ⊕ S_X8_findGates :=
  cif (x3 = true)
    (.inr (.inr (.inl (x1, (4611686018427387904 : Int64), (0 : Int32), f0_gateCount, h0_gSet))))
    (.inl (some (f0_gateCount, h0_gSet)))
noncomputable def b_X8_findGates_21 (f0_clauses : Int32) (n0_cYes : Nat) (h0_cYes : Nat → Int64) (n0_cNo : Nat) (h0_cNo : Nat → Int64) (n0_gSet : Nat) (x1 : Int64) (x4 : Int64) (x6 : Int32) (f0_gateCount : Int32) (h0_gSet : Nat → Int64) : Option (Int32 × (Nat → Int64)) ⊕ S_X8_findGates :=
  cif (f0_clauses ≤ x6)
    (cif (x4 = (4611686018427387904 : Int64))
      (.inr (.inr (.inr (false, x4, (0 : Int32), f0_gateCount, h0_gSet))))
      (.inr (.inr (.inr (true, x4, (0 : Int32), f0_gateCount, h0_gSet)))))
    (cif (vp_in x6 n0_cYes)
      (cif (vp_in x6 n0_cNo)
        (cif (((h0_cYes x6.toNatClampNeg) ||| (h0_cNo x6.toNatClampNeg)) ≤ x1)
          (.inr (.inr (.inl (x1, x4, x6 + (1 : Int32), f0_gateCount, h0_gSet))))
          (cif (x4 ≤ ((h0_cYes x6.toNatClampNeg) ||| (h0_cNo x6.toNatClampNeg)))
            (.inr (.inr (.inl (x1, x4, x6 + (1 : Int32), f0_gateCount, h0_gSet))))
            (sbd (D_X8_bits ((h0_cYes x6.toNatClampNeg) ||| (h0_cNo x6.toNatClampNeg))) (fun u_13 =>
              sbd (D_X8_isIn u_13.toInt64 (2 : Int64) (4 : Int64)) (fun u_15 =>
                cif (u_15 = true)
                  (.inr (.inr (.inl (x1, (h0_cYes x6.toNatClampNeg) ||| (h0_cNo x6.toNatClampNeg), x6 + (1 : Int32), f0_gateCount, h0_gSet))))
                  (.inr (.inr (.inl (x1, x4, x6 + (1 : Int32), f0_gateCount, h0_gSet)))))))))
        (.inl none))
      (.inl none))
noncomputable def b_X8_findGates_113 (f0_clauses : Int32) (n0_cYes : Nat) (h0_cYes : Nat → Int64) (n0_cNo : Nat) (h0_cNo : Nat → Int64) (n0_gSet : Nat) (x3 : Bool) (x4 : Int64) (x6 : Int32) (f0_gateCount : Int32) (h0_gSet : Nat → Int64) : Option (Int32 × (Nat → Int64)) ⊕ S_X8_findGates :=
  cif ((2 : Int32) ≤ x6)
    (.inr (.inl (x4, x3, f0_gateCount, h0_gSet)))
    (cif (x3 = true)
      (sbd (D_X8_isGate f0_clauses n0_cYes h0_cYes n0_cNo h0_cNo x4 x6) (fun u_23 =>
        cif (u_23 = true)
          (cif (x6 = (1 : Int32))
            (cif (vp_in f0_gateCount n0_gSet)
              (.inr (.inr (.inr (x3, x4, x6 + (1 : Int32), f0_gateCount + (1 : Int32), vp_updL h0_gSet f0_gateCount.toNatClampNeg (x4 ||| (4611686018427387904 : Int64))))))
              (.inl none))
            (cif (vp_in f0_gateCount n0_gSet)
              (.inr (.inr (.inr (x3, x4, x6 + (1 : Int32), f0_gateCount + (1 : Int32), vp_updL h0_gSet f0_gateCount.toNatClampNeg (x4 ||| (0 : Int64))))))
              (.inl none)))
          (.inr (.inr (.inr (x3, x4, x6 + (1 : Int32), f0_gateCount, h0_gSet))))))
      (.inr (.inl (x4, x3, f0_gateCount, h0_gSet))))
noncomputable def st_X8_findGates (f0_clauses : Int32) (n0_cYes : Nat) (h0_cYes : Nat → Int64) (n0_cNo : Nat) (h0_cNo : Nat → Int64) (n0_gSet : Nat) : S_X8_findGates → Option (Int32 × (Nat → Int64)) ⊕ S_X8_findGates := fun x => match x with
  | .inl (x1, x3, f0_gateCount, h0_gSet) => b_X8_findGates_9 f0_clauses n0_cYes h0_cYes n0_cNo h0_cNo n0_gSet x1 x3 f0_gateCount h0_gSet
  | .inr (.inl (x1, x4, x6, f0_gateCount, h0_gSet)) => b_X8_findGates_21 f0_clauses n0_cYes h0_cYes n0_cNo h0_cNo n0_gSet x1 x4 x6 f0_gateCount h0_gSet
  | .inr (.inr (x3, x4, x6, f0_gateCount, h0_gSet)) => b_X8_findGates_113 f0_clauses n0_cYes h0_cYes n0_cNo h0_cNo n0_gSet x3 x4 x6 f0_gateCount h0_gSet
noncomputable def L_X8_findGates_9 (f0_clauses : Int32) (n0_cYes : Nat) (h0_cYes : Nat → Int64) (n0_cNo : Nat) (h0_cNo : Nat → Int64) (n0_gSet : Nat) (x1 : Int64) (x3 : Bool) (f0_gateCount : Int32) (h0_gSet : Nat → Int64) : Option (Int32 × (Nat → Int64)) := runw (st_X8_findGates f0_clauses n0_cYes h0_cYes n0_cNo h0_cNo n0_gSet) (.inl (x1, x3, f0_gateCount, h0_gSet))
noncomputable def L_X8_findGates_21 (f0_clauses : Int32) (n0_cYes : Nat) (h0_cYes : Nat → Int64) (n0_cNo : Nat) (h0_cNo : Nat → Int64) (n0_gSet : Nat) (x1 : Int64) (x4 : Int64) (x6 : Int32) (f0_gateCount : Int32) (h0_gSet : Nat → Int64) : Option (Int32 × (Nat → Int64)) := runw (st_X8_findGates f0_clauses n0_cYes h0_cYes n0_cNo h0_cNo n0_gSet) (.inr (.inl (x1, x4, x6, f0_gateCount, h0_gSet)))
noncomputable def L_X8_findGates_113 (f0_clauses : Int32) (n0_cYes : Nat) (h0_cYes : Nat → Int64) (n0_cNo : Nat) (h0_cNo : Nat → Int64) (n0_gSet : Nat) (x3 : Bool) (x4 : Int64) (x6 : Int32) (f0_gateCount : Int32) (h0_gSet : Nat → Int64) : Option (Int32 × (Nat → Int64)) := runw (st_X8_findGates f0_clauses n0_cYes h0_cYes n0_cNo h0_cNo n0_gSet) (.inr (.inr (x3, x4, x6, f0_gateCount, h0_gSet)))
theorem E_X8_findGates_9 (f0_clauses : Int32) (n0_cYes : Nat) (h0_cYes : Nat → Int64) (n0_cNo : Nat) (h0_cNo : Nat → Int64) (n0_gSet : Nat) (x1 : Int64) (x3 : Bool) (f0_gateCount : Int32) (h0_gSet : Nat → Int64) : L_X8_findGates_9 f0_clauses n0_cYes h0_cYes n0_cNo h0_cNo n0_gSet x1 x3 f0_gateCount h0_gSet =
    cif (x3 = true)
      (L_X8_findGates_21 f0_clauses n0_cYes h0_cYes n0_cNo h0_cNo n0_gSet x1 (4611686018427387904 : Int64) (0 : Int32) f0_gateCount h0_gSet)
      (some (f0_gateCount, h0_gSet)) := by
  show runw (st_X8_findGates f0_clauses n0_cYes h0_cYes n0_cNo h0_cNo n0_gSet) (.inl (x1, x3, f0_gateCount, h0_gSet)) = _
  rw [runw_eq]
  show run1 _ (b_X8_findGates_9 f0_clauses n0_cYes h0_cYes n0_cNo h0_cNo n0_gSet x1 x3 f0_gateCount h0_gSet) = _
  simp only [b_X8_findGates_9, run1_cif, run1_sbd, run1_inl, run1_inr]
  try rfl
theorem E_X8_findGates_21 (f0_clauses : Int32) (n0_cYes : Nat) (h0_cYes : Nat → Int64) (n0_cNo : Nat) (h0_cNo : Nat → Int64) (n0_gSet : Nat) (x1 : Int64) (x4 : Int64) (x6 : Int32) (f0_gateCount : Int32) (h0_gSet : Nat → Int64) : L_X8_findGates_21 f0_clauses n0_cYes h0_cYes n0_cNo h0_cNo n0_gSet x1 x4 x6 f0_gateCount h0_gSet =
    cif (f0_clauses ≤ x6)
      (cif (x4 = (4611686018427387904 : Int64))
        (L_X8_findGates_113 f0_clauses n0_cYes h0_cYes n0_cNo h0_cNo n0_gSet false x4 (0 : Int32) f0_gateCount h0_gSet)
        (L_X8_findGates_113 f0_clauses n0_cYes h0_cYes n0_cNo h0_cNo n0_gSet true x4 (0 : Int32) f0_gateCount h0_gSet))
      (cif (vp_in x6 n0_cYes)
        (cif (vp_in x6 n0_cNo)
          (cif (((h0_cYes x6.toNatClampNeg) ||| (h0_cNo x6.toNatClampNeg)) ≤ x1)
            (L_X8_findGates_21 f0_clauses n0_cYes h0_cYes n0_cNo h0_cNo n0_gSet x1 x4 (x6 + (1 : Int32)) f0_gateCount h0_gSet)
            (cif (x4 ≤ ((h0_cYes x6.toNatClampNeg) ||| (h0_cNo x6.toNatClampNeg)))
              (L_X8_findGates_21 f0_clauses n0_cYes h0_cYes n0_cNo h0_cNo n0_gSet x1 x4 (x6 + (1 : Int32)) f0_gateCount h0_gSet)
              (Option.bind (D_X8_bits ((h0_cYes x6.toNatClampNeg) ||| (h0_cNo x6.toNatClampNeg))) (fun u_13 =>
                Option.bind (D_X8_isIn u_13.toInt64 (2 : Int64) (4 : Int64)) (fun u_15 =>
                  cif (u_15 = true)
                    (L_X8_findGates_21 f0_clauses n0_cYes h0_cYes n0_cNo h0_cNo n0_gSet x1 ((h0_cYes x6.toNatClampNeg) ||| (h0_cNo x6.toNatClampNeg)) (x6 + (1 : Int32)) f0_gateCount h0_gSet)
                    (L_X8_findGates_21 f0_clauses n0_cYes h0_cYes n0_cNo h0_cNo n0_gSet x1 x4 (x6 + (1 : Int32)) f0_gateCount h0_gSet))))))
          (none))
        (none)) := by
  show runw (st_X8_findGates f0_clauses n0_cYes h0_cYes n0_cNo h0_cNo n0_gSet) (.inr (.inl (x1, x4, x6, f0_gateCount, h0_gSet))) = _
  rw [runw_eq]
  show run1 _ (b_X8_findGates_21 f0_clauses n0_cYes h0_cYes n0_cNo h0_cNo n0_gSet x1 x4 x6 f0_gateCount h0_gSet) = _
  simp only [b_X8_findGates_21, run1_cif, run1_sbd, run1_inl, run1_inr]
  try rfl
theorem E_X8_findGates_113 (f0_clauses : Int32) (n0_cYes : Nat) (h0_cYes : Nat → Int64) (n0_cNo : Nat) (h0_cNo : Nat → Int64) (n0_gSet : Nat) (x3 : Bool) (x4 : Int64) (x6 : Int32) (f0_gateCount : Int32) (h0_gSet : Nat → Int64) : L_X8_findGates_113 f0_clauses n0_cYes h0_cYes n0_cNo h0_cNo n0_gSet x3 x4 x6 f0_gateCount h0_gSet =
    cif ((2 : Int32) ≤ x6)
      (L_X8_findGates_9 f0_clauses n0_cYes h0_cYes n0_cNo h0_cNo n0_gSet x4 x3 f0_gateCount h0_gSet)
      (cif (x3 = true)
        (Option.bind (D_X8_isGate f0_clauses n0_cYes h0_cYes n0_cNo h0_cNo x4 x6) (fun u_23 =>
          cif (u_23 = true)
            (cif (x6 = (1 : Int32))
              (cif (vp_in f0_gateCount n0_gSet)
                (L_X8_findGates_113 f0_clauses n0_cYes h0_cYes n0_cNo h0_cNo n0_gSet x3 x4 (x6 + (1 : Int32)) (f0_gateCount + (1 : Int32)) (vp_updL h0_gSet f0_gateCount.toNatClampNeg (x4 ||| (4611686018427387904 : Int64))))
                (none))
              (cif (vp_in f0_gateCount n0_gSet)
                (L_X8_findGates_113 f0_clauses n0_cYes h0_cYes n0_cNo h0_cNo n0_gSet x3 x4 (x6 + (1 : Int32)) (f0_gateCount + (1 : Int32)) (vp_updL h0_gSet f0_gateCount.toNatClampNeg (x4 ||| (0 : Int64))))
                (none)))
            (L_X8_findGates_113 f0_clauses n0_cYes h0_cYes n0_cNo h0_cNo n0_gSet x3 x4 (x6 + (1 : Int32)) f0_gateCount h0_gSet)))
        (L_X8_findGates_9 f0_clauses n0_cYes h0_cYes n0_cNo h0_cNo n0_gSet x4 x3 f0_gateCount h0_gSet)) := by
  show runw (st_X8_findGates f0_clauses n0_cYes h0_cYes n0_cNo h0_cNo n0_gSet) (.inr (.inr (x3, x4, x6, f0_gateCount, h0_gSet))) = _
  rw [runw_eq]
  show run1 _ (b_X8_findGates_113 f0_clauses n0_cYes h0_cYes n0_cNo h0_cNo n0_gSet x3 x4 x6 f0_gateCount h0_gSet) = _
  simp only [b_X8_findGates_113, run1_cif, run1_sbd, run1_inl, run1_inr]
  try rfl
noncomputable def D_X8_findGates (f0_clauses : Int32) (f0_gateCount : Int32) (n0_cYes : Nat) (h0_cYes : Nat → Int64) (n0_cNo : Nat) (h0_cNo : Nat → Int64) (n0_gSet : Nat) (h0_gSet : Nat → Int64) : Option (Int32 × (Nat → Int64)) :=
  L_X8_findGates_9 f0_clauses n0_cYes h0_cYes n0_cNo h0_cNo n0_gSet (0 : Int64) true (0 : Int32) h0_gSet
noncomputable def D_X8_gates (f0_thrown : Int32) (f0_clauses : Int32) (f0_gateCount : Int32) (n0_cYes : Nat) (h0_cYes : Nat → Int64) (n0_cNo : Nat) (h0_cNo : Nat → Int64) (n0_gSet : Nat) (h0_gSet : Nat → Int64) : Option (Int32 × Int32 × Int32 × (Nat → Int64)) :=
  Option.bind (D_X8_findGates f0_clauses f0_gateCount n0_cYes h0_cYes n0_cNo h0_cNo n0_gSet h0_gSet) (fun u_1 =>
    some (u_1.1, (0 : Int32), u_1.1, u_1.2))
noncomputable def D_X8_gate (f0_thrown : Int32) (f0_clauses : Int32) (f0_gateCount : Int32) (n0_cYes : Nat) (h0_cYes : Nat → Int64) (n0_cNo : Nat) (h0_cNo : Nat → Int64) (n0_gSet : Nat) (h0_gSet : Nat → Int64) (x1 : Int32) : Option (Int64 × Int32 × Int32 × (Nat → Int64)) :=
  Option.bind (D_X8_findGates f0_clauses f0_gateCount n0_cYes h0_cYes n0_cNo h0_cNo n0_gSet h0_gSet) (fun u_1 =>
    Option.bind (D_X8_isIn x1.toInt64 (0 : Int64) ((u_1.1 - (1 : Int32)).toInt64)) (fun u_3 =>
      Option.bind (D_X8_may f0_thrown u_3 true) (fun u_5 =>
        cif (u_5.1 = true)
          (cif (vp_in x1 n0_gSet)
            (some (u_1.2 x1.toNatClampNeg, u_5.2, u_1.1, u_1.2))
            (none))
          (some ((0 : Int64), u_5.2, u_1.1, u_1.2)))))
noncomputable def D_X8_count (f0_thrown : Int32) (f0_n : Int32) (f0_equations : Int32) (f0_clauses : Int32) (f0_levels : Int32) (f0_tapeSize : Int32) (x1 : Int32) : Option (Int32 × Int32) :=
  Option.bind (D_X8_isIn x1.toInt64 (0 : Int64) (4 : Int64)) (fun u_1 =>
    Option.bind (D_X8_may f0_thrown u_1 true) (fun u_3 =>
      cif (u_3.1 = true)
        (cif (x1 = 0)
          (some (f0_n, u_3.2))
          (cif (x1 = (1 : Int32))
            (some (f0_equations, u_3.2))
            (cif (x1 = (2 : Int32))
              (some (f0_clauses, u_3.2))
              (cif (x1 = (3 : Int32))
                (some (f0_levels, u_3.2))
                (some (f0_tapeSize, u_3.2))))))
        (some ((0 : Int32), u_3.2))))
noncomputable def D_X8_clear (f0_thrown : Int32) (f0_equations : Int32) (f0_clauses : Int32) (f0_levels : Int32) (f0_tapeSize : Int32) : Option (Int32 × Int32 × Int32 × Int32 × Int32) :=
  some ((0 : Int32), (0 : Int32), (0 : Int32), (0 : Int32), (0 : Int32))
noncomputable def D_L_equation (f0_variables : Int64) (f0_rowsFresh : Bool) (f0_gatesFresh : Bool) (f0_store_equationCount : Int32) (n0_store_equations : Nat) (h0_store_equations : Nat → Int64) (n4 : Nat) (h4 : Nat → Int64) (x1 : Int64) (x3 : Int32) : Option (Int32 × Bool × Bool × Int32 × (Nat → Int64) × (Nat → Int64)) :=
  Option.bind (D_X7_equation f0_variables f0_rowsFresh f0_gatesFresh f0_store_equationCount n0_store_equations h0_store_equations x1 x3) (fun u_1 =>
    sme u_1.1 (fun x_3 =>
      cif (vp_in (0 : Int32) n4)
        (some ((0 : Int32), u_1.2.1, u_1.2.2.1, u_1.2.2.2.1, u_1.2.2.2.2, vp_updL h4 (0 : Int32).toNatClampNeg x_3.toInt64))
        (none)) (fun e_4 =>
      cif (e_4 = 0)
        (some ((1 : Int32), u_1.2.1, u_1.2.2.1, u_1.2.2.2.1, u_1.2.2.2.2, h4))
        (cif (e_4 = 1)
          (some ((2 : Int32), u_1.2.1, u_1.2.2.1, u_1.2.2.2.1, u_1.2.2.2.2, h4))
          (none))))
noncomputable def D_L_clause (f0_variables : Int64) (f0_rowsFresh : Bool) (f0_gatesFresh : Bool) (f0_store_clauseCount : Int32) (n0_store_yes : Nat) (h0_store_yes : Nat → Int64) (n0_store_no : Nat) (h0_store_no : Nat → Int64) (n5 : Nat) (h5 : Nat → Int64) (x1 : Int64) (x3 : Int64) : Option (Int32 × Bool × Bool × Int32 × (Nat → Int64) × (Nat → Int64) × (Nat → Int64)) :=
  Option.bind (D_X7_clause f0_variables f0_rowsFresh f0_gatesFresh f0_store_clauseCount n0_store_yes h0_store_yes n0_store_no h0_store_no x1 x3) (fun u_1 =>
    sme u_1.1 (fun x_3 =>
      cif (vp_in (0 : Int32) n5)
        (some ((0 : Int32), u_1.2.1, u_1.2.2.1, u_1.2.2.2.1, u_1.2.2.2.2.1, u_1.2.2.2.2.2, vp_updL h5 (0 : Int32).toNatClampNeg x_3.toInt64))
        (none)) (fun e_4 =>
      cif (e_4 = 0)
        (some ((1 : Int32), u_1.2.1, u_1.2.2.1, u_1.2.2.2.1, u_1.2.2.2.2.1, u_1.2.2.2.2.2, h5))
        (cif (e_4 = 1)
          (some ((2 : Int32), u_1.2.1, u_1.2.2.1, u_1.2.2.2.1, u_1.2.2.2.2.1, u_1.2.2.2.2.2, h5))
          (none))))
noncomputable def D_L_feed (f0_tape_length : Int32) (n0_tape_bytes : Nat) (h0_tape_bytes : Nat → Int32) (n4 : Nat) (h4 : Nat → Int64) (x1 : Int64) (x3 : Int32) : Option (Int32 × Int32 × (Nat → Int32) × (Nat → Int64)) :=
  Option.bind (D_X7_feed f0_tape_length n0_tape_bytes h0_tape_bytes x1 x3) (fun u_1 =>
    sme u_1.1 (fun x_3 =>
      cif (vp_in (0 : Int32) n4)
        (some ((0 : Int32), u_1.2.1, u_1.2.2, vp_updL h4 (0 : Int32).toNatClampNeg x_3.toInt64))
        (none)) (fun e_4 =>
      cif (e_4 = 0)
        (some ((1 : Int32), u_1.2.1, u_1.2.2, h4))
        (cif (e_4 = 1)
          (some ((2 : Int32), u_1.2.1, u_1.2.2, h4))
          (none))))
noncomputable def D_L_push (f0_store_equationCount : Int32) (f0_store_clauseCount : Int32) (f0_store_levelCount : Int32) (n0_store_equationsBefore : Nat) (h0_store_equationsBefore : Nat → Int32) (n0_store_clausesBefore : Nat) (h0_store_clausesBefore : Nat → Int32) (n1 : Nat) (h1 : Nat → Int64) : Option (Int32 × Int32 × (Nat → Int32) × (Nat → Int32) × (Nat → Int64)) :=
  Option.bind (D_X7_push f0_store_equationCount f0_store_clauseCount f0_store_levelCount n0_store_equationsBefore h0_store_equationsBefore n0_store_clausesBefore h0_store_clausesBefore) (fun u_1 =>
    sme u_1.1 (fun x_3 =>
      cif (vp_in (0 : Int32) n1)
        (some ((0 : Int32), u_1.2.1, u_1.2.2.1, u_1.2.2.2, vp_updL h1 (0 : Int32).toNatClampNeg x_3.toInt64))
        (none)) (fun e_4 =>
      cif (e_4 = 1)
        (some ((1 : Int32), u_1.2.1, u_1.2.2.1, u_1.2.2.2, h1))
        (none)))
noncomputable def D_L_pop (f0_rowsFresh : Bool) (f0_gatesFresh : Bool) (f0_store_equationCount : Int32) (f0_store_clauseCount : Int32) (f0_store_levelCount : Int32) (n0_store_equationsBefore : Nat) (h0_store_equationsBefore : Nat → Int32) (n0_store_clausesBefore : Nat) (h0_store_clausesBefore : Nat → Int32) (n2 : Nat) (h2 : Nat → Int64) (x1 : Int32) : Option (Int32 × Bool × Bool × Int32 × Int32 × Int32 × (Nat → Int64)) :=
  Option.bind (D_X7_pop f0_rowsFresh f0_gatesFresh f0_store_equationCount f0_store_clauseCount f0_store_levelCount n0_store_equationsBefore h0_store_equationsBefore n0_store_clausesBefore h0_store_clausesBefore x1) (fun u_1 =>
    sme u_1.1 (fun x_3 =>
      cif (vp_in (0 : Int32) n2)
        (some ((0 : Int32), u_1.2.1, u_1.2.2.1, u_1.2.2.2.1, u_1.2.2.2.2.1, u_1.2.2.2.2.2, vp_updL h2 (0 : Int32).toNatClampNeg x_3.toInt64))
        (none)) (fun e_4 =>
      cif (e_4 = 0)
        (some ((1 : Int32), u_1.2.1, u_1.2.2.1, u_1.2.2.2.1, u_1.2.2.2.2.1, u_1.2.2.2.2.2, h2))
        (none)))
noncomputable def D_L_told (f0_store_equationCount : Int32) (f0_store_clauseCount : Int32) (n0_store_equations : Nat) (h0_store_equations : Nat → Int64) (n0_store_yes : Nat) (h0_store_yes : Nat → Int64) (n0_store_no : Nat) (h0_store_no : Nat → Int64) (n3 : Nat) (h3 : Nat → Int64) (x1 : Int32) (x2 : Int32) : Option (Int32 × (Nat → Int64)) :=
  Option.bind (D_X7_told f0_store_equationCount f0_store_clauseCount n0_store_equations h0_store_equations n0_store_yes h0_store_yes n0_store_no h0_store_no x1 x2) (fun u_1 =>
    sme u_1 (fun x_3 =>
      cif (vp_in (0 : Int32) n3)
        (some ((0 : Int32), vp_updL h3 (0 : Int32).toNatClampNeg x_3))
        (none)) (fun e_4 =>
      cif (e_4 = 2)
        (some ((1 : Int32), h3))
        (cif (e_4 = 0)
          (some ((2 : Int32), h3))
          (none))))
noncomputable def D_L_row (f0_rowsFresh : Bool) (f0_store_equationCount : Int32) (n0_store_equations : Nat) (h0_store_equations : Nat → Int64) (f0_base_n : Int32) (f0_base_impossible : Bool) (n0_base_byHead : Nat) (h0_base_byHead : Nat → Int64) (n2 : Nat) (h2 : Nat → Int64) (x1 : Int32) : Option (Int32 × Bool × Bool × (Nat → Int64) × (Nat → Int64)) :=
  Option.bind (D_X7_row f0_rowsFresh f0_store_equationCount n0_store_equations h0_store_equations f0_base_n f0_base_impossible n0_base_byHead h0_base_byHead x1) (fun u_1 =>
    sme u_1.1 (fun x_3 =>
      cif (vp_in (0 : Int32) n2)
        (some ((0 : Int32), u_1.2.1, u_1.2.2.1, u_1.2.2.2, vp_updL h2 (0 : Int32).toNatClampNeg x_3))
        (none)) (fun e_4 =>
      cif (e_4 = 2)
        (some ((1 : Int32), u_1.2.1, u_1.2.2.1, u_1.2.2.2, h2))
        (none)))
noncomputable def D_L_sum (f0_variables : Int64) (f0_rowsFresh : Bool) (f0_store_equationCount : Int32) (n0_store_equations : Nat) (h0_store_equations : Nat → Int64) (f0_base_n : Int32) (f0_base_impossible : Bool) (n0_base_byHead : Nat) (h0_base_byHead : Nat → Int64) (n3 : Nat) (h3 : Nat → Int64) (x1 : Int64) : Option (Int32 × Bool × Bool × (Nat → Int64) × (Nat → Int64)) :=
  Option.bind (D_X7_sum f0_variables f0_rowsFresh f0_store_equationCount n0_store_equations h0_store_equations f0_base_n f0_base_impossible n0_base_byHead h0_base_byHead x1) (fun u_1 =>
    sme u_1.1 (fun x_3 =>
      cif (vp_in (0 : Int32) n3)
        (some ((0 : Int32), u_1.2.1, u_1.2.2.1, u_1.2.2.2, vp_updL h3 (0 : Int32).toNatClampNeg x_3.toInt64))
        (none)) (fun e_4 =>
      cif (e_4 = 0)
        (some ((1 : Int32), u_1.2.1, u_1.2.2.1, u_1.2.2.2, h3))
        (none)))
noncomputable def D_L_follow (f0_variables : Int64) (f0_rowsFresh : Bool) (f0_store_equationCount : Int32) (f0_store_clauseCount : Int32) (n0_store_equations : Nat) (h0_store_equations : Nat → Int64) (n0_store_yes : Nat) (h0_store_yes : Nat → Int64) (n0_store_no : Nat) (h0_store_no : Nat → Int64) (f0_base_n : Int32) (f0_base_impossible : Bool) (n0_base_byHead : Nat) (h0_base_byHead : Nat → Int64) (f0_taking_n : Int32) (f0_taking_taken : Int64) (f0_taking_ones : Int64) (f0_taking_rows_n : Int32) (f0_taking_rows_impossible : Bool) (n0_taking_rows_byHead : Nat) (h0_taking_rows_byHead : Nat → Int64) (n6 : Nat) (h6 : Nat → Int64) (x1 : Int64) (x3 : Int64) (x5 : Bool) : Option (Int32 × Bool × Bool × (Nat → Int64) × Int64 × Int64 × Bool × (Nat → Int64) × (Nat → Int64)) :=
  Option.bind (D_X7_follow f0_variables f0_rowsFresh f0_store_equationCount f0_store_clauseCount n0_store_equations h0_store_equations n0_store_yes h0_store_yes n0_store_no h0_store_no f0_base_n f0_base_impossible n0_base_byHead h0_base_byHead f0_taking_n f0_taking_taken f0_taking_ones f0_taking_rows_n f0_taking_rows_impossible n0_taking_rows_byHead h0_taking_rows_byHead x1 x3 x5) (fun u_1 =>
    sme u_1.1 (fun x_3 =>
      cif (vp_in (0 : Int32) n6)
        (some ((0 : Int32), u_1.2.1, u_1.2.2.1, u_1.2.2.2.1, u_1.2.2.2.2.1, u_1.2.2.2.2.2.1, u_1.2.2.2.2.2.2.1, u_1.2.2.2.2.2.2.2, vp_updL h6 (0 : Int32).toNatClampNeg x_3))
        (none)) (fun e_4 =>
      cif (e_4 = 0)
        (some ((1 : Int32), u_1.2.1, u_1.2.2.1, u_1.2.2.2.1, u_1.2.2.2.2.1, u_1.2.2.2.2.2.1, u_1.2.2.2.2.2.2.1, u_1.2.2.2.2.2.2.2, h6))
        (none)))
noncomputable def D_L_solve (f0_rowsFresh : Bool) (f0_latestNodes : Int32) (f0_latestModel : Int64) (f0_store_equationCount : Int32) (f0_store_clauseCount : Int32) (n0_store_equations : Nat) (h0_store_equations : Nat → Int64) (n0_store_yes : Nat) (h0_store_yes : Nat → Int64) (n0_store_no : Nat) (h0_store_no : Nat → Int64) (f0_base_n : Int32) (f0_base_impossible : Bool) (n0_base_byHead : Nat) (h0_base_byHead : Nat → Int64) (f0_search_n : Int32) (f0_search_pileSize : Int32) (f0_search_nodeCount : Int32) (f0_search_modelCount : Int32) (f0_search_lastModel : Int64) (f0_search_cut : Bool) (f0_search_start_n : Int32) (f0_search_start_taken : Int64) (f0_search_start_ones : Int64) (f0_search_start_rows_n : Int32) (f0_search_start_rows_impossible : Bool) (n0_search_start_rows_byHead : Nat) (h0_search_start_rows_byHead : Nat → Int64) (n0_search_pileRows : Nat) (h0_search_pileRows : Nat → Int64) (n0_search_pileTaken : Nat) (h0_search_pileTaken : Nat → Int64) (n0_search_pileOnes : Nat) (h0_search_pileOnes : Nat → Int64) (n2 : Nat) (h2 : Nat → Int64) (x1 : Int32) : Option (Int32 × Bool × Int32 × Int64 × Bool × (Nat → Int64) × Int32 × Int32 × Int32 × Int64 × Bool × Int64 × Int64 × Bool × (Nat → Int64) × (Nat → Int64) × (Nat → Int64) × (Nat → Int64) × (Nat → Int64)) :=
  Option.bind (D_X7_solve f0_rowsFresh f0_latestNodes f0_latestModel f0_store_equationCount f0_store_clauseCount n0_store_equations h0_store_equations n0_store_yes h0_store_yes n0_store_no h0_store_no f0_base_n f0_base_impossible n0_base_byHead h0_base_byHead f0_search_n f0_search_pileSize f0_search_nodeCount f0_search_modelCount f0_search_lastModel f0_search_cut f0_search_start_n f0_search_start_taken f0_search_start_ones f0_search_start_rows_n f0_search_start_rows_impossible n0_search_start_rows_byHead h0_search_start_rows_byHead n0_search_pileRows h0_search_pileRows n0_search_pileTaken h0_search_pileTaken n0_search_pileOnes h0_search_pileOnes x1) (fun u_1 =>
    sme u_1.1 (fun x_3 =>
      cif (vp_in (0 : Int32) n2)
        (some ((0 : Int32), u_1.2.1, u_1.2.2.1, u_1.2.2.2.1, u_1.2.2.2.2.1, u_1.2.2.2.2.2.1, u_1.2.2.2.2.2.2.1, u_1.2.2.2.2.2.2.2.1, u_1.2.2.2.2.2.2.2.2.1, u_1.2.2.2.2.2.2.2.2.2.1, u_1.2.2.2.2.2.2.2.2.2.2.1, u_1.2.2.2.2.2.2.2.2.2.2.2.1, u_1.2.2.2.2.2.2.2.2.2.2.2.2.1, u_1.2.2.2.2.2.2.2.2.2.2.2.2.2.1, u_1.2.2.2.2.2.2.2.2.2.2.2.2.2.2.1, u_1.2.2.2.2.2.2.2.2.2.2.2.2.2.2.2.1, u_1.2.2.2.2.2.2.2.2.2.2.2.2.2.2.2.2.1, u_1.2.2.2.2.2.2.2.2.2.2.2.2.2.2.2.2.2, vp_updL h2 (0 : Int32).toNatClampNeg x_3.toInt64))
        (none)) (fun e_4 =>
      cif (e_4 = 0)
        (some ((1 : Int32), u_1.2.1, u_1.2.2.1, u_1.2.2.2.1, u_1.2.2.2.2.1, u_1.2.2.2.2.2.1, u_1.2.2.2.2.2.2.1, u_1.2.2.2.2.2.2.2.1, u_1.2.2.2.2.2.2.2.2.1, u_1.2.2.2.2.2.2.2.2.2.1, u_1.2.2.2.2.2.2.2.2.2.2.1, u_1.2.2.2.2.2.2.2.2.2.2.2.1, u_1.2.2.2.2.2.2.2.2.2.2.2.2.1, u_1.2.2.2.2.2.2.2.2.2.2.2.2.2.1, u_1.2.2.2.2.2.2.2.2.2.2.2.2.2.2.1, u_1.2.2.2.2.2.2.2.2.2.2.2.2.2.2.2.1, u_1.2.2.2.2.2.2.2.2.2.2.2.2.2.2.2.2.1, u_1.2.2.2.2.2.2.2.2.2.2.2.2.2.2.2.2.2, h2))
        (none)))
noncomputable def D_L_models (f0_rowsFresh : Bool) (f0_latestNodes : Int32) (f0_store_equationCount : Int32) (f0_store_clauseCount : Int32) (n0_store_equations : Nat) (h0_store_equations : Nat → Int64) (n0_store_yes : Nat) (h0_store_yes : Nat → Int64) (n0_store_no : Nat) (h0_store_no : Nat → Int64) (f0_base_n : Int32) (f0_base_impossible : Bool) (n0_base_byHead : Nat) (h0_base_byHead : Nat → Int64) (f0_search_n : Int32) (f0_search_pileSize : Int32) (f0_search_nodeCount : Int32) (f0_search_modelCount : Int32) (f0_search_lastModel : Int64) (f0_search_cut : Bool) (f0_search_start_n : Int32) (f0_search_start_taken : Int64) (f0_search_start_ones : Int64) (f0_search_start_rows_n : Int32) (f0_search_start_rows_impossible : Bool) (n0_search_start_rows_byHead : Nat) (h0_search_start_rows_byHead : Nat → Int64) (n0_search_pileRows : Nat) (h0_search_pileRows : Nat → Int64) (n0_search_pileTaken : Nat) (h0_search_pileTaken : Nat → Int64) (n0_search_pileOnes : Nat) (h0_search_pileOnes : Nat → Int64) (n2 : Nat) (h2 : Nat → Int64) (x1 : Int32) : Option (Int32 × Bool × Int32 × Bool × (Nat → Int64) × Int32 × Int32 × Int32 × Int64 × Bool × Int64 × Int64 × Bool × (Nat → Int64) × (Nat → Int64) × (Nat → Int64) × (Nat → Int64) × (Nat → Int64)) :=
  Option.bind (D_X7_models f0_rowsFresh f0_latestNodes f0_store_equationCount f0_store_clauseCount n0_store_equations h0_store_equations n0_store_yes h0_store_yes n0_store_no h0_store_no f0_base_n f0_base_impossible n0_base_byHead h0_base_byHead f0_search_n f0_search_pileSize f0_search_nodeCount f0_search_modelCount f0_search_lastModel f0_search_cut f0_search_start_n f0_search_start_taken f0_search_start_ones f0_search_start_rows_n f0_search_start_rows_impossible n0_search_start_rows_byHead h0_search_start_rows_byHead n0_search_pileRows h0_search_pileRows n0_search_pileTaken h0_search_pileTaken n0_search_pileOnes h0_search_pileOnes x1) (fun u_1 =>
    sme u_1.1 (fun x_3 =>
      cif (vp_in (0 : Int32) n2)
        (some ((0 : Int32), u_1.2.1, u_1.2.2.1, u_1.2.2.2.1, u_1.2.2.2.2.1, u_1.2.2.2.2.2.1, u_1.2.2.2.2.2.2.1, u_1.2.2.2.2.2.2.2.1, u_1.2.2.2.2.2.2.2.2.1, u_1.2.2.2.2.2.2.2.2.2.1, u_1.2.2.2.2.2.2.2.2.2.2.1, u_1.2.2.2.2.2.2.2.2.2.2.2.1, u_1.2.2.2.2.2.2.2.2.2.2.2.2.1, u_1.2.2.2.2.2.2.2.2.2.2.2.2.2.1, u_1.2.2.2.2.2.2.2.2.2.2.2.2.2.2.1, u_1.2.2.2.2.2.2.2.2.2.2.2.2.2.2.2.1, u_1.2.2.2.2.2.2.2.2.2.2.2.2.2.2.2.2, vp_updL h2 (0 : Int32).toNatClampNeg x_3))
        (none)) (fun e_4 =>
      cif (e_4 = 0)
        (some ((1 : Int32), u_1.2.1, u_1.2.2.1, u_1.2.2.2.1, u_1.2.2.2.2.1, u_1.2.2.2.2.2.1, u_1.2.2.2.2.2.2.1, u_1.2.2.2.2.2.2.2.1, u_1.2.2.2.2.2.2.2.2.1, u_1.2.2.2.2.2.2.2.2.2.1, u_1.2.2.2.2.2.2.2.2.2.2.1, u_1.2.2.2.2.2.2.2.2.2.2.2.1, u_1.2.2.2.2.2.2.2.2.2.2.2.2.1, u_1.2.2.2.2.2.2.2.2.2.2.2.2.2.1, u_1.2.2.2.2.2.2.2.2.2.2.2.2.2.2.1, u_1.2.2.2.2.2.2.2.2.2.2.2.2.2.2.2.1, u_1.2.2.2.2.2.2.2.2.2.2.2.2.2.2.2.2, h2))
        (none)))
noncomputable def D_L_must (f0_n : Int32) (f0_rowsFresh : Bool) (f0_latestNodes : Int32) (f0_store_equationCount : Int32) (f0_store_clauseCount : Int32) (n0_store_equations : Nat) (h0_store_equations : Nat → Int64) (n0_store_yes : Nat) (h0_store_yes : Nat → Int64) (n0_store_no : Nat) (h0_store_no : Nat → Int64) (f0_base_n : Int32) (f0_base_impossible : Bool) (n0_base_byHead : Nat) (h0_base_byHead : Nat → Int64) (f0_search_n : Int32) (f0_search_pileSize : Int32) (f0_search_nodeCount : Int32) (f0_search_modelCount : Int32) (f0_search_lastModel : Int64) (f0_search_cut : Bool) (f0_search_start_n : Int32) (f0_search_start_taken : Int64) (f0_search_start_ones : Int64) (f0_search_start_rows_n : Int32) (f0_search_start_rows_impossible : Bool) (n0_search_start_rows_byHead : Nat) (h0_search_start_rows_byHead : Nat → Int64) (n0_search_pileRows : Nat) (h0_search_pileRows : Nat → Int64) (n0_search_pileTaken : Nat) (h0_search_pileTaken : Nat → Int64) (n0_search_pileOnes : Nat) (h0_search_pileOnes : Nat → Int64) (n3 : Nat) (h3 : Nat → Int64) (x1 : Int32) (x2 : Int32) : Option (Int32 × Bool × Int32 × Bool × (Nat → Int64) × Int32 × Int32 × Int32 × Int64 × Bool × Int64 × Int64 × Bool × (Nat → Int64) × (Nat → Int64) × (Nat → Int64) × (Nat → Int64) × (Nat → Int64)) :=
  Option.bind (D_X7_must f0_n f0_rowsFresh f0_latestNodes f0_store_equationCount f0_store_clauseCount n0_store_equations h0_store_equations n0_store_yes h0_store_yes n0_store_no h0_store_no f0_base_n f0_base_impossible n0_base_byHead h0_base_byHead f0_search_n f0_search_pileSize f0_search_nodeCount f0_search_modelCount f0_search_lastModel f0_search_cut f0_search_start_n f0_search_start_taken f0_search_start_ones f0_search_start_rows_n f0_search_start_rows_impossible n0_search_start_rows_byHead h0_search_start_rows_byHead n0_search_pileRows h0_search_pileRows n0_search_pileTaken h0_search_pileTaken n0_search_pileOnes h0_search_pileOnes x1 x2) (fun u_1 =>
    sme u_1.1 (fun x_3 =>
      cif (vp_in (0 : Int32) n3)
        (some ((0 : Int32), u_1.2.1, u_1.2.2.1, u_1.2.2.2.1, u_1.2.2.2.2.1, u_1.2.2.2.2.2.1, u_1.2.2.2.2.2.2.1, u_1.2.2.2.2.2.2.2.1, u_1.2.2.2.2.2.2.2.2.1, u_1.2.2.2.2.2.2.2.2.2.1, u_1.2.2.2.2.2.2.2.2.2.2.1, u_1.2.2.2.2.2.2.2.2.2.2.2.1, u_1.2.2.2.2.2.2.2.2.2.2.2.2.1, u_1.2.2.2.2.2.2.2.2.2.2.2.2.2.1, u_1.2.2.2.2.2.2.2.2.2.2.2.2.2.2.1, u_1.2.2.2.2.2.2.2.2.2.2.2.2.2.2.2.1, u_1.2.2.2.2.2.2.2.2.2.2.2.2.2.2.2.2, vp_updL h3 (0 : Int32).toNatClampNeg x_3.toInt64))
        (none)) (fun e_4 =>
      cif (e_4 = 2)
        (some ((1 : Int32), u_1.2.1, u_1.2.2.1, u_1.2.2.2.1, u_1.2.2.2.2.1, u_1.2.2.2.2.2.1, u_1.2.2.2.2.2.2.1, u_1.2.2.2.2.2.2.2.1, u_1.2.2.2.2.2.2.2.2.1, u_1.2.2.2.2.2.2.2.2.2.1, u_1.2.2.2.2.2.2.2.2.2.2.1, u_1.2.2.2.2.2.2.2.2.2.2.2.1, u_1.2.2.2.2.2.2.2.2.2.2.2.2.1, u_1.2.2.2.2.2.2.2.2.2.2.2.2.2.1, u_1.2.2.2.2.2.2.2.2.2.2.2.2.2.2.1, u_1.2.2.2.2.2.2.2.2.2.2.2.2.2.2.2.1, u_1.2.2.2.2.2.2.2.2.2.2.2.2.2.2.2.2, h3))
        (cif (e_4 = 0)
          (some ((2 : Int32), u_1.2.1, u_1.2.2.1, u_1.2.2.2.1, u_1.2.2.2.2.1, u_1.2.2.2.2.2.1, u_1.2.2.2.2.2.2.1, u_1.2.2.2.2.2.2.2.1, u_1.2.2.2.2.2.2.2.2.1, u_1.2.2.2.2.2.2.2.2.2.1, u_1.2.2.2.2.2.2.2.2.2.2.1, u_1.2.2.2.2.2.2.2.2.2.2.2.1, u_1.2.2.2.2.2.2.2.2.2.2.2.2.1, u_1.2.2.2.2.2.2.2.2.2.2.2.2.2.1, u_1.2.2.2.2.2.2.2.2.2.2.2.2.2.2.1, u_1.2.2.2.2.2.2.2.2.2.2.2.2.2.2.2.1, u_1.2.2.2.2.2.2.2.2.2.2.2.2.2.2.2.2, h3))
          (none))))
