/-- where a call's answer goes: returned, or thrown -/
def sme {α β : Type} (z : α ⊕ Nat) (f : α → β) (g : Nat → β) : β := match z with
  | .inl a => f a
  | .inr k => g k
abbrev S_J7_fill_d0a16 : Type := (Int32 × Int32 × (Nat → Int64))
noncomputable def b_J7_fill_d0a16_6 (n0 : Nat) (x1 : Int64) (x3 : Int32) (x4 : Int32) (h0 : Nat → Int64) : Option ((Nat → Int64)) ⊕ S_J7_fill_d0a16 :=
  cif (x4 ≤ x3)
    (.inl (some h0))
    (cif (vp_in x3 n0)
      (.inr (x3 + (1 : Int32), x4, vp_updL h0 x3.toNatClampNeg x1))
      (.inl none))
noncomputable def st_J7_fill_d0a16 (n0 : Nat) (x1 : Int64) : S_J7_fill_d0a16 → Option ((Nat → Int64)) ⊕ S_J7_fill_d0a16 := fun x => match x with
  | (x3, x4, h0) => b_J7_fill_d0a16_6 n0 x1 x3 x4 h0
noncomputable def L_J7_fill_d0a16_6 (n0 : Nat) (x1 : Int64) (x3 : Int32) (x4 : Int32) (h0 : Nat → Int64) : Option ((Nat → Int64)) := runw (st_J7_fill_d0a16 n0 x1) (x3, x4, h0)
theorem E_J7_fill_d0a16_6 (n0 : Nat) (x1 : Int64) (x3 : Int32) (x4 : Int32) (h0 : Nat → Int64) : L_J7_fill_d0a16_6 n0 x1 x3 x4 h0 =
    cif (x4 ≤ x3)
      (some h0)
      (cif (vp_in x3 n0)
        (L_J7_fill_d0a16_6 n0 x1 (x3 + (1 : Int32)) x4 (vp_updL h0 x3.toNatClampNeg x1))
        (none)) := by
  show runw (st_J7_fill_d0a16 n0 x1) (x3, x4, h0) = _
  rw [runw_eq]
  show run1 _ (b_J7_fill_d0a16_6 n0 x1 x3 x4 h0) = _
  simp only [b_J7_fill_d0a16_6, run1_cif, run1_sbd, run1_inl, run1_inr]
  try rfl
noncomputable def D_J7_fill_d0a16 (n0 : Nat) (h0 : Nat → Int64) (x1 : Int64) : Option ((Nat → Int64)) :=
  L_J7_fill_d0a16_6 n0 x1 (0 : Int32) (nI n0) h0
abbrev S_X0_add : Type := (Int64 × Int64 × Int32 × (Nat → Int64) × (Nat → Int64))
noncomputable def b_X0_add_9 (f0_n : Int32) (n0_byHead : Nat) (n0_madeOf : Nat) (x1 : Int64) (x3 : Int64) (x5 : Int64) (x7 : Int64) (x9 : Int32) (h0_byHead : Nat → Int64) (h0_madeOf : Nat → Int64) : Option (Int64 × (Nat → Int64) × (Nat → Int64)) ⊕ S_X0_add :=
  cif (f0_n ≤ x9)
    (cif (x5 = (0 : Int64))
      (.inl (some ((0 : Int64), h0_byHead, h0_madeOf)))
      (.inl (some (x7, h0_byHead, h0_madeOf))))
    (cif (((jushr x5 x9) &&& (1 : Int64)) = (0 : Int64))
      (.inr (x5, x7, x9 + (1 : Int32), h0_byHead, h0_madeOf))
      (cif (vp_in x9 n0_byHead)
        (cif ((h0_byHead x9.toNatClampNeg) = (0 : Int64))
          (cif (vp_in x9 n0_byHead)
            (cif (vp_in x9 n0_madeOf)
              (.inl (some ((0 : Int64), vp_updL h0_byHead x9.toNatClampNeg x5, vp_updL h0_madeOf x9.toNatClampNeg x7)))
              (.inl none))
            (.inl none))
          (cif (vp_in x9 n0_byHead)
            (cif (vp_in x9 n0_madeOf)
              (.inr (x5 ^^^ (h0_byHead x9.toNatClampNeg), x7 ^^^ (h0_madeOf x9.toNatClampNeg), x9 + (1 : Int32), h0_byHead, h0_madeOf))
              (.inl none))
            (.inl none)))
        (.inl none)))
noncomputable def st_X0_add (f0_n : Int32) (n0_byHead : Nat) (n0_madeOf : Nat) (x1 : Int64) (x3 : Int64) : S_X0_add → Option (Int64 × (Nat → Int64) × (Nat → Int64)) ⊕ S_X0_add := fun x => match x with
  | (x5, x7, x9, h0_byHead, h0_madeOf) => b_X0_add_9 f0_n n0_byHead n0_madeOf x1 x3 x5 x7 x9 h0_byHead h0_madeOf
noncomputable def L_X0_add_9 (f0_n : Int32) (n0_byHead : Nat) (n0_madeOf : Nat) (x1 : Int64) (x3 : Int64) (x5 : Int64) (x7 : Int64) (x9 : Int32) (h0_byHead : Nat → Int64) (h0_madeOf : Nat → Int64) : Option (Int64 × (Nat → Int64) × (Nat → Int64)) := runw (st_X0_add f0_n n0_byHead n0_madeOf x1 x3) (x5, x7, x9, h0_byHead, h0_madeOf)
theorem E_X0_add_9 (f0_n : Int32) (n0_byHead : Nat) (n0_madeOf : Nat) (x1 : Int64) (x3 : Int64) (x5 : Int64) (x7 : Int64) (x9 : Int32) (h0_byHead : Nat → Int64) (h0_madeOf : Nat → Int64) : L_X0_add_9 f0_n n0_byHead n0_madeOf x1 x3 x5 x7 x9 h0_byHead h0_madeOf =
    cif (f0_n ≤ x9)
      (cif (x5 = (0 : Int64))
        (some ((0 : Int64), h0_byHead, h0_madeOf))
        (some (x7, h0_byHead, h0_madeOf)))
      (cif (((jushr x5 x9) &&& (1 : Int64)) = (0 : Int64))
        (L_X0_add_9 f0_n n0_byHead n0_madeOf x1 x3 x5 x7 (x9 + (1 : Int32)) h0_byHead h0_madeOf)
        (cif (vp_in x9 n0_byHead)
          (cif ((h0_byHead x9.toNatClampNeg) = (0 : Int64))
            (cif (vp_in x9 n0_byHead)
              (cif (vp_in x9 n0_madeOf)
                (some ((0 : Int64), vp_updL h0_byHead x9.toNatClampNeg x5, vp_updL h0_madeOf x9.toNatClampNeg x7))
                (none))
              (none))
            (cif (vp_in x9 n0_byHead)
              (cif (vp_in x9 n0_madeOf)
                (L_X0_add_9 f0_n n0_byHead n0_madeOf x1 x3 (x5 ^^^ (h0_byHead x9.toNatClampNeg)) (x7 ^^^ (h0_madeOf x9.toNatClampNeg)) (x9 + (1 : Int32)) h0_byHead h0_madeOf)
                (none))
              (none)))
          (none))) := by
  show runw (st_X0_add f0_n n0_byHead n0_madeOf x1 x3) (x5, x7, x9, h0_byHead, h0_madeOf) = _
  rw [runw_eq]
  show run1 _ (b_X0_add_9 f0_n n0_byHead n0_madeOf x1 x3 x5 x7 x9 h0_byHead h0_madeOf) = _
  simp only [b_X0_add_9, run1_cif, run1_sbd, run1_inl, run1_inr]
  try rfl
noncomputable def D_X0_add (f0_n : Int32) (n0_byHead : Nat) (h0_byHead : Nat → Int64) (n0_madeOf : Nat) (h0_madeOf : Nat → Int64) (x1 : Int64) (x3 : Int64) : Option (Int64 × (Nat → Int64) × (Nat → Int64)) :=
  L_X0_add_9 f0_n n0_byHead n0_madeOf x1 x3 x1 x3 (0 : Int32) h0_byHead h0_madeOf
abbrev S_X0_leastSum : Type := (Int32 × (Nat → Int64) × (Nat → Int64))
noncomputable def b_X0_leastSum_18 (f0_n : Int32) (n0_byHead : Nat) (n0_madeOf : Nat) (f1_equationCount : Int32) (n1_equations : Nat) (h1_equations : Nat → Int64) (x2 : Int32) (h0_byHead : Nat → Int64) (h0_madeOf : Nat → Int64) : Option (Int64 × (Nat → Int64) × (Nat → Int64)) ⊕ S_X0_leastSum :=
  cif (f1_equationCount ≤ x2)
    (.inl (some ((0 : Int64), h0_byHead, h0_madeOf)))
    (cif (vp_in x2 n1_equations)
      (sbd (D_X0_add f0_n n0_byHead h0_byHead n0_madeOf h0_madeOf (h1_equations x2.toNatClampNeg) (jshl (1 : Int64) x2)) (fun u_8 =>
        cif (u_8.1 = (0 : Int64))
          (.inr (x2 + (1 : Int32), u_8.2.1, u_8.2.2))
          (.inl (some (u_8.1, u_8.2.1, u_8.2.2)))))
      (.inl none))
noncomputable def st_X0_leastSum (f0_n : Int32) (n0_byHead : Nat) (n0_madeOf : Nat) (f1_equationCount : Int32) (n1_equations : Nat) (h1_equations : Nat → Int64) : S_X0_leastSum → Option (Int64 × (Nat → Int64) × (Nat → Int64)) ⊕ S_X0_leastSum := fun x => match x with
  | (x2, h0_byHead, h0_madeOf) => b_X0_leastSum_18 f0_n n0_byHead n0_madeOf f1_equationCount n1_equations h1_equations x2 h0_byHead h0_madeOf
noncomputable def L_X0_leastSum_18 (f0_n : Int32) (n0_byHead : Nat) (n0_madeOf : Nat) (f1_equationCount : Int32) (n1_equations : Nat) (h1_equations : Nat → Int64) (x2 : Int32) (h0_byHead : Nat → Int64) (h0_madeOf : Nat → Int64) : Option (Int64 × (Nat → Int64) × (Nat → Int64)) := runw (st_X0_leastSum f0_n n0_byHead n0_madeOf f1_equationCount n1_equations h1_equations) (x2, h0_byHead, h0_madeOf)
theorem E_X0_leastSum_18 (f0_n : Int32) (n0_byHead : Nat) (n0_madeOf : Nat) (f1_equationCount : Int32) (n1_equations : Nat) (h1_equations : Nat → Int64) (x2 : Int32) (h0_byHead : Nat → Int64) (h0_madeOf : Nat → Int64) : L_X0_leastSum_18 f0_n n0_byHead n0_madeOf f1_equationCount n1_equations h1_equations x2 h0_byHead h0_madeOf =
    cif (f1_equationCount ≤ x2)
      (some ((0 : Int64), h0_byHead, h0_madeOf))
      (cif (vp_in x2 n1_equations)
        (Option.bind (D_X0_add f0_n n0_byHead h0_byHead n0_madeOf h0_madeOf (h1_equations x2.toNatClampNeg) (jshl (1 : Int64) x2)) (fun u_8 =>
          cif (u_8.1 = (0 : Int64))
            (L_X0_leastSum_18 f0_n n0_byHead n0_madeOf f1_equationCount n1_equations h1_equations (x2 + (1 : Int32)) u_8.2.1 u_8.2.2)
            (some (u_8.1, u_8.2.1, u_8.2.2))))
        (none)) := by
  show runw (st_X0_leastSum f0_n n0_byHead n0_madeOf f1_equationCount n1_equations h1_equations) (x2, h0_byHead, h0_madeOf) = _
  rw [runw_eq]
  show run1 _ (b_X0_leastSum_18 f0_n n0_byHead n0_madeOf f1_equationCount n1_equations h1_equations x2 h0_byHead h0_madeOf) = _
  simp only [b_X0_leastSum_18, run1_cif, run1_sbd, run1_inl, run1_inr]
  try rfl
noncomputable def D_X0_leastSum (f0_n : Int32) (n0_byHead : Nat) (h0_byHead : Nat → Int64) (n0_madeOf : Nat) (h0_madeOf : Nat → Int64) (f1_equationCount : Int32) (n1_equations : Nat) (h1_equations : Nat → Int64) : Option (Int64 × (Nat → Int64) × (Nat → Int64)) :=
  Option.bind (D_J7_fill_d0a16 n0_byHead h0_byHead (0 : Int64)) (fun u_1 =>
    Option.bind (D_J7_fill_d0a16 n0_madeOf h0_madeOf (0 : Int64)) (fun u_3 =>
      L_X0_leastSum_18 f0_n n0_byHead n0_madeOf f1_equationCount n1_equations h1_equations (0 : Int32) u_1 u_3))
noncomputable def D_J13_bitCount_95d88 (x0 : Int64) : Option (Int32) :=
  some ((((((((((x0 - ((jushr x0 (1 : Int32)) &&& (6148914691236517205 : Int64))) &&& (3689348814741910323 : Int64)) + ((jushr (x0 - ((jushr x0 (1 : Int32)) &&& (6148914691236517205 : Int64))) (2 : Int32)) &&& (3689348814741910323 : Int64))) + (jushr (((x0 - ((jushr x0 (1 : Int32)) &&& (6148914691236517205 : Int64))) &&& (3689348814741910323 : Int64)) + ((jushr (x0 - ((jushr x0 (1 : Int32)) &&& (6148914691236517205 : Int64))) (2 : Int32)) &&& (3689348814741910323 : Int64))) (4 : Int32))) &&& (1085102592571150095 : Int64)) + (jushr (((((x0 - ((jushr x0 (1 : Int32)) &&& (6148914691236517205 : Int64))) &&& (3689348814741910323 : Int64)) + ((jushr (x0 - ((jushr x0 (1 : Int32)) &&& (6148914691236517205 : Int64))) (2 : Int32)) &&& (3689348814741910323 : Int64))) + (jushr (((x0 - ((jushr x0 (1 : Int32)) &&& (6148914691236517205 : Int64))) &&& (3689348814741910323 : Int64)) + ((jushr (x0 - ((jushr x0 (1 : Int32)) &&& (6148914691236517205 : Int64))) (2 : Int32)) &&& (3689348814741910323 : Int64))) (4 : Int32))) &&& (1085102592571150095 : Int64)) (8 : Int32))) + (jushr ((((((x0 - ((jushr x0 (1 : Int32)) &&& (6148914691236517205 : Int64))) &&& (3689348814741910323 : Int64)) + ((jushr (x0 - ((jushr x0 (1 : Int32)) &&& (6148914691236517205 : Int64))) (2 : Int32)) &&& (3689348814741910323 : Int64))) + (jushr (((x0 - ((jushr x0 (1 : Int32)) &&& (6148914691236517205 : Int64))) &&& (3689348814741910323 : Int64)) + ((jushr (x0 - ((jushr x0 (1 : Int32)) &&& (6148914691236517205 : Int64))) (2 : Int32)) &&& (3689348814741910323 : Int64))) (4 : Int32))) &&& (1085102592571150095 : Int64)) + (jushr (((((x0 - ((jushr x0 (1 : Int32)) &&& (6148914691236517205 : Int64))) &&& (3689348814741910323 : Int64)) + ((jushr (x0 - ((jushr x0 (1 : Int32)) &&& (6148914691236517205 : Int64))) (2 : Int32)) &&& (3689348814741910323 : Int64))) + (jushr (((x0 - ((jushr x0 (1 : Int32)) &&& (6148914691236517205 : Int64))) &&& (3689348814741910323 : Int64)) + ((jushr (x0 - ((jushr x0 (1 : Int32)) &&& (6148914691236517205 : Int64))) (2 : Int32)) &&& (3689348814741910323 : Int64))) (4 : Int32))) &&& (1085102592571150095 : Int64)) (8 : Int32))) (16 : Int32))) + (jushr (((((((x0 - ((jushr x0 (1 : Int32)) &&& (6148914691236517205 : Int64))) &&& (3689348814741910323 : Int64)) + ((jushr (x0 - ((jushr x0 (1 : Int32)) &&& (6148914691236517205 : Int64))) (2 : Int32)) &&& (3689348814741910323 : Int64))) + (jushr (((x0 - ((jushr x0 (1 : Int32)) &&& (6148914691236517205 : Int64))) &&& (3689348814741910323 : Int64)) + ((jushr (x0 - ((jushr x0 (1 : Int32)) &&& (6148914691236517205 : Int64))) (2 : Int32)) &&& (3689348814741910323 : Int64))) (4 : Int32))) &&& (1085102592571150095 : Int64)) + (jushr (((((x0 - ((jushr x0 (1 : Int32)) &&& (6148914691236517205 : Int64))) &&& (3689348814741910323 : Int64)) + ((jushr (x0 - ((jushr x0 (1 : Int32)) &&& (6148914691236517205 : Int64))) (2 : Int32)) &&& (3689348814741910323 : Int64))) + (jushr (((x0 - ((jushr x0 (1 : Int32)) &&& (6148914691236517205 : Int64))) &&& (3689348814741910323 : Int64)) + ((jushr (x0 - ((jushr x0 (1 : Int32)) &&& (6148914691236517205 : Int64))) (2 : Int32)) &&& (3689348814741910323 : Int64))) (4 : Int32))) &&& (1085102592571150095 : Int64)) (8 : Int32))) + (jushr ((((((x0 - ((jushr x0 (1 : Int32)) &&& (6148914691236517205 : Int64))) &&& (3689348814741910323 : Int64)) + ((jushr (x0 - ((jushr x0 (1 : Int32)) &&& (6148914691236517205 : Int64))) (2 : Int32)) &&& (3689348814741910323 : Int64))) + (jushr (((x0 - ((jushr x0 (1 : Int32)) &&& (6148914691236517205 : Int64))) &&& (3689348814741910323 : Int64)) + ((jushr (x0 - ((jushr x0 (1 : Int32)) &&& (6148914691236517205 : Int64))) (2 : Int32)) &&& (3689348814741910323 : Int64))) (4 : Int32))) &&& (1085102592571150095 : Int64)) + (jushr (((((x0 - ((jushr x0 (1 : Int32)) &&& (6148914691236517205 : Int64))) &&& (3689348814741910323 : Int64)) + ((jushr (x0 - ((jushr x0 (1 : Int32)) &&& (6148914691236517205 : Int64))) (2 : Int32)) &&& (3689348814741910323 : Int64))) + (jushr (((x0 - ((jushr x0 (1 : Int32)) &&& (6148914691236517205 : Int64))) &&& (3689348814741910323 : Int64)) + ((jushr (x0 - ((jushr x0 (1 : Int32)) &&& (6148914691236517205 : Int64))) (2 : Int32)) &&& (3689348814741910323 : Int64))) (4 : Int32))) &&& (1085102592571150095 : Int64)) (8 : Int32))) (16 : Int32))) (32 : Int32))).toInt32) &&& (127 : Int32))
abbrev S_X1_leastSetAbove : Type := (Int64 × Int32)
noncomputable def b_X1_leastSetAbove_5 (f0_clauseCount : Int32) (n0_yes : Nat) (h0_yes : Nat → Int64) (n0_no : Nat) (h0_no : Nat → Int64) (x1 : Int64) (x3 : Int64) (x5 : Int32) : Option (Int64) ⊕ S_X1_leastSetAbove :=
  cif (f0_clauseCount ≤ x5)
    (.inl (some x3))
    (cif (vp_in x5 n0_yes)
      (cif (vp_in x5 n0_no)
        (sbd (D_J13_bitCount_95d88 ((h0_yes x5.toNatClampNeg) ||| (h0_no x5.toNatClampNeg))) (fun u_5 =>
          cif (u_5 < (2 : Int32))
            (.inr (x3, x5 + (1 : Int32)))
            (cif ((4 : Int32) < u_5)
              (.inr (x3, x5 + (1 : Int32)))
              (cif (((h0_yes x5.toNatClampNeg) ||| (h0_no x5.toNatClampNeg)) ≤ x1)
                (.inr (x3, x5 + (1 : Int32)))
                (cif (x3 = (0 : Int64))
                  (.inr ((h0_yes x5.toNatClampNeg) ||| (h0_no x5.toNatClampNeg), x5 + (1 : Int32)))
                  (cif (x3 ≤ ((h0_yes x5.toNatClampNeg) ||| (h0_no x5.toNatClampNeg)))
                    (.inr (x3, x5 + (1 : Int32)))
                    (.inr ((h0_yes x5.toNatClampNeg) ||| (h0_no x5.toNatClampNeg), x5 + (1 : Int32)))))))))
        (.inl none))
      (.inl none))
noncomputable def st_X1_leastSetAbove (f0_clauseCount : Int32) (n0_yes : Nat) (h0_yes : Nat → Int64) (n0_no : Nat) (h0_no : Nat → Int64) (x1 : Int64) : S_X1_leastSetAbove → Option (Int64) ⊕ S_X1_leastSetAbove := fun x => match x with
  | (x3, x5) => b_X1_leastSetAbove_5 f0_clauseCount n0_yes h0_yes n0_no h0_no x1 x3 x5
noncomputable def L_X1_leastSetAbove_5 (f0_clauseCount : Int32) (n0_yes : Nat) (h0_yes : Nat → Int64) (n0_no : Nat) (h0_no : Nat → Int64) (x1 : Int64) (x3 : Int64) (x5 : Int32) : Option (Int64) := runw (st_X1_leastSetAbove f0_clauseCount n0_yes h0_yes n0_no h0_no x1) (x3, x5)
theorem E_X1_leastSetAbove_5 (f0_clauseCount : Int32) (n0_yes : Nat) (h0_yes : Nat → Int64) (n0_no : Nat) (h0_no : Nat → Int64) (x1 : Int64) (x3 : Int64) (x5 : Int32) : L_X1_leastSetAbove_5 f0_clauseCount n0_yes h0_yes n0_no h0_no x1 x3 x5 =
    cif (f0_clauseCount ≤ x5)
      (some x3)
      (cif (vp_in x5 n0_yes)
        (cif (vp_in x5 n0_no)
          (Option.bind (D_J13_bitCount_95d88 ((h0_yes x5.toNatClampNeg) ||| (h0_no x5.toNatClampNeg))) (fun u_5 =>
            cif (u_5 < (2 : Int32))
              (L_X1_leastSetAbove_5 f0_clauseCount n0_yes h0_yes n0_no h0_no x1 x3 (x5 + (1 : Int32)))
              (cif ((4 : Int32) < u_5)
                (L_X1_leastSetAbove_5 f0_clauseCount n0_yes h0_yes n0_no h0_no x1 x3 (x5 + (1 : Int32)))
                (cif (((h0_yes x5.toNatClampNeg) ||| (h0_no x5.toNatClampNeg)) ≤ x1)
                  (L_X1_leastSetAbove_5 f0_clauseCount n0_yes h0_yes n0_no h0_no x1 x3 (x5 + (1 : Int32)))
                  (cif (x3 = (0 : Int64))
                    (L_X1_leastSetAbove_5 f0_clauseCount n0_yes h0_yes n0_no h0_no x1 ((h0_yes x5.toNatClampNeg) ||| (h0_no x5.toNatClampNeg)) (x5 + (1 : Int32)))
                    (cif (x3 ≤ ((h0_yes x5.toNatClampNeg) ||| (h0_no x5.toNatClampNeg)))
                      (L_X1_leastSetAbove_5 f0_clauseCount n0_yes h0_yes n0_no h0_no x1 x3 (x5 + (1 : Int32)))
                      (L_X1_leastSetAbove_5 f0_clauseCount n0_yes h0_yes n0_no h0_no x1 ((h0_yes x5.toNatClampNeg) ||| (h0_no x5.toNatClampNeg)) (x5 + (1 : Int32)))))))))
          (none))
        (none)) := by
  show runw (st_X1_leastSetAbove f0_clauseCount n0_yes h0_yes n0_no h0_no x1) (x3, x5) = _
  rw [runw_eq]
  show run1 _ (b_X1_leastSetAbove_5 f0_clauseCount n0_yes h0_yes n0_no h0_no x1 x3 x5) = _
  simp only [b_X1_leastSetAbove_5, run1_cif, run1_sbd, run1_inl, run1_inr]
  try rfl
noncomputable def D_X1_leastSetAbove (f0_clauseCount : Int32) (n0_yes : Nat) (h0_yes : Nat → Int64) (n0_no : Nat) (h0_no : Nat → Int64) (x1 : Int64) : Option (Int64) :=
  L_X1_leastSetAbove_5 f0_clauseCount n0_yes h0_yes n0_no h0_no x1 (0 : Int64) (0 : Int32)
abbrev S_X1_pressed : Type := (Int32 × Int64 × Int32)
noncomputable def b_X1_pressed_9 (x0 : Int64) (x2 : Int64) (x4 : Int32) (x5 : Int64) (x7 : Int32) : Option (Int32) ⊕ S_X1_pressed :=
  cif ((4 : Int32) ≤ x7)
    (.inl (some x4))
    (cif ((x0 &&& (x5 &&& (-x5))) = (0 : Int64))
      (.inr (x4, x5 ^^^ (x5 &&& (-x5)), x7 + (1 : Int32)))
      (.inr (x4 ||| ((1 : Int32) <<< (x7 &&& 31)), x5 ^^^ (x5 &&& (-x5)), x7 + (1 : Int32))))
noncomputable def st_X1_pressed (x0 : Int64) (x2 : Int64) : S_X1_pressed → Option (Int32) ⊕ S_X1_pressed := fun x => match x with
  | (x4, x5, x7) => b_X1_pressed_9 x0 x2 x4 x5 x7
noncomputable def L_X1_pressed_9 (x0 : Int64) (x2 : Int64) (x4 : Int32) (x5 : Int64) (x7 : Int32) : Option (Int32) := runw (st_X1_pressed x0 x2) (x4, x5, x7)
theorem E_X1_pressed_9 (x0 : Int64) (x2 : Int64) (x4 : Int32) (x5 : Int64) (x7 : Int32) : L_X1_pressed_9 x0 x2 x4 x5 x7 =
    cif ((4 : Int32) ≤ x7)
      (some x4)
      (cif ((x0 &&& (x5 &&& (-x5))) = (0 : Int64))
        (L_X1_pressed_9 x0 x2 x4 (x5 ^^^ (x5 &&& (-x5))) (x7 + (1 : Int32)))
        (L_X1_pressed_9 x0 x2 (x4 ||| ((1 : Int32) <<< (x7 &&& 31))) (x5 ^^^ (x5 &&& (-x5))) (x7 + (1 : Int32)))) := by
  show runw (st_X1_pressed x0 x2) (x4, x5, x7) = _
  rw [runw_eq]
  show run1 _ (b_X1_pressed_9 x0 x2 x4 x5 x7) = _
  simp only [b_X1_pressed_9, run1_cif, run1_sbd, run1_inl, run1_inr]
  try rfl
noncomputable def D_X1_pressed (x0 : Int64) (x2 : Int64) : Option (Int32) :=
  L_X1_pressed_9 x0 x2 (0 : Int32) x2 (0 : Int32)
noncomputable def D_X1_add (f0_size : Int32) (n0_found : Nat) (h0_found : Nat → Int64) (x1 : Int64) : Option (Int32 × (Nat → Int64)) :=
  cif ((60 : Int32) ≤ f0_size)
    (some (f0_size, h0_found))
    (cif (vp_in f0_size n0_found)
      (some (f0_size + (1 : Int32), vp_updL h0_found f0_size.toNatClampNeg x1))
      (none))
abbrev S_X1_addGatesOf : Type := (Int32 × Int32 × Int32 × (Nat → Int64))
noncomputable def b_X1_addGatesOf_6 (n0_found : Nat) (f1_clauseCount : Int32) (n1_yes : Nat) (h1_yes : Nat → Int64) (n1_no : Nat) (h1_no : Nat → Int64) (x2 : Int64) (x4 : Int32) (x5 : Int32) (f0_size : Int32) (h0_found : Nat → Int64) : Option (Int32 × (Nat → Int64)) ⊕ S_X1_addGatesOf :=
  cif (f1_clauseCount ≤ x5)
    (sbd (D_J13_bitCount_95d88 x2) (fun u_3 =>
      cif ((((x4 ^^^ (-1 : Int32)) &&& (((1 : Int32) <<< (((1 : Int32) <<< (u_3 &&& 31)) &&& 31)) - (1 : Int32))) &&& (-38506 : Int32)) = 0)
        (sbd (D_X1_add f0_size n0_found h0_found x2) (fun u_11 =>
          cif ((((x4 ^^^ (-1 : Int32)) &&& (((1 : Int32) <<< (((1 : Int32) <<< (u_3 &&& 31)) &&& 31)) - (1 : Int32))) &&& (38505 : Int32)) = 0)
            (sbd (D_X1_add u_11.1 n0_found u_11.2 (x2 ||| (4611686018427387904 : Int64))) (fun u_15 =>
              .inl (some (u_15.1, u_15.2))))
            (.inl (some (u_11.1, u_11.2)))))
        (cif ((((x4 ^^^ (-1 : Int32)) &&& (((1 : Int32) <<< (((1 : Int32) <<< (u_3 &&& 31)) &&& 31)) - (1 : Int32))) &&& (38505 : Int32)) = 0)
          (sbd (D_X1_add f0_size n0_found h0_found (x2 ||| (4611686018427387904 : Int64))) (fun u_9 =>
            .inl (some (u_9.1, u_9.2))))
          (.inl (some (f0_size, h0_found))))))
    (cif (vp_in x5 n1_yes)
      (cif (vp_in x5 n1_no)
        (cif (((h1_yes x5.toNatClampNeg) ||| (h1_no x5.toNatClampNeg)) = x2)
          (cif (vp_in x5 n1_no)
            (sbd (D_X1_pressed (h1_no x5.toNatClampNeg) x2) (fun u_22 =>
              .inr (x4 ||| ((1 : Int32) <<< (u_22 &&& 31)), x5 + (1 : Int32), f0_size, h0_found)))
            (.inl none))
          (.inr (x4, x5 + (1 : Int32), f0_size, h0_found)))
        (.inl none))
      (.inl none))
noncomputable def st_X1_addGatesOf (n0_found : Nat) (f1_clauseCount : Int32) (n1_yes : Nat) (h1_yes : Nat → Int64) (n1_no : Nat) (h1_no : Nat → Int64) (x2 : Int64) : S_X1_addGatesOf → Option (Int32 × (Nat → Int64)) ⊕ S_X1_addGatesOf := fun x => match x with
  | (x4, x5, f0_size, h0_found) => b_X1_addGatesOf_6 n0_found f1_clauseCount n1_yes h1_yes n1_no h1_no x2 x4 x5 f0_size h0_found
noncomputable def L_X1_addGatesOf_6 (n0_found : Nat) (f1_clauseCount : Int32) (n1_yes : Nat) (h1_yes : Nat → Int64) (n1_no : Nat) (h1_no : Nat → Int64) (x2 : Int64) (x4 : Int32) (x5 : Int32) (f0_size : Int32) (h0_found : Nat → Int64) : Option (Int32 × (Nat → Int64)) := runw (st_X1_addGatesOf n0_found f1_clauseCount n1_yes h1_yes n1_no h1_no x2) (x4, x5, f0_size, h0_found)
theorem E_X1_addGatesOf_6 (n0_found : Nat) (f1_clauseCount : Int32) (n1_yes : Nat) (h1_yes : Nat → Int64) (n1_no : Nat) (h1_no : Nat → Int64) (x2 : Int64) (x4 : Int32) (x5 : Int32) (f0_size : Int32) (h0_found : Nat → Int64) : L_X1_addGatesOf_6 n0_found f1_clauseCount n1_yes h1_yes n1_no h1_no x2 x4 x5 f0_size h0_found =
    cif (f1_clauseCount ≤ x5)
      (Option.bind (D_J13_bitCount_95d88 x2) (fun u_3 =>
        cif ((((x4 ^^^ (-1 : Int32)) &&& (((1 : Int32) <<< (((1 : Int32) <<< (u_3 &&& 31)) &&& 31)) - (1 : Int32))) &&& (-38506 : Int32)) = 0)
          (Option.bind (D_X1_add f0_size n0_found h0_found x2) (fun u_11 =>
            cif ((((x4 ^^^ (-1 : Int32)) &&& (((1 : Int32) <<< (((1 : Int32) <<< (u_3 &&& 31)) &&& 31)) - (1 : Int32))) &&& (38505 : Int32)) = 0)
              (Option.bind (D_X1_add u_11.1 n0_found u_11.2 (x2 ||| (4611686018427387904 : Int64))) (fun u_15 =>
                some (u_15.1, u_15.2)))
              (some (u_11.1, u_11.2))))
          (cif ((((x4 ^^^ (-1 : Int32)) &&& (((1 : Int32) <<< (((1 : Int32) <<< (u_3 &&& 31)) &&& 31)) - (1 : Int32))) &&& (38505 : Int32)) = 0)
            (Option.bind (D_X1_add f0_size n0_found h0_found (x2 ||| (4611686018427387904 : Int64))) (fun u_9 =>
              some (u_9.1, u_9.2)))
            (some (f0_size, h0_found)))))
      (cif (vp_in x5 n1_yes)
        (cif (vp_in x5 n1_no)
          (cif (((h1_yes x5.toNatClampNeg) ||| (h1_no x5.toNatClampNeg)) = x2)
            (cif (vp_in x5 n1_no)
              (Option.bind (D_X1_pressed (h1_no x5.toNatClampNeg) x2) (fun u_22 =>
                L_X1_addGatesOf_6 n0_found f1_clauseCount n1_yes h1_yes n1_no h1_no x2 (x4 ||| ((1 : Int32) <<< (u_22 &&& 31))) (x5 + (1 : Int32)) f0_size h0_found))
              (none))
            (L_X1_addGatesOf_6 n0_found f1_clauseCount n1_yes h1_yes n1_no h1_no x2 x4 (x5 + (1 : Int32)) f0_size h0_found))
          (none))
        (none)) := by
  show runw (st_X1_addGatesOf n0_found f1_clauseCount n1_yes h1_yes n1_no h1_no x2) (x4, x5, f0_size, h0_found) = _
  rw [runw_eq]
  show run1 _ (b_X1_addGatesOf_6 n0_found f1_clauseCount n1_yes h1_yes n1_no h1_no x2 x4 x5 f0_size h0_found) = _
  simp only [b_X1_addGatesOf_6, run1_cif, run1_sbd, run1_inl, run1_inr]
  try rfl
noncomputable def D_X1_addGatesOf (f0_size : Int32) (n0_found : Nat) (h0_found : Nat → Int64) (f1_clauseCount : Int32) (n1_yes : Nat) (h1_yes : Nat → Int64) (n1_no : Nat) (h1_no : Nat → Int64) (x2 : Int64) : Option (Int32 × (Nat → Int64)) :=
  L_X1_addGatesOf_6 n0_found f1_clauseCount n1_yes h1_yes n1_no h1_no x2 (0 : Int32) (0 : Int32) f0_size h0_found
abbrev S_X1_build : Type := (Int64 × Int32 × Int32 × (Nat → Int64))
noncomputable def b_X1_build_10 (n0_found : Nat) (f1_clauseCount : Int32) (n1_yes : Nat) (h1_yes : Nat → Int64) (n1_no : Nat) (h1_no : Nat → Int64) (x2 : Int64) (x4 : Int32) (f0_size : Int32) (h0_found : Nat → Int64) : Option (Int32 × (Nat → Int64)) ⊕ S_X1_build :=
  cif (f1_clauseCount ≤ x4)
    (.inl (some (f0_size, h0_found)))
    (sbd (D_X1_leastSetAbove f1_clauseCount n1_yes h1_yes n1_no h1_no x2) (fun u_3 =>
      cif (u_3 = (0 : Int64))
        (.inl (some (f0_size, h0_found)))
        (sbd (D_X1_addGatesOf f0_size n0_found h0_found f1_clauseCount n1_yes h1_yes n1_no h1_no u_3) (fun u_7 =>
          .inr (u_3, x4 + (1 : Int32), u_7.1, u_7.2)))))
noncomputable def st_X1_build (n0_found : Nat) (f1_clauseCount : Int32) (n1_yes : Nat) (h1_yes : Nat → Int64) (n1_no : Nat) (h1_no : Nat → Int64) : S_X1_build → Option (Int32 × (Nat → Int64)) ⊕ S_X1_build := fun x => match x with
  | (x2, x4, f0_size, h0_found) => b_X1_build_10 n0_found f1_clauseCount n1_yes h1_yes n1_no h1_no x2 x4 f0_size h0_found
noncomputable def L_X1_build_10 (n0_found : Nat) (f1_clauseCount : Int32) (n1_yes : Nat) (h1_yes : Nat → Int64) (n1_no : Nat) (h1_no : Nat → Int64) (x2 : Int64) (x4 : Int32) (f0_size : Int32) (h0_found : Nat → Int64) : Option (Int32 × (Nat → Int64)) := runw (st_X1_build n0_found f1_clauseCount n1_yes h1_yes n1_no h1_no) (x2, x4, f0_size, h0_found)
theorem E_X1_build_10 (n0_found : Nat) (f1_clauseCount : Int32) (n1_yes : Nat) (h1_yes : Nat → Int64) (n1_no : Nat) (h1_no : Nat → Int64) (x2 : Int64) (x4 : Int32) (f0_size : Int32) (h0_found : Nat → Int64) : L_X1_build_10 n0_found f1_clauseCount n1_yes h1_yes n1_no h1_no x2 x4 f0_size h0_found =
    cif (f1_clauseCount ≤ x4)
      (some (f0_size, h0_found))
      (Option.bind (D_X1_leastSetAbove f1_clauseCount n1_yes h1_yes n1_no h1_no x2) (fun u_3 =>
        cif (u_3 = (0 : Int64))
          (some (f0_size, h0_found))
          (Option.bind (D_X1_addGatesOf f0_size n0_found h0_found f1_clauseCount n1_yes h1_yes n1_no h1_no u_3) (fun u_7 =>
            L_X1_build_10 n0_found f1_clauseCount n1_yes h1_yes n1_no h1_no u_3 (x4 + (1 : Int32)) u_7.1 u_7.2)))) := by
  show runw (st_X1_build n0_found f1_clauseCount n1_yes h1_yes n1_no h1_no) (x2, x4, f0_size, h0_found) = _
  rw [runw_eq]
  show run1 _ (b_X1_build_10 n0_found f1_clauseCount n1_yes h1_yes n1_no h1_no x2 x4 f0_size h0_found) = _
  simp only [b_X1_build_10, run1_cif, run1_sbd, run1_inl, run1_inr]
  try rfl
noncomputable def D_X1_build (f0_size : Int32) (n0_found : Nat) (h0_found : Nat → Int64) (f1_clauseCount : Int32) (n1_yes : Nat) (h1_yes : Nat → Int64) (n1_no : Nat) (h1_no : Nat → Int64) : Option (Int32 × (Nat → Int64)) :=
  L_X1_build_10 n0_found f1_clauseCount n1_yes h1_yes n1_no h1_no (0 : Int64) (0 : Int32) (0 : Int32) h0_found
abbrev S_X2_reduced : Type := (Int64 × Int32)
noncomputable def b_X2_reduced_5 (f0_n : Int32) (n0_byHead : Nat) (h0_byHead : Nat → Int64) (x1 : Int64) (x3 : Int64) (x5 : Int32) : Option (Int64) ⊕ S_X2_reduced :=
  cif (f0_n ≤ x5)
    (.inl (some x3))
    (cif (((jushr x1 x5) &&& (1 : Int64)) = (0 : Int64))
      (.inr (x3, x5 + (1 : Int32)))
      (cif (vp_in x5 n0_byHead)
        (.inr (x3 ^^^ (h0_byHead x5.toNatClampNeg), x5 + (1 : Int32)))
        (.inl none)))
noncomputable def st_X2_reduced (f0_n : Int32) (n0_byHead : Nat) (h0_byHead : Nat → Int64) (x1 : Int64) : S_X2_reduced → Option (Int64) ⊕ S_X2_reduced := fun x => match x with
  | (x3, x5) => b_X2_reduced_5 f0_n n0_byHead h0_byHead x1 x3 x5
noncomputable def L_X2_reduced_5 (f0_n : Int32) (n0_byHead : Nat) (h0_byHead : Nat → Int64) (x1 : Int64) (x3 : Int64) (x5 : Int32) : Option (Int64) := runw (st_X2_reduced f0_n n0_byHead h0_byHead x1) (x3, x5)
theorem E_X2_reduced_5 (f0_n : Int32) (n0_byHead : Nat) (h0_byHead : Nat → Int64) (x1 : Int64) (x3 : Int64) (x5 : Int32) : L_X2_reduced_5 f0_n n0_byHead h0_byHead x1 x3 x5 =
    cif (f0_n ≤ x5)
      (some x3)
      (cif (((jushr x1 x5) &&& (1 : Int64)) = (0 : Int64))
        (L_X2_reduced_5 f0_n n0_byHead h0_byHead x1 x3 (x5 + (1 : Int32)))
        (cif (vp_in x5 n0_byHead)
          (L_X2_reduced_5 f0_n n0_byHead h0_byHead x1 (x3 ^^^ (h0_byHead x5.toNatClampNeg)) (x5 + (1 : Int32)))
          (none))) := by
  show runw (st_X2_reduced f0_n n0_byHead h0_byHead x1) (x3, x5) = _
  rw [runw_eq]
  show run1 _ (b_X2_reduced_5 f0_n n0_byHead h0_byHead x1 x3 x5) = _
  simp only [b_X2_reduced_5, run1_cif, run1_sbd, run1_inl, run1_inr]
  try rfl
noncomputable def D_X2_reduced (f0_n : Int32) (n0_byHead : Nat) (h0_byHead : Nat → Int64) (x1 : Int64) : Option (Int64) :=
  L_X2_reduced_5 f0_n n0_byHead h0_byHead x1 x1 (0 : Int32)
abbrev S_X2_enter : Type := (Int32 × Int32 × Bool × (Nat → Int64))
noncomputable def b_X2_enter_52 (f0_n : Int32) (n0_byHead : Nat) (x1 : Int64) (x5 : Int32) (x6 : Int32) (f0_impossible : Bool) (h0_byHead : Nat → Int64) : Option (Bool × (Nat → Int64)) ⊕ S_X2_enter :=
  cif (x5 ≤ x6)
    (cif (vp_in x5 n0_byHead)
      (.inl (some (f0_impossible, vp_updL h0_byHead x5.toNatClampNeg x1)))
      (.inl none))
    (cif (vp_in x6 n0_byHead)
      (cif (((jushr (h0_byHead x6.toNatClampNeg) x5) &&& (1 : Int64)) = (0 : Int64))
        (.inr (x5, x6 + (1 : Int32), f0_impossible, h0_byHead))
        (cif (vp_in x6 n0_byHead)
          (cif (vp_in x6 n0_byHead)
            (.inr (x5, x6 + (1 : Int32), f0_impossible, vp_updL h0_byHead x6.toNatClampNeg ((h0_byHead x6.toNatClampNeg) ^^^ x1)))
            (.inl none))
          (.inl none)))
      (.inl none))
noncomputable def st_X2_enter (f0_n : Int32) (n0_byHead : Nat) (x1 : Int64) : S_X2_enter → Option (Bool × (Nat → Int64)) ⊕ S_X2_enter := fun x => match x with
  | (x5, x6, f0_impossible, h0_byHead) => b_X2_enter_52 f0_n n0_byHead x1 x5 x6 f0_impossible h0_byHead
noncomputable def L_X2_enter_52 (f0_n : Int32) (n0_byHead : Nat) (x1 : Int64) (x5 : Int32) (x6 : Int32) (f0_impossible : Bool) (h0_byHead : Nat → Int64) : Option (Bool × (Nat → Int64)) := runw (st_X2_enter f0_n n0_byHead x1) (x5, x6, f0_impossible, h0_byHead)
theorem E_X2_enter_52 (f0_n : Int32) (n0_byHead : Nat) (x1 : Int64) (x5 : Int32) (x6 : Int32) (f0_impossible : Bool) (h0_byHead : Nat → Int64) : L_X2_enter_52 f0_n n0_byHead x1 x5 x6 f0_impossible h0_byHead =
    cif (x5 ≤ x6)
      (cif (vp_in x5 n0_byHead)
        (some (f0_impossible, vp_updL h0_byHead x5.toNatClampNeg x1))
        (none))
      (cif (vp_in x6 n0_byHead)
        (cif (((jushr (h0_byHead x6.toNatClampNeg) x5) &&& (1 : Int64)) = (0 : Int64))
          (L_X2_enter_52 f0_n n0_byHead x1 x5 (x6 + (1 : Int32)) f0_impossible h0_byHead)
          (cif (vp_in x6 n0_byHead)
            (cif (vp_in x6 n0_byHead)
              (L_X2_enter_52 f0_n n0_byHead x1 x5 (x6 + (1 : Int32)) f0_impossible (vp_updL h0_byHead x6.toNatClampNeg ((h0_byHead x6.toNatClampNeg) ^^^ x1)))
              (none))
            (none)))
        (none)) := by
  show runw (st_X2_enter f0_n n0_byHead x1) (x5, x6, f0_impossible, h0_byHead) = _
  rw [runw_eq]
  show run1 _ (b_X2_enter_52 f0_n n0_byHead x1 x5 x6 f0_impossible h0_byHead) = _
  simp only [b_X2_enter_52, run1_cif, run1_sbd, run1_inl, run1_inr]
  try rfl
noncomputable def D_X2_enter (f0_n : Int32) (f0_impossible : Bool) (n0_byHead : Nat) (h0_byHead : Nat → Int64) (x1 : Int64) : Option (Bool × (Nat → Int64)) :=
  Option.bind (D_J13_bitCount_95d88 (((x1 &&& (-4611686018427387905 : Int64)) &&& (-(x1 &&& (-4611686018427387905 : Int64)))) - (1 : Int64))) (fun u_1 =>
    cif (u_1 < f0_n)
      (L_X2_enter_52 f0_n n0_byHead x1 u_1 (0 : Int32) f0_impossible h0_byHead)
      (cif (f0_impossible = true)
        (some (true, h0_byHead))
        (cif (x1 = (0 : Int64))
          (some (false, h0_byHead))
          (some (true, h0_byHead)))))
abbrev S_X2_build : Type := (Int32 × Bool × (Nat → Int64))
noncomputable def b_X2_build_15 (f0_n : Int32) (n0_byHead : Nat) (f1_equationCount : Int32) (n1_equations : Nat) (h1_equations : Nat → Int64) (x2 : Int32) (f0_impossible : Bool) (h0_byHead : Nat → Int64) : Option (Bool × (Nat → Int64)) ⊕ S_X2_build :=
  cif (f1_equationCount ≤ x2)
    (.inl (some (f0_impossible, h0_byHead)))
    (cif (vp_in x2 n1_equations)
      (sbd (D_X2_reduced f0_n n0_byHead h0_byHead (h1_equations x2.toNatClampNeg)) (fun u_6 =>
        sbd (D_X2_enter f0_n f0_impossible n0_byHead h0_byHead u_6) (fun u_8 =>
          .inr (x2 + (1 : Int32), u_8.1, u_8.2))))
      (.inl none))
noncomputable def st_X2_build (f0_n : Int32) (n0_byHead : Nat) (f1_equationCount : Int32) (n1_equations : Nat) (h1_equations : Nat → Int64) : S_X2_build → Option (Bool × (Nat → Int64)) ⊕ S_X2_build := fun x => match x with
  | (x2, f0_impossible, h0_byHead) => b_X2_build_15 f0_n n0_byHead f1_equationCount n1_equations h1_equations x2 f0_impossible h0_byHead
noncomputable def L_X2_build_15 (f0_n : Int32) (n0_byHead : Nat) (f1_equationCount : Int32) (n1_equations : Nat) (h1_equations : Nat → Int64) (x2 : Int32) (f0_impossible : Bool) (h0_byHead : Nat → Int64) : Option (Bool × (Nat → Int64)) := runw (st_X2_build f0_n n0_byHead f1_equationCount n1_equations h1_equations) (x2, f0_impossible, h0_byHead)
theorem E_X2_build_15 (f0_n : Int32) (n0_byHead : Nat) (f1_equationCount : Int32) (n1_equations : Nat) (h1_equations : Nat → Int64) (x2 : Int32) (f0_impossible : Bool) (h0_byHead : Nat → Int64) : L_X2_build_15 f0_n n0_byHead f1_equationCount n1_equations h1_equations x2 f0_impossible h0_byHead =
    cif (f1_equationCount ≤ x2)
      (some (f0_impossible, h0_byHead))
      (cif (vp_in x2 n1_equations)
        (Option.bind (D_X2_reduced f0_n n0_byHead h0_byHead (h1_equations x2.toNatClampNeg)) (fun u_6 =>
          Option.bind (D_X2_enter f0_n f0_impossible n0_byHead h0_byHead u_6) (fun u_8 =>
            L_X2_build_15 f0_n n0_byHead f1_equationCount n1_equations h1_equations (x2 + (1 : Int32)) u_8.1 u_8.2)))
        (none)) := by
  show runw (st_X2_build f0_n n0_byHead f1_equationCount n1_equations h1_equations) (x2, f0_impossible, h0_byHead) = _
  rw [runw_eq]
  show run1 _ (b_X2_build_15 f0_n n0_byHead f1_equationCount n1_equations h1_equations x2 f0_impossible h0_byHead) = _
  simp only [b_X2_build_15, run1_cif, run1_sbd, run1_inl, run1_inr]
  try rfl
noncomputable def D_X2_build (f0_n : Int32) (f0_impossible : Bool) (n0_byHead : Nat) (h0_byHead : Nat → Int64) (f1_equationCount : Int32) (n1_equations : Nat) (h1_equations : Nat → Int64) : Option (Bool × (Nat → Int64)) :=
  Option.bind (D_J7_fill_d0a16 n0_byHead h0_byHead (0 : Int64)) (fun u_1 =>
    L_X2_build_15 f0_n n0_byHead f1_equationCount n1_equations h1_equations (0 : Int32) false u_1)
noncomputable def D_X2_copyFrom (f0_n : Int32) (f0_impossible : Bool) (n0_byHead : Nat) (h0_byHead : Nat → Int64) (f1_n : Int32) (f1_impossible : Bool) (n1_byHead : Nat) (h1_byHead : Nat → Int64) : Option (Bool × (Nat → Int64)) :=
  cif (¬ (0 : Int32) < 0 ∧ ¬ (0 : Int32) < 0 ∧ ¬ (jmin f0_n f1_n) < 0 ∧ (0 : Int32).toNatClampNeg + (jmin f0_n f1_n).toNatClampNeg ≤ n1_byHead ∧ (0 : Int32).toNatClampNeg + (jmin f0_n f1_n).toNatClampNeg ≤ n0_byHead)
    (some (f1_impossible, va_cpy h1_byHead h0_byHead (0 : Int32).toNatClampNeg (0 : Int32).toNatClampNeg (jmin f0_n f1_n).toNatClampNeg))
    (none)
abbrev S_X2_size : Type := (Int32 × Int32)
noncomputable def b_X2_size_4 (f0_n : Int32) (n0_byHead : Nat) (h0_byHead : Nat → Int64) (x1 : Int32) (x2 : Int32) : Option (Int32) ⊕ S_X2_size :=
  cif (f0_n ≤ x2)
    (.inl (some x1))
    (cif (vp_in x2 n0_byHead)
      (cif ((h0_byHead x2.toNatClampNeg) = (0 : Int64))
        (.inr (x1, x2 + (1 : Int32)))
        (.inr (x1 + (1 : Int32), x2 + (1 : Int32))))
      (.inl none))
noncomputable def st_X2_size (f0_n : Int32) (n0_byHead : Nat) (h0_byHead : Nat → Int64) : S_X2_size → Option (Int32) ⊕ S_X2_size := fun x => match x with
  | (x1, x2) => b_X2_size_4 f0_n n0_byHead h0_byHead x1 x2
noncomputable def L_X2_size_4 (f0_n : Int32) (n0_byHead : Nat) (h0_byHead : Nat → Int64) (x1 : Int32) (x2 : Int32) : Option (Int32) := runw (st_X2_size f0_n n0_byHead h0_byHead) (x1, x2)
theorem E_X2_size_4 (f0_n : Int32) (n0_byHead : Nat) (h0_byHead : Nat → Int64) (x1 : Int32) (x2 : Int32) : L_X2_size_4 f0_n n0_byHead h0_byHead x1 x2 =
    cif (f0_n ≤ x2)
      (some x1)
      (cif (vp_in x2 n0_byHead)
        (cif ((h0_byHead x2.toNatClampNeg) = (0 : Int64))
          (L_X2_size_4 f0_n n0_byHead h0_byHead x1 (x2 + (1 : Int32)))
          (L_X2_size_4 f0_n n0_byHead h0_byHead (x1 + (1 : Int32)) (x2 + (1 : Int32))))
        (none)) := by
  show runw (st_X2_size f0_n n0_byHead h0_byHead) (x1, x2) = _
  rw [runw_eq]
  show run1 _ (b_X2_size_4 f0_n n0_byHead h0_byHead x1 x2) = _
  simp only [b_X2_size_4, run1_cif, run1_sbd, run1_inl, run1_inr]
  try rfl
noncomputable def D_X2_size (f0_n : Int32) (n0_byHead : Nat) (h0_byHead : Nat → Int64) : Option (Int32) :=
  L_X2_size_4 f0_n n0_byHead h0_byHead (0 : Int32) (0 : Int32)
abbrev S_X2_inOrder : Type := (Int32 × Int32)
noncomputable def b_X2_inOrder_4 (f0_n : Int32) (n0_byHead : Nat) (h0_byHead : Nat → Int64) (x1 : Int32) (x2 : Int32) (x3 : Int32) : Option (Int64) ⊕ S_X2_inOrder :=
  cif (f0_n ≤ x3)
    (.inl (some (0 : Int64)))
    (cif (vp_in x3 n0_byHead)
      (cif ((h0_byHead x3.toNatClampNeg) = (0 : Int64))
        (.inr (x2, x3 + (1 : Int32)))
        (cif (x2 = x1)
          (cif (vp_in x3 n0_byHead)
            (.inl (some (h0_byHead x3.toNatClampNeg)))
            (.inl none))
          (.inr (x2 + (1 : Int32), x3 + (1 : Int32)))))
      (.inl none))
noncomputable def st_X2_inOrder (f0_n : Int32) (n0_byHead : Nat) (h0_byHead : Nat → Int64) (x1 : Int32) : S_X2_inOrder → Option (Int64) ⊕ S_X2_inOrder := fun x => match x with
  | (x2, x3) => b_X2_inOrder_4 f0_n n0_byHead h0_byHead x1 x2 x3
noncomputable def L_X2_inOrder_4 (f0_n : Int32) (n0_byHead : Nat) (h0_byHead : Nat → Int64) (x1 : Int32) (x2 : Int32) (x3 : Int32) : Option (Int64) := runw (st_X2_inOrder f0_n n0_byHead h0_byHead x1) (x2, x3)
theorem E_X2_inOrder_4 (f0_n : Int32) (n0_byHead : Nat) (h0_byHead : Nat → Int64) (x1 : Int32) (x2 : Int32) (x3 : Int32) : L_X2_inOrder_4 f0_n n0_byHead h0_byHead x1 x2 x3 =
    cif (f0_n ≤ x3)
      (some (0 : Int64))
      (cif (vp_in x3 n0_byHead)
        (cif ((h0_byHead x3.toNatClampNeg) = (0 : Int64))
          (L_X2_inOrder_4 f0_n n0_byHead h0_byHead x1 x2 (x3 + (1 : Int32)))
          (cif (x2 = x1)
            (cif (vp_in x3 n0_byHead)
              (some (h0_byHead x3.toNatClampNeg))
              (none))
            (L_X2_inOrder_4 f0_n n0_byHead h0_byHead x1 (x2 + (1 : Int32)) (x3 + (1 : Int32)))))
        (none)) := by
  show runw (st_X2_inOrder f0_n n0_byHead h0_byHead x1) (x2, x3) = _
  rw [runw_eq]
  show run1 _ (b_X2_inOrder_4 f0_n n0_byHead h0_byHead x1 x2 x3) = _
  simp only [b_X2_inOrder_4, run1_cif, run1_sbd, run1_inl, run1_inr]
  try rfl
noncomputable def D_X2_inOrder (f0_n : Int32) (n0_byHead : Nat) (h0_byHead : Nat → Int64) (x1 : Int32) : Option (Int64) :=
  L_X2_inOrder_4 f0_n n0_byHead h0_byHead x1 (0 : Int32) (0 : Int32)
abbrev S_X2_settle : Type := (Int64 × Int32 × Bool × (Nat → Int64))
noncomputable def b_X2_settle_63 (f0_n : Int32) (n0_byHead : Nat) (x1 : Int32) (x2 : Bool) (x3 : Int64) (x7 : Int32) (f0_impossible : Bool) (h0_byHead : Nat → Int64) : Option (Bool × (Nat → Int64)) ⊕ S_X2_settle :=
  cif (x1 ≤ x7)
    (.inl (some (f0_impossible, h0_byHead)))
    (cif (vp_in x7 n0_byHead)
      (cif (((jushr (h0_byHead x7.toNatClampNeg) x1) &&& (1 : Int64)) = (0 : Int64))
        (.inr (x3, x7 + (1 : Int32), f0_impossible, h0_byHead))
        (cif (vp_in x7 n0_byHead)
          (cif (vp_in x7 n0_byHead)
            (.inr (x3, x7 + (1 : Int32), f0_impossible, vp_updL h0_byHead x7.toNatClampNeg ((h0_byHead x7.toNatClampNeg) ^^^ x3)))
            (.inl none))
          (.inl none)))
      (.inl none))
noncomputable def st_X2_settle (f0_n : Int32) (n0_byHead : Nat) (x1 : Int32) (x2 : Bool) : S_X2_settle → Option (Bool × (Nat → Int64)) ⊕ S_X2_settle := fun x => match x with
  | (x3, x7, f0_impossible, h0_byHead) => b_X2_settle_63 f0_n n0_byHead x1 x2 x3 x7 f0_impossible h0_byHead
noncomputable def L_X2_settle_63 (f0_n : Int32) (n0_byHead : Nat) (x1 : Int32) (x2 : Bool) (x3 : Int64) (x7 : Int32) (f0_impossible : Bool) (h0_byHead : Nat → Int64) : Option (Bool × (Nat → Int64)) := runw (st_X2_settle f0_n n0_byHead x1 x2) (x3, x7, f0_impossible, h0_byHead)
theorem E_X2_settle_63 (f0_n : Int32) (n0_byHead : Nat) (x1 : Int32) (x2 : Bool) (x3 : Int64) (x7 : Int32) (f0_impossible : Bool) (h0_byHead : Nat → Int64) : L_X2_settle_63 f0_n n0_byHead x1 x2 x3 x7 f0_impossible h0_byHead =
    cif (x1 ≤ x7)
      (some (f0_impossible, h0_byHead))
      (cif (vp_in x7 n0_byHead)
        (cif (((jushr (h0_byHead x7.toNatClampNeg) x1) &&& (1 : Int64)) = (0 : Int64))
          (L_X2_settle_63 f0_n n0_byHead x1 x2 x3 (x7 + (1 : Int32)) f0_impossible h0_byHead)
          (cif (vp_in x7 n0_byHead)
            (cif (vp_in x7 n0_byHead)
              (L_X2_settle_63 f0_n n0_byHead x1 x2 x3 (x7 + (1 : Int32)) f0_impossible (vp_updL h0_byHead x7.toNatClampNeg ((h0_byHead x7.toNatClampNeg) ^^^ x3)))
              (none))
            (none)))
        (none)) := by
  show runw (st_X2_settle f0_n n0_byHead x1 x2) (x3, x7, f0_impossible, h0_byHead) = _
  rw [runw_eq]
  show run1 _ (b_X2_settle_63 f0_n n0_byHead x1 x2 x3 x7 f0_impossible h0_byHead) = _
  simp only [b_X2_settle_63, run1_cif, run1_sbd, run1_inl, run1_inr]
  try rfl
noncomputable def D_X2_settle (f0_n : Int32) (f0_impossible : Bool) (n0_byHead : Nat) (h0_byHead : Nat → Int64) (x1 : Int32) (x2 : Bool) : Option (Bool × (Nat → Int64)) :=
  cif (x1 < 0)
    (some (f0_impossible, h0_byHead))
    (cif (x1 < f0_n)
      (cif (x2 = true)
        (cif (vp_in x1 n0_byHead)
          (cif ((h0_byHead x1.toNatClampNeg) = (0 : Int64))
            (L_X2_settle_63 f0_n n0_byHead x1 x2 ((jshl (1 : Int64) x1) ||| (4611686018427387904 : Int64)) (0 : Int32) f0_impossible h0_byHead)
            (cif (vp_in x1 n0_byHead)
              (Option.bind (D_X2_enter f0_n f0_impossible n0_byHead (vp_updL h0_byHead x1.toNatClampNeg (0 : Int64)) ((h0_byHead x1.toNatClampNeg) ^^^ ((jshl (1 : Int64) x1) ||| (4611686018427387904 : Int64)))) (fun u_17 =>
                some (u_17.1, u_17.2)))
              (none)))
          (none))
        (cif (vp_in x1 n0_byHead)
          (cif ((h0_byHead x1.toNatClampNeg) = (0 : Int64))
            (L_X2_settle_63 f0_n n0_byHead x1 x2 ((jshl (1 : Int64) x1) ||| (0 : Int64)) (0 : Int32) f0_impossible h0_byHead)
            (cif (vp_in x1 n0_byHead)
              (Option.bind (D_X2_enter f0_n f0_impossible n0_byHead (vp_updL h0_byHead x1.toNatClampNeg (0 : Int64)) ((h0_byHead x1.toNatClampNeg) ^^^ ((jshl (1 : Int64) x1) ||| (0 : Int64)))) (fun u_11 =>
                some (u_11.1, u_11.2)))
              (none)))
          (none)))
      (some (f0_impossible, h0_byHead)))
noncomputable def D_X5_begin (f0_taken : Int64) (f0_ones : Int64) (f0_rows_n : Int32) (f0_rows_impossible : Bool) (n0_rows_byHead : Nat) (h0_rows_byHead : Nat → Int64) (f1_n : Int32) (f1_impossible : Bool) (n1_byHead : Nat) (h1_byHead : Nat → Int64) : Option (Int64 × Int64 × Bool × (Nat → Int64)) :=
  Option.bind (D_X2_copyFrom f0_rows_n f0_rows_impossible n0_rows_byHead h0_rows_byHead f1_n f1_impossible n1_byHead h1_byHead) (fun u_1 =>
    some ((0 : Int64), (0 : Int64), u_1.1, u_1.2))
noncomputable def D_X3_begin (f0_pileSize : Int32) (f0_nodeCount : Int32) (f0_modelCount : Int32) (f0_cut : Bool) (f0_start_taken : Int64) (f0_start_ones : Int64) (f0_start_rows_n : Int32) (f0_start_rows_impossible : Bool) (n0_start_rows_byHead : Nat) (h0_start_rows_byHead : Nat → Int64) (f1_n : Int32) (f1_impossible : Bool) (n1_byHead : Nat) (h1_byHead : Nat → Int64) : Option (Int32 × Int32 × Int32 × Bool × Int64 × Int64 × Bool × (Nat → Int64)) :=
  Option.bind (D_X5_begin f0_start_taken f0_start_ones f0_start_rows_n f0_start_rows_impossible n0_start_rows_byHead h0_start_rows_byHead f1_n f1_impossible n1_byHead h1_byHead) (fun u_1 =>
    some ((0 : Int32), (0 : Int32), (0 : Int32), false, u_1.1, u_1.2.1, u_1.2.2.1, u_1.2.2.2))
noncomputable def D_X5_hasOneValue (n0_rows_byHead : Nat) (h0_rows_byHead : Nat → Int64) (x1 : Int32) : Option (Bool) :=
  cif (vp_in x1 n0_rows_byHead)
    (cif (((h0_rows_byHead x1.toNatClampNeg) &&& (-4611686018427387905 : Int64)) = (jshl (1 : Int64) x1))
      (some true)
      (some false))
    (none)
noncomputable def D_X5_take (f0_taken : Int64) (f0_ones : Int64) (f0_rows_n : Int32) (f0_rows_impossible : Bool) (n0_rows_byHead : Nat) (h0_rows_byHead : Nat → Int64) (x1 : Int32) (x2 : Bool) : Option (Int64 × Int64 × Bool × (Nat → Int64)) :=
  cif (x2 = true)
    (Option.bind (D_X2_settle f0_rows_n f0_rows_impossible n0_rows_byHead h0_rows_byHead x1 x2) (fun u_5 =>
      some (f0_taken ||| (jshl (1 : Int64) x1), f0_ones ||| (jshl (1 : Int64) x1), u_5.1, u_5.2)))
    (Option.bind (D_X2_settle f0_rows_n f0_rows_impossible n0_rows_byHead h0_rows_byHead x1 x2) (fun u_3 =>
      some (f0_taken ||| (jshl (1 : Int64) x1), f0_ones, u_3.1, u_3.2)))
abbrev S_X5_takeFromRows : Type := (Int32 × Int64 × Int64 × Bool × (Nat → Int64))
noncomputable def b_X5_takeFromRows_2 (f0_n : Int32) (f0_rows_n : Int32) (n0_rows_byHead : Nat) (x1 : Int32) (f0_taken : Int64) (f0_ones : Int64) (f0_rows_impossible : Bool) (h0_rows_byHead : Nat → Int64) : Option (Int64 × Int64 × Bool × (Nat → Int64)) ⊕ S_X5_takeFromRows :=
  cif (f0_n ≤ x1)
    (.inl (some (f0_taken, f0_ones, f0_rows_impossible, h0_rows_byHead)))
    (sbd (D_X5_hasOneValue n0_rows_byHead h0_rows_byHead x1) (fun u_3 =>
      cif (u_3 = true)
        (cif (vp_in x1 n0_rows_byHead)
          (cif ((h0_rows_byHead x1.toNatClampNeg) = (jshl (1 : Int64) x1))
            (sbd (D_X5_take f0_taken f0_ones f0_rows_n f0_rows_impossible n0_rows_byHead h0_rows_byHead x1 false) (fun u_10 =>
              .inr (x1 + (1 : Int32), u_10.1, u_10.2.1, u_10.2.2.1, u_10.2.2.2)))
            (sbd (D_X5_take f0_taken f0_ones f0_rows_n f0_rows_impossible n0_rows_byHead h0_rows_byHead x1 true) (fun u_12 =>
              .inr (x1 + (1 : Int32), u_12.1, u_12.2.1, u_12.2.2.1, u_12.2.2.2))))
          (.inl none))
        (.inr (x1 + (1 : Int32), f0_taken, f0_ones, f0_rows_impossible, h0_rows_byHead))))
noncomputable def st_X5_takeFromRows (f0_n : Int32) (f0_rows_n : Int32) (n0_rows_byHead : Nat) : S_X5_takeFromRows → Option (Int64 × Int64 × Bool × (Nat → Int64)) ⊕ S_X5_takeFromRows := fun x => match x with
  | (x1, f0_taken, f0_ones, f0_rows_impossible, h0_rows_byHead) => b_X5_takeFromRows_2 f0_n f0_rows_n n0_rows_byHead x1 f0_taken f0_ones f0_rows_impossible h0_rows_byHead
noncomputable def L_X5_takeFromRows_2 (f0_n : Int32) (f0_rows_n : Int32) (n0_rows_byHead : Nat) (x1 : Int32) (f0_taken : Int64) (f0_ones : Int64) (f0_rows_impossible : Bool) (h0_rows_byHead : Nat → Int64) : Option (Int64 × Int64 × Bool × (Nat → Int64)) := runw (st_X5_takeFromRows f0_n f0_rows_n n0_rows_byHead) (x1, f0_taken, f0_ones, f0_rows_impossible, h0_rows_byHead)
theorem E_X5_takeFromRows_2 (f0_n : Int32) (f0_rows_n : Int32) (n0_rows_byHead : Nat) (x1 : Int32) (f0_taken : Int64) (f0_ones : Int64) (f0_rows_impossible : Bool) (h0_rows_byHead : Nat → Int64) : L_X5_takeFromRows_2 f0_n f0_rows_n n0_rows_byHead x1 f0_taken f0_ones f0_rows_impossible h0_rows_byHead =
    cif (f0_n ≤ x1)
      (some (f0_taken, f0_ones, f0_rows_impossible, h0_rows_byHead))
      (Option.bind (D_X5_hasOneValue n0_rows_byHead h0_rows_byHead x1) (fun u_3 =>
        cif (u_3 = true)
          (cif (vp_in x1 n0_rows_byHead)
            (cif ((h0_rows_byHead x1.toNatClampNeg) = (jshl (1 : Int64) x1))
              (Option.bind (D_X5_take f0_taken f0_ones f0_rows_n f0_rows_impossible n0_rows_byHead h0_rows_byHead x1 false) (fun u_10 =>
                L_X5_takeFromRows_2 f0_n f0_rows_n n0_rows_byHead (x1 + (1 : Int32)) u_10.1 u_10.2.1 u_10.2.2.1 u_10.2.2.2))
              (Option.bind (D_X5_take f0_taken f0_ones f0_rows_n f0_rows_impossible n0_rows_byHead h0_rows_byHead x1 true) (fun u_12 =>
                L_X5_takeFromRows_2 f0_n f0_rows_n n0_rows_byHead (x1 + (1 : Int32)) u_12.1 u_12.2.1 u_12.2.2.1 u_12.2.2.2)))
            (none))
          (L_X5_takeFromRows_2 f0_n f0_rows_n n0_rows_byHead (x1 + (1 : Int32)) f0_taken f0_ones f0_rows_impossible h0_rows_byHead))) := by
  show runw (st_X5_takeFromRows f0_n f0_rows_n n0_rows_byHead) (x1, f0_taken, f0_ones, f0_rows_impossible, h0_rows_byHead) = _
  rw [runw_eq]
  show run1 _ (b_X5_takeFromRows_2 f0_n f0_rows_n n0_rows_byHead x1 f0_taken f0_ones f0_rows_impossible h0_rows_byHead) = _
  simp only [b_X5_takeFromRows_2, run1_cif, run1_sbd, run1_inl, run1_inr]
  try rfl
noncomputable def D_X5_takeFromRows (f0_n : Int32) (f0_taken : Int64) (f0_ones : Int64) (f0_rows_n : Int32) (f0_rows_impossible : Bool) (n0_rows_byHead : Nat) (h0_rows_byHead : Nat → Int64) : Option (Int64 × Int64 × Bool × (Nat → Int64)) :=
  L_X5_takeFromRows_2 f0_n f0_rows_n n0_rows_byHead (0 : Int32) f0_taken f0_ones f0_rows_impossible h0_rows_byHead
noncomputable def D_X7_leastPlace (x0 : Int64) : Option (Int32) :=
  Option.bind (D_J13_bitCount_95d88 ((x0 &&& (-x0)) - (1 : Int64))) (fun u_1 =>
    some u_1)
abbrev S_X5_takeFromClauses : Type := (Int32 × Int64 × Int64 × Bool × (Nat → Int64))
noncomputable def b_X5_takeFromClauses_2 (f0_rows_n : Int32) (n0_rows_byHead : Nat) (f1_clauseCount : Int32) (n1_yes : Nat) (h1_yes : Nat → Int64) (n1_no : Nat) (h1_no : Nat → Int64) (x2 : Int32) (f0_taken : Int64) (f0_ones : Int64) (f0_rows_impossible : Bool) (h0_rows_byHead : Nat → Int64) : Option (Bool × Int64 × Int64 × Bool × (Nat → Int64)) ⊕ S_X5_takeFromClauses :=
  cif (f1_clauseCount ≤ x2)
    (.inl (some (true, f0_taken, f0_ones, f0_rows_impossible, h0_rows_byHead)))
    (cif (vp_in x2 n1_yes)
      (cif (vp_in x2 n1_no)
        (cif (((h1_yes x2.toNatClampNeg) &&& f0_ones) = (0 : Int64))
          (cif ((((h1_no x2.toNatClampNeg) &&& f0_taken) &&& (f0_ones ^^^ (-1 : Int64))) = (0 : Int64))
            (cif ((((h1_yes x2.toNatClampNeg) ||| (h1_no x2.toNatClampNeg)) &&& (f0_taken ^^^ (-1 : Int64))) = (0 : Int64))
              (.inl (some (false, f0_taken, f0_ones, f0_rows_impossible, h0_rows_byHead)))
              (cif (((((h1_yes x2.toNatClampNeg) ||| (h1_no x2.toNatClampNeg)) &&& (f0_taken ^^^ (-1 : Int64))) &&& ((((h1_yes x2.toNatClampNeg) ||| (h1_no x2.toNatClampNeg)) &&& (f0_taken ^^^ (-1 : Int64))) - (1 : Int64))) = (0 : Int64))
                (sbd (D_X7_leastPlace (((h1_yes x2.toNatClampNeg) ||| (h1_no x2.toNatClampNeg)) &&& (f0_taken ^^^ (-1 : Int64)))) (fun u_15 =>
                  cif (((h1_yes x2.toNatClampNeg) &&& (((h1_yes x2.toNatClampNeg) ||| (h1_no x2.toNatClampNeg)) &&& (f0_taken ^^^ (-1 : Int64)))) = (0 : Int64))
                    (sbd (D_X5_take f0_taken f0_ones f0_rows_n f0_rows_impossible n0_rows_byHead h0_rows_byHead u_15 false) (fun u_19 =>
                      cif (u_19.2.2.1 = true)
                        (.inl (some (false, u_19.1, u_19.2.1, u_19.2.2.1, u_19.2.2.2)))
                        (.inr (x2 + (1 : Int32), u_19.1, u_19.2.1, u_19.2.2.1, u_19.2.2.2))))
                    (sbd (D_X5_take f0_taken f0_ones f0_rows_n f0_rows_impossible n0_rows_byHead h0_rows_byHead u_15 true) (fun u_23 =>
                      cif (u_23.2.2.1 = true)
                        (.inl (some (false, u_23.1, u_23.2.1, u_23.2.2.1, u_23.2.2.2)))
                        (.inr (x2 + (1 : Int32), u_23.1, u_23.2.1, u_23.2.2.1, u_23.2.2.2))))))
                (cif (f0_rows_impossible = true)
                  (.inl (some (false, f0_taken, f0_ones, f0_rows_impossible, h0_rows_byHead)))
                  (.inr (x2 + (1 : Int32), f0_taken, f0_ones, f0_rows_impossible, h0_rows_byHead)))))
            (.inr (x2 + (1 : Int32), f0_taken, f0_ones, f0_rows_impossible, h0_rows_byHead)))
          (.inr (x2 + (1 : Int32), f0_taken, f0_ones, f0_rows_impossible, h0_rows_byHead)))
        (.inl none))
      (.inl none))
noncomputable def st_X5_takeFromClauses (f0_rows_n : Int32) (n0_rows_byHead : Nat) (f1_clauseCount : Int32) (n1_yes : Nat) (h1_yes : Nat → Int64) (n1_no : Nat) (h1_no : Nat → Int64) : S_X5_takeFromClauses → Option (Bool × Int64 × Int64 × Bool × (Nat → Int64)) ⊕ S_X5_takeFromClauses := fun x => match x with
  | (x2, f0_taken, f0_ones, f0_rows_impossible, h0_rows_byHead) => b_X5_takeFromClauses_2 f0_rows_n n0_rows_byHead f1_clauseCount n1_yes h1_yes n1_no h1_no x2 f0_taken f0_ones f0_rows_impossible h0_rows_byHead
noncomputable def L_X5_takeFromClauses_2 (f0_rows_n : Int32) (n0_rows_byHead : Nat) (f1_clauseCount : Int32) (n1_yes : Nat) (h1_yes : Nat → Int64) (n1_no : Nat) (h1_no : Nat → Int64) (x2 : Int32) (f0_taken : Int64) (f0_ones : Int64) (f0_rows_impossible : Bool) (h0_rows_byHead : Nat → Int64) : Option (Bool × Int64 × Int64 × Bool × (Nat → Int64)) := runw (st_X5_takeFromClauses f0_rows_n n0_rows_byHead f1_clauseCount n1_yes h1_yes n1_no h1_no) (x2, f0_taken, f0_ones, f0_rows_impossible, h0_rows_byHead)
theorem E_X5_takeFromClauses_2 (f0_rows_n : Int32) (n0_rows_byHead : Nat) (f1_clauseCount : Int32) (n1_yes : Nat) (h1_yes : Nat → Int64) (n1_no : Nat) (h1_no : Nat → Int64) (x2 : Int32) (f0_taken : Int64) (f0_ones : Int64) (f0_rows_impossible : Bool) (h0_rows_byHead : Nat → Int64) : L_X5_takeFromClauses_2 f0_rows_n n0_rows_byHead f1_clauseCount n1_yes h1_yes n1_no h1_no x2 f0_taken f0_ones f0_rows_impossible h0_rows_byHead =
    cif (f1_clauseCount ≤ x2)
      (some (true, f0_taken, f0_ones, f0_rows_impossible, h0_rows_byHead))
      (cif (vp_in x2 n1_yes)
        (cif (vp_in x2 n1_no)
          (cif (((h1_yes x2.toNatClampNeg) &&& f0_ones) = (0 : Int64))
            (cif ((((h1_no x2.toNatClampNeg) &&& f0_taken) &&& (f0_ones ^^^ (-1 : Int64))) = (0 : Int64))
              (cif ((((h1_yes x2.toNatClampNeg) ||| (h1_no x2.toNatClampNeg)) &&& (f0_taken ^^^ (-1 : Int64))) = (0 : Int64))
                (some (false, f0_taken, f0_ones, f0_rows_impossible, h0_rows_byHead))
                (cif (((((h1_yes x2.toNatClampNeg) ||| (h1_no x2.toNatClampNeg)) &&& (f0_taken ^^^ (-1 : Int64))) &&& ((((h1_yes x2.toNatClampNeg) ||| (h1_no x2.toNatClampNeg)) &&& (f0_taken ^^^ (-1 : Int64))) - (1 : Int64))) = (0 : Int64))
                  (Option.bind (D_X7_leastPlace (((h1_yes x2.toNatClampNeg) ||| (h1_no x2.toNatClampNeg)) &&& (f0_taken ^^^ (-1 : Int64)))) (fun u_15 =>
                    cif (((h1_yes x2.toNatClampNeg) &&& (((h1_yes x2.toNatClampNeg) ||| (h1_no x2.toNatClampNeg)) &&& (f0_taken ^^^ (-1 : Int64)))) = (0 : Int64))
                      (Option.bind (D_X5_take f0_taken f0_ones f0_rows_n f0_rows_impossible n0_rows_byHead h0_rows_byHead u_15 false) (fun u_19 =>
                        cif (u_19.2.2.1 = true)
                          (some (false, u_19.1, u_19.2.1, u_19.2.2.1, u_19.2.2.2))
                          (L_X5_takeFromClauses_2 f0_rows_n n0_rows_byHead f1_clauseCount n1_yes h1_yes n1_no h1_no (x2 + (1 : Int32)) u_19.1 u_19.2.1 u_19.2.2.1 u_19.2.2.2)))
                      (Option.bind (D_X5_take f0_taken f0_ones f0_rows_n f0_rows_impossible n0_rows_byHead h0_rows_byHead u_15 true) (fun u_23 =>
                        cif (u_23.2.2.1 = true)
                          (some (false, u_23.1, u_23.2.1, u_23.2.2.1, u_23.2.2.2))
                          (L_X5_takeFromClauses_2 f0_rows_n n0_rows_byHead f1_clauseCount n1_yes h1_yes n1_no h1_no (x2 + (1 : Int32)) u_23.1 u_23.2.1 u_23.2.2.1 u_23.2.2.2)))))
                  (cif (f0_rows_impossible = true)
                    (some (false, f0_taken, f0_ones, f0_rows_impossible, h0_rows_byHead))
                    (L_X5_takeFromClauses_2 f0_rows_n n0_rows_byHead f1_clauseCount n1_yes h1_yes n1_no h1_no (x2 + (1 : Int32)) f0_taken f0_ones f0_rows_impossible h0_rows_byHead))))
              (L_X5_takeFromClauses_2 f0_rows_n n0_rows_byHead f1_clauseCount n1_yes h1_yes n1_no h1_no (x2 + (1 : Int32)) f0_taken f0_ones f0_rows_impossible h0_rows_byHead))
            (L_X5_takeFromClauses_2 f0_rows_n n0_rows_byHead f1_clauseCount n1_yes h1_yes n1_no h1_no (x2 + (1 : Int32)) f0_taken f0_ones f0_rows_impossible h0_rows_byHead))
          (none))
        (none)) := by
  show runw (st_X5_takeFromClauses f0_rows_n n0_rows_byHead f1_clauseCount n1_yes h1_yes n1_no h1_no) (x2, f0_taken, f0_ones, f0_rows_impossible, h0_rows_byHead) = _
  rw [runw_eq]
  show run1 _ (b_X5_takeFromClauses_2 f0_rows_n n0_rows_byHead f1_clauseCount n1_yes h1_yes n1_no h1_no x2 f0_taken f0_ones f0_rows_impossible h0_rows_byHead) = _
  simp only [b_X5_takeFromClauses_2, run1_cif, run1_sbd, run1_inl, run1_inr]
  try rfl
noncomputable def D_X5_takeFromClauses (f0_taken : Int64) (f0_ones : Int64) (f0_rows_n : Int32) (f0_rows_impossible : Bool) (n0_rows_byHead : Nat) (h0_rows_byHead : Nat → Int64) (f1_clauseCount : Int32) (n1_yes : Nat) (h1_yes : Nat → Int64) (n1_no : Nat) (h1_no : Nat → Int64) : Option (Bool × Int64 × Int64 × Bool × (Nat → Int64)) :=
  L_X5_takeFromClauses_2 f0_rows_n n0_rows_byHead f1_clauseCount n1_yes h1_yes n1_no h1_no (0 : Int32) f0_taken f0_ones f0_rows_impossible h0_rows_byHead
abbrev S_X5_spread : Type := (Bool × Int32 × Int64 × Int64 × Bool × (Nat → Int64))
noncomputable def b_X5_spread_4 (f0_n : Int32) (f0_rows_n : Int32) (n0_rows_byHead : Nat) (f1_clauseCount : Int32) (n1_yes : Nat) (h1_yes : Nat → Int64) (n1_no : Nat) (h1_no : Nat → Int64) (x2 : Bool) (x3 : Int32) (f0_taken : Int64) (f0_ones : Int64) (f0_rows_impossible : Bool) (h0_rows_byHead : Nat → Int64) : Option (Bool × Int64 × Int64 × Bool × (Nat → Int64)) ⊕ S_X5_spread :=
  cif (x2 = true)
    (cif (f0_rows_impossible = true)
      (.inl (some (false, f0_taken, f0_ones, f0_rows_impossible, h0_rows_byHead)))
      (cif ((40 : Int32) < x3)
        (.inl (some (true, f0_taken, f0_ones, f0_rows_impossible, h0_rows_byHead)))
        (sbd (D_X5_takeFromRows f0_n f0_taken f0_ones f0_rows_n f0_rows_impossible n0_rows_byHead h0_rows_byHead) (fun u_11 =>
          sbd (D_X5_takeFromClauses u_11.1 u_11.2.1 f0_rows_n u_11.2.2.1 n0_rows_byHead u_11.2.2.2 f1_clauseCount n1_yes h1_yes n1_no h1_no) (fun u_13 =>
            cif (u_13.1 = true)
              (cif (u_13.2.1 = u_11.1)
                (.inr (false, x3 + (1 : Int32), u_13.2.1, u_13.2.2.1, u_13.2.2.2.1, u_13.2.2.2.2))
                (.inr (true, x3 + (1 : Int32), u_13.2.1, u_13.2.2.1, u_13.2.2.2.1, u_13.2.2.2.2)))
              (.inl (some (false, u_13.2.1, u_13.2.2.1, u_13.2.2.2.1, u_13.2.2.2.2))))))))
    (cif (f0_rows_impossible = true)
      (.inl (some (false, f0_taken, f0_ones, f0_rows_impossible, h0_rows_byHead)))
      (.inl (some (true, f0_taken, f0_ones, f0_rows_impossible, h0_rows_byHead))))
noncomputable def st_X5_spread (f0_n : Int32) (f0_rows_n : Int32) (n0_rows_byHead : Nat) (f1_clauseCount : Int32) (n1_yes : Nat) (h1_yes : Nat → Int64) (n1_no : Nat) (h1_no : Nat → Int64) : S_X5_spread → Option (Bool × Int64 × Int64 × Bool × (Nat → Int64)) ⊕ S_X5_spread := fun x => match x with
  | (x2, x3, f0_taken, f0_ones, f0_rows_impossible, h0_rows_byHead) => b_X5_spread_4 f0_n f0_rows_n n0_rows_byHead f1_clauseCount n1_yes h1_yes n1_no h1_no x2 x3 f0_taken f0_ones f0_rows_impossible h0_rows_byHead
noncomputable def L_X5_spread_4 (f0_n : Int32) (f0_rows_n : Int32) (n0_rows_byHead : Nat) (f1_clauseCount : Int32) (n1_yes : Nat) (h1_yes : Nat → Int64) (n1_no : Nat) (h1_no : Nat → Int64) (x2 : Bool) (x3 : Int32) (f0_taken : Int64) (f0_ones : Int64) (f0_rows_impossible : Bool) (h0_rows_byHead : Nat → Int64) : Option (Bool × Int64 × Int64 × Bool × (Nat → Int64)) := runw (st_X5_spread f0_n f0_rows_n n0_rows_byHead f1_clauseCount n1_yes h1_yes n1_no h1_no) (x2, x3, f0_taken, f0_ones, f0_rows_impossible, h0_rows_byHead)
theorem E_X5_spread_4 (f0_n : Int32) (f0_rows_n : Int32) (n0_rows_byHead : Nat) (f1_clauseCount : Int32) (n1_yes : Nat) (h1_yes : Nat → Int64) (n1_no : Nat) (h1_no : Nat → Int64) (x2 : Bool) (x3 : Int32) (f0_taken : Int64) (f0_ones : Int64) (f0_rows_impossible : Bool) (h0_rows_byHead : Nat → Int64) : L_X5_spread_4 f0_n f0_rows_n n0_rows_byHead f1_clauseCount n1_yes h1_yes n1_no h1_no x2 x3 f0_taken f0_ones f0_rows_impossible h0_rows_byHead =
    cif (x2 = true)
      (cif (f0_rows_impossible = true)
        (some (false, f0_taken, f0_ones, f0_rows_impossible, h0_rows_byHead))
        (cif ((40 : Int32) < x3)
          (some (true, f0_taken, f0_ones, f0_rows_impossible, h0_rows_byHead))
          (Option.bind (D_X5_takeFromRows f0_n f0_taken f0_ones f0_rows_n f0_rows_impossible n0_rows_byHead h0_rows_byHead) (fun u_11 =>
            Option.bind (D_X5_takeFromClauses u_11.1 u_11.2.1 f0_rows_n u_11.2.2.1 n0_rows_byHead u_11.2.2.2 f1_clauseCount n1_yes h1_yes n1_no h1_no) (fun u_13 =>
              cif (u_13.1 = true)
                (cif (u_13.2.1 = u_11.1)
                  (L_X5_spread_4 f0_n f0_rows_n n0_rows_byHead f1_clauseCount n1_yes h1_yes n1_no h1_no false (x3 + (1 : Int32)) u_13.2.1 u_13.2.2.1 u_13.2.2.2.1 u_13.2.2.2.2)
                  (L_X5_spread_4 f0_n f0_rows_n n0_rows_byHead f1_clauseCount n1_yes h1_yes n1_no h1_no true (x3 + (1 : Int32)) u_13.2.1 u_13.2.2.1 u_13.2.2.2.1 u_13.2.2.2.2))
                (some (false, u_13.2.1, u_13.2.2.1, u_13.2.2.2.1, u_13.2.2.2.2)))))))
      (cif (f0_rows_impossible = true)
        (some (false, f0_taken, f0_ones, f0_rows_impossible, h0_rows_byHead))
        (some (true, f0_taken, f0_ones, f0_rows_impossible, h0_rows_byHead))) := by
  show runw (st_X5_spread f0_n f0_rows_n n0_rows_byHead f1_clauseCount n1_yes h1_yes n1_no h1_no) (x2, x3, f0_taken, f0_ones, f0_rows_impossible, h0_rows_byHead) = _
  rw [runw_eq]
  show run1 _ (b_X5_spread_4 f0_n f0_rows_n n0_rows_byHead f1_clauseCount n1_yes h1_yes n1_no h1_no x2 x3 f0_taken f0_ones f0_rows_impossible h0_rows_byHead) = _
  simp only [b_X5_spread_4, run1_cif, run1_sbd, run1_inl, run1_inr]
  try rfl
noncomputable def D_X5_spread (f0_n : Int32) (f0_taken : Int64) (f0_ones : Int64) (f0_rows_n : Int32) (f0_rows_impossible : Bool) (n0_rows_byHead : Nat) (h0_rows_byHead : Nat → Int64) (f1_clauseCount : Int32) (n1_yes : Nat) (h1_yes : Nat → Int64) (n1_no : Nat) (h1_no : Nat → Int64) : Option (Bool × Int64 × Int64 × Bool × (Nat → Int64)) :=
  L_X5_spread_4 f0_n f0_rows_n n0_rows_byHead f1_clauseCount n1_yes h1_yes n1_no h1_no true (0 : Int32) f0_taken f0_ones f0_rows_impossible h0_rows_byHead
noncomputable def D_X5_leastOpen (f0_taken : Int64) : Option (Int32) :=
  Option.bind (D_X7_leastPlace (f0_taken ^^^ (-1 : Int64))) (fun u_1 =>
    some u_1)
noncomputable def D_X5_isFull (f0_n : Int32) (f0_taken : Int64) : Option (Bool) :=
  Option.bind (D_X5_leastOpen f0_taken) (fun u_1 =>
    cif (u_1 < f0_n)
      (some false)
      (some true))
noncomputable def D_X3_pile (f0_n : Int32) (f0_pileSize : Int32) (f0_start_taken : Int64) (f0_start_ones : Int64) (n0_start_rows_byHead : Nat) (h0_start_rows_byHead : Nat → Int64) (n0_pileRows : Nat) (h0_pileRows : Nat → Int64) (n0_pileTaken : Nat) (h0_pileTaken : Nat → Int64) (n0_pileOnes : Nat) (h0_pileOnes : Nat → Int64) : Option (Int32 × (Nat → Int64) × (Nat → Int64) × (Nat → Int64)) :=
  cif (f0_n ≤ f0_pileSize)
    (some (f0_pileSize, h0_pileRows, h0_pileTaken, h0_pileOnes))
    (cif (¬ (0 : Int32) < 0 ∧ ¬ (f0_pileSize * f0_n) < 0 ∧ ¬ f0_n < 0 ∧ (0 : Int32).toNatClampNeg + f0_n.toNatClampNeg ≤ n0_start_rows_byHead ∧ (f0_pileSize * f0_n).toNatClampNeg + f0_n.toNatClampNeg ≤ n0_pileRows)
      (cif (vp_in f0_pileSize n0_pileTaken)
        (cif (vp_in f0_pileSize n0_pileOnes)
          (some (f0_pileSize + (1 : Int32), va_cpy h0_start_rows_byHead h0_pileRows (0 : Int32).toNatClampNeg (f0_pileSize * f0_n).toNatClampNeg f0_n.toNatClampNeg, vp_updL h0_pileTaken f0_pileSize.toNatClampNeg f0_start_taken, vp_updL h0_pileOnes f0_pileSize.toNatClampNeg f0_start_ones))
          (none))
        (none))
      (none))
noncomputable def D_X3_unpile (f0_n : Int32) (f0_pileSize : Int32) (f0_start_taken : Int64) (f0_start_ones : Int64) (f0_start_rows_impossible : Bool) (n0_start_rows_byHead : Nat) (h0_start_rows_byHead : Nat → Int64) (n0_pileRows : Nat) (h0_pileRows : Nat → Int64) (n0_pileTaken : Nat) (h0_pileTaken : Nat → Int64) (n0_pileOnes : Nat) (h0_pileOnes : Nat → Int64) : Option (Bool × Int32 × Int64 × Int64 × Bool × (Nat → Int64)) :=
  cif (0 < f0_pileSize)
    (cif (¬ ((f0_pileSize - (1 : Int32)) * f0_n) < 0 ∧ ¬ (0 : Int32) < 0 ∧ ¬ f0_n < 0 ∧ ((f0_pileSize - (1 : Int32)) * f0_n).toNatClampNeg + f0_n.toNatClampNeg ≤ n0_pileRows ∧ (0 : Int32).toNatClampNeg + f0_n.toNatClampNeg ≤ n0_start_rows_byHead)
      (cif (vp_in (f0_pileSize - (1 : Int32)) n0_pileTaken)
        (cif (vp_in (f0_pileSize - (1 : Int32)) n0_pileOnes)
          (some (true, f0_pileSize - (1 : Int32), h0_pileTaken (f0_pileSize - (1 : Int32)).toNatClampNeg, h0_pileOnes (f0_pileSize - (1 : Int32)).toNatClampNeg, false, va_cpy h0_pileRows h0_start_rows_byHead ((f0_pileSize - (1 : Int32)) * f0_n).toNatClampNeg (0 : Int32).toNatClampNeg f0_n.toNatClampNeg))
          (none))
        (none))
      (none))
    (some (false, f0_pileSize, f0_start_taken, f0_start_ones, f0_start_rows_impossible, h0_start_rows_byHead))
abbrev S_X3_run : Type := (Int32 × Int32 × Int32 × Int32 × Int64 × Bool × Int64 × Int64 × Bool × (Nat → Int64) × (Nat → Int64) × (Nat → Int64) × (Nat → Int64))
noncomputable def b_X3_run_3 (f0_n : Int32) (f0_start_n : Int32) (f0_start_rows_n : Int32) (n0_start_rows_byHead : Nat) (n0_pileRows : Nat) (n0_pileTaken : Nat) (n0_pileOnes : Nat) (f1_clauseCount : Int32) (n1_yes : Nat) (h1_yes : Nat → Int64) (n1_no : Nat) (h1_no : Nat → Int64) (x2 : Int32) (x3 : Bool) (x4 : Int32) (f0_pileSize : Int32) (f0_nodeCount : Int32) (f0_modelCount : Int32) (f0_lastModel : Int64) (f0_cut : Bool) (f0_start_taken : Int64) (f0_start_ones : Int64) (f0_start_rows_impossible : Bool) (h0_start_rows_byHead : Nat → Int64) (h0_pileRows : Nat → Int64) (h0_pileTaken : Nat → Int64) (h0_pileOnes : Nat → Int64) : Option (Int32 × Int32 × Int32 × Int64 × Bool × Int64 × Int64 × Bool × (Nat → Int64) × (Nat → Int64) × (Nat → Int64) × (Nat → Int64)) ⊕ S_X3_run :=
  cif (x2 ≤ x4)
    (.inl (some (f0_pileSize, f0_nodeCount, f0_modelCount, f0_lastModel, true, f0_start_taken, f0_start_ones, f0_start_rows_impossible, h0_start_rows_byHead, h0_pileRows, h0_pileTaken, h0_pileOnes)))
    (sbd (D_X5_spread f0_start_n f0_start_taken f0_start_ones f0_start_rows_n f0_start_rows_impossible n0_start_rows_byHead h0_start_rows_byHead f1_clauseCount n1_yes h1_yes n1_no h1_no) (fun u_3 =>
      cif (u_3.1 = true)
        (sbd (D_X5_isFull f0_start_n u_3.2.1) (fun u_16 =>
          cif (u_16 = true)
            (cif (x3 = true)
              (.inl (some (f0_pileSize, f0_nodeCount + (1 : Int32), f0_modelCount + (1 : Int32), u_3.2.2.1, f0_cut, u_3.2.1, u_3.2.2.1, u_3.2.2.2.1, u_3.2.2.2.2, h0_pileRows, h0_pileTaken, h0_pileOnes)))
              (sbd (D_X3_unpile f0_n f0_pileSize u_3.2.1 u_3.2.2.1 u_3.2.2.2.1 n0_start_rows_byHead u_3.2.2.2.2 n0_pileRows h0_pileRows n0_pileTaken h0_pileTaken n0_pileOnes h0_pileOnes) (fun u_30 =>
                cif (u_30.1 = true)
                  (sbd (D_X5_leastOpen u_30.2.2.1) (fun u_34 =>
                    sbd (D_X5_take u_30.2.2.1 u_30.2.2.2.1 f0_start_rows_n u_30.2.2.2.2.1 n0_start_rows_byHead u_30.2.2.2.2.2 u_34 true) (fun u_36 =>
                      .inr (x4 + (1 : Int32), u_30.2.1, f0_nodeCount + (1 : Int32), f0_modelCount + (1 : Int32), u_3.2.2.1, f0_cut, u_36.1, u_36.2.1, u_36.2.2.1, u_36.2.2.2, h0_pileRows, h0_pileTaken, h0_pileOnes))))
                  (.inl (some (u_30.2.1, f0_nodeCount + (1 : Int32), f0_modelCount + (1 : Int32), u_3.2.2.1, f0_cut, u_30.2.2.1, u_30.2.2.2.1, u_30.2.2.2.2.1, u_30.2.2.2.2.2, h0_pileRows, h0_pileTaken, h0_pileOnes))))))
            (sbd (D_X3_pile f0_n f0_pileSize u_3.2.1 u_3.2.2.1 n0_start_rows_byHead u_3.2.2.2.2 n0_pileRows h0_pileRows n0_pileTaken h0_pileTaken n0_pileOnes h0_pileOnes) (fun u_21 =>
              sbd (D_X5_leastOpen u_3.2.1) (fun u_23 =>
                sbd (D_X5_take u_3.2.1 u_3.2.2.1 f0_start_rows_n u_3.2.2.2.1 n0_start_rows_byHead u_3.2.2.2.2 u_23 false) (fun u_25 =>
                  .inr (x4 + (1 : Int32), u_21.1, f0_nodeCount + (1 : Int32), f0_modelCount, f0_lastModel, f0_cut, u_25.1, u_25.2.1, u_25.2.2.1, u_25.2.2.2, u_21.2.1, u_21.2.2.1, u_21.2.2.2)))))))
        (sbd (D_X3_unpile f0_n f0_pileSize u_3.2.1 u_3.2.2.1 u_3.2.2.2.1 n0_start_rows_byHead u_3.2.2.2.2 n0_pileRows h0_pileRows n0_pileTaken h0_pileTaken n0_pileOnes h0_pileOnes) (fun u_8 =>
          cif (u_8.1 = true)
            (sbd (D_X5_leastOpen u_8.2.2.1) (fun u_12 =>
              sbd (D_X5_take u_8.2.2.1 u_8.2.2.2.1 f0_start_rows_n u_8.2.2.2.2.1 n0_start_rows_byHead u_8.2.2.2.2.2 u_12 true) (fun u_14 =>
                .inr (x4 + (1 : Int32), u_8.2.1, f0_nodeCount + (1 : Int32), f0_modelCount, f0_lastModel, f0_cut, u_14.1, u_14.2.1, u_14.2.2.1, u_14.2.2.2, h0_pileRows, h0_pileTaken, h0_pileOnes))))
            (.inl (some (u_8.2.1, f0_nodeCount + (1 : Int32), f0_modelCount, f0_lastModel, f0_cut, u_8.2.2.1, u_8.2.2.2.1, u_8.2.2.2.2.1, u_8.2.2.2.2.2, h0_pileRows, h0_pileTaken, h0_pileOnes)))))))
noncomputable def st_X3_run (f0_n : Int32) (f0_start_n : Int32) (f0_start_rows_n : Int32) (n0_start_rows_byHead : Nat) (n0_pileRows : Nat) (n0_pileTaken : Nat) (n0_pileOnes : Nat) (f1_clauseCount : Int32) (n1_yes : Nat) (h1_yes : Nat → Int64) (n1_no : Nat) (h1_no : Nat → Int64) (x2 : Int32) (x3 : Bool) : S_X3_run → Option (Int32 × Int32 × Int32 × Int64 × Bool × Int64 × Int64 × Bool × (Nat → Int64) × (Nat → Int64) × (Nat → Int64) × (Nat → Int64)) ⊕ S_X3_run := fun x => match x with
  | (x4, f0_pileSize, f0_nodeCount, f0_modelCount, f0_lastModel, f0_cut, f0_start_taken, f0_start_ones, f0_start_rows_impossible, h0_start_rows_byHead, h0_pileRows, h0_pileTaken, h0_pileOnes) => b_X3_run_3 f0_n f0_start_n f0_start_rows_n n0_start_rows_byHead n0_pileRows n0_pileTaken n0_pileOnes f1_clauseCount n1_yes h1_yes n1_no h1_no x2 x3 x4 f0_pileSize f0_nodeCount f0_modelCount f0_lastModel f0_cut f0_start_taken f0_start_ones f0_start_rows_impossible h0_start_rows_byHead h0_pileRows h0_pileTaken h0_pileOnes
noncomputable def L_X3_run_3 (f0_n : Int32) (f0_start_n : Int32) (f0_start_rows_n : Int32) (n0_start_rows_byHead : Nat) (n0_pileRows : Nat) (n0_pileTaken : Nat) (n0_pileOnes : Nat) (f1_clauseCount : Int32) (n1_yes : Nat) (h1_yes : Nat → Int64) (n1_no : Nat) (h1_no : Nat → Int64) (x2 : Int32) (x3 : Bool) (x4 : Int32) (f0_pileSize : Int32) (f0_nodeCount : Int32) (f0_modelCount : Int32) (f0_lastModel : Int64) (f0_cut : Bool) (f0_start_taken : Int64) (f0_start_ones : Int64) (f0_start_rows_impossible : Bool) (h0_start_rows_byHead : Nat → Int64) (h0_pileRows : Nat → Int64) (h0_pileTaken : Nat → Int64) (h0_pileOnes : Nat → Int64) : Option (Int32 × Int32 × Int32 × Int64 × Bool × Int64 × Int64 × Bool × (Nat → Int64) × (Nat → Int64) × (Nat → Int64) × (Nat → Int64)) := runw (st_X3_run f0_n f0_start_n f0_start_rows_n n0_start_rows_byHead n0_pileRows n0_pileTaken n0_pileOnes f1_clauseCount n1_yes h1_yes n1_no h1_no x2 x3) (x4, f0_pileSize, f0_nodeCount, f0_modelCount, f0_lastModel, f0_cut, f0_start_taken, f0_start_ones, f0_start_rows_impossible, h0_start_rows_byHead, h0_pileRows, h0_pileTaken, h0_pileOnes)
theorem E_X3_run_3 (f0_n : Int32) (f0_start_n : Int32) (f0_start_rows_n : Int32) (n0_start_rows_byHead : Nat) (n0_pileRows : Nat) (n0_pileTaken : Nat) (n0_pileOnes : Nat) (f1_clauseCount : Int32) (n1_yes : Nat) (h1_yes : Nat → Int64) (n1_no : Nat) (h1_no : Nat → Int64) (x2 : Int32) (x3 : Bool) (x4 : Int32) (f0_pileSize : Int32) (f0_nodeCount : Int32) (f0_modelCount : Int32) (f0_lastModel : Int64) (f0_cut : Bool) (f0_start_taken : Int64) (f0_start_ones : Int64) (f0_start_rows_impossible : Bool) (h0_start_rows_byHead : Nat → Int64) (h0_pileRows : Nat → Int64) (h0_pileTaken : Nat → Int64) (h0_pileOnes : Nat → Int64) : L_X3_run_3 f0_n f0_start_n f0_start_rows_n n0_start_rows_byHead n0_pileRows n0_pileTaken n0_pileOnes f1_clauseCount n1_yes h1_yes n1_no h1_no x2 x3 x4 f0_pileSize f0_nodeCount f0_modelCount f0_lastModel f0_cut f0_start_taken f0_start_ones f0_start_rows_impossible h0_start_rows_byHead h0_pileRows h0_pileTaken h0_pileOnes =
    cif (x2 ≤ x4)
      (some (f0_pileSize, f0_nodeCount, f0_modelCount, f0_lastModel, true, f0_start_taken, f0_start_ones, f0_start_rows_impossible, h0_start_rows_byHead, h0_pileRows, h0_pileTaken, h0_pileOnes))
      (Option.bind (D_X5_spread f0_start_n f0_start_taken f0_start_ones f0_start_rows_n f0_start_rows_impossible n0_start_rows_byHead h0_start_rows_byHead f1_clauseCount n1_yes h1_yes n1_no h1_no) (fun u_3 =>
        cif (u_3.1 = true)
          (Option.bind (D_X5_isFull f0_start_n u_3.2.1) (fun u_16 =>
            cif (u_16 = true)
              (cif (x3 = true)
                (some (f0_pileSize, f0_nodeCount + (1 : Int32), f0_modelCount + (1 : Int32), u_3.2.2.1, f0_cut, u_3.2.1, u_3.2.2.1, u_3.2.2.2.1, u_3.2.2.2.2, h0_pileRows, h0_pileTaken, h0_pileOnes))
                (Option.bind (D_X3_unpile f0_n f0_pileSize u_3.2.1 u_3.2.2.1 u_3.2.2.2.1 n0_start_rows_byHead u_3.2.2.2.2 n0_pileRows h0_pileRows n0_pileTaken h0_pileTaken n0_pileOnes h0_pileOnes) (fun u_30 =>
                  cif (u_30.1 = true)
                    (Option.bind (D_X5_leastOpen u_30.2.2.1) (fun u_34 =>
                      Option.bind (D_X5_take u_30.2.2.1 u_30.2.2.2.1 f0_start_rows_n u_30.2.2.2.2.1 n0_start_rows_byHead u_30.2.2.2.2.2 u_34 true) (fun u_36 =>
                        L_X3_run_3 f0_n f0_start_n f0_start_rows_n n0_start_rows_byHead n0_pileRows n0_pileTaken n0_pileOnes f1_clauseCount n1_yes h1_yes n1_no h1_no x2 x3 (x4 + (1 : Int32)) u_30.2.1 (f0_nodeCount + (1 : Int32)) (f0_modelCount + (1 : Int32)) u_3.2.2.1 f0_cut u_36.1 u_36.2.1 u_36.2.2.1 u_36.2.2.2 h0_pileRows h0_pileTaken h0_pileOnes)))
                    (some (u_30.2.1, f0_nodeCount + (1 : Int32), f0_modelCount + (1 : Int32), u_3.2.2.1, f0_cut, u_30.2.2.1, u_30.2.2.2.1, u_30.2.2.2.2.1, u_30.2.2.2.2.2, h0_pileRows, h0_pileTaken, h0_pileOnes)))))
              (Option.bind (D_X3_pile f0_n f0_pileSize u_3.2.1 u_3.2.2.1 n0_start_rows_byHead u_3.2.2.2.2 n0_pileRows h0_pileRows n0_pileTaken h0_pileTaken n0_pileOnes h0_pileOnes) (fun u_21 =>
                Option.bind (D_X5_leastOpen u_3.2.1) (fun u_23 =>
                  Option.bind (D_X5_take u_3.2.1 u_3.2.2.1 f0_start_rows_n u_3.2.2.2.1 n0_start_rows_byHead u_3.2.2.2.2 u_23 false) (fun u_25 =>
                    L_X3_run_3 f0_n f0_start_n f0_start_rows_n n0_start_rows_byHead n0_pileRows n0_pileTaken n0_pileOnes f1_clauseCount n1_yes h1_yes n1_no h1_no x2 x3 (x4 + (1 : Int32)) u_21.1 (f0_nodeCount + (1 : Int32)) f0_modelCount f0_lastModel f0_cut u_25.1 u_25.2.1 u_25.2.2.1 u_25.2.2.2 u_21.2.1 u_21.2.2.1 u_21.2.2.2))))))
          (Option.bind (D_X3_unpile f0_n f0_pileSize u_3.2.1 u_3.2.2.1 u_3.2.2.2.1 n0_start_rows_byHead u_3.2.2.2.2 n0_pileRows h0_pileRows n0_pileTaken h0_pileTaken n0_pileOnes h0_pileOnes) (fun u_8 =>
            cif (u_8.1 = true)
              (Option.bind (D_X5_leastOpen u_8.2.2.1) (fun u_12 =>
                Option.bind (D_X5_take u_8.2.2.1 u_8.2.2.2.1 f0_start_rows_n u_8.2.2.2.2.1 n0_start_rows_byHead u_8.2.2.2.2.2 u_12 true) (fun u_14 =>
                  L_X3_run_3 f0_n f0_start_n f0_start_rows_n n0_start_rows_byHead n0_pileRows n0_pileTaken n0_pileOnes f1_clauseCount n1_yes h1_yes n1_no h1_no x2 x3 (x4 + (1 : Int32)) u_8.2.1 (f0_nodeCount + (1 : Int32)) f0_modelCount f0_lastModel f0_cut u_14.1 u_14.2.1 u_14.2.2.1 u_14.2.2.2 h0_pileRows h0_pileTaken h0_pileOnes)))
              (some (u_8.2.1, f0_nodeCount + (1 : Int32), f0_modelCount, f0_lastModel, f0_cut, u_8.2.2.1, u_8.2.2.2.1, u_8.2.2.2.2.1, u_8.2.2.2.2.2, h0_pileRows, h0_pileTaken, h0_pileOnes)))))) := by
  show runw (st_X3_run f0_n f0_start_n f0_start_rows_n n0_start_rows_byHead n0_pileRows n0_pileTaken n0_pileOnes f1_clauseCount n1_yes h1_yes n1_no h1_no x2 x3) (x4, f0_pileSize, f0_nodeCount, f0_modelCount, f0_lastModel, f0_cut, f0_start_taken, f0_start_ones, f0_start_rows_impossible, h0_start_rows_byHead, h0_pileRows, h0_pileTaken, h0_pileOnes) = _
  rw [runw_eq]
  show run1 _ (b_X3_run_3 f0_n f0_start_n f0_start_rows_n n0_start_rows_byHead n0_pileRows n0_pileTaken n0_pileOnes f1_clauseCount n1_yes h1_yes n1_no h1_no x2 x3 x4 f0_pileSize f0_nodeCount f0_modelCount f0_lastModel f0_cut f0_start_taken f0_start_ones f0_start_rows_impossible h0_start_rows_byHead h0_pileRows h0_pileTaken h0_pileOnes) = _
  simp only [b_X3_run_3, run1_cif, run1_sbd, run1_inl, run1_inr]
  try rfl
noncomputable def D_X3_run (f0_n : Int32) (f0_pileSize : Int32) (f0_nodeCount : Int32) (f0_modelCount : Int32) (f0_lastModel : Int64) (f0_cut : Bool) (f0_start_n : Int32) (f0_start_taken : Int64) (f0_start_ones : Int64) (f0_start_rows_n : Int32) (f0_start_rows_impossible : Bool) (n0_start_rows_byHead : Nat) (h0_start_rows_byHead : Nat → Int64) (n0_pileRows : Nat) (h0_pileRows : Nat → Int64) (n0_pileTaken : Nat) (h0_pileTaken : Nat → Int64) (n0_pileOnes : Nat) (h0_pileOnes : Nat → Int64) (f1_clauseCount : Int32) (n1_yes : Nat) (h1_yes : Nat → Int64) (n1_no : Nat) (h1_no : Nat → Int64) (x2 : Int32) (x3 : Bool) : Option (Int32 × Int32 × Int32 × Int64 × Bool × Int64 × Int64 × Bool × (Nat → Int64) × (Nat → Int64) × (Nat → Int64) × (Nat → Int64)) :=
  L_X3_run_3 f0_n f0_start_n f0_start_rows_n n0_start_rows_byHead n0_pileRows n0_pileTaken n0_pileOnes f1_clauseCount n1_yes h1_yes n1_no h1_no x2 x3 (0 : Int32) f0_pileSize f0_nodeCount f0_modelCount f0_lastModel f0_cut f0_start_taken f0_start_ones f0_start_rows_impossible h0_start_rows_byHead h0_pileRows h0_pileTaken h0_pileOnes
noncomputable def D_X4_addEquation (f0_equationCount : Int32) (n0_equations : Nat) (h0_equations : Nat → Int64) (x1 : Int64) : Option (Bool × Int32 × (Nat → Int64)) :=
  cif (f0_equationCount < (60 : Int32))
    (cif (vp_in f0_equationCount n0_equations)
      (some (true, f0_equationCount + (1 : Int32), vp_updL h0_equations f0_equationCount.toNatClampNeg x1))
      (none))
    (some (false, f0_equationCount, h0_equations))
noncomputable def D_X4_addClause (f0_clauseCount : Int32) (n0_yes : Nat) (h0_yes : Nat → Int64) (n0_no : Nat) (h0_no : Nat → Int64) (x1 : Int64) (x3 : Int64) : Option (Bool × Int32 × (Nat → Int64) × (Nat → Int64)) :=
  cif (f0_clauseCount < (60 : Int32))
    (cif (vp_in f0_clauseCount n0_yes)
      (cif (vp_in f0_clauseCount n0_no)
        (some (true, f0_clauseCount + (1 : Int32), vp_updL h0_yes f0_clauseCount.toNatClampNeg x1, vp_updL h0_no f0_clauseCount.toNatClampNeg x3))
        (none))
      (none))
    (some (false, f0_clauseCount, h0_yes, h0_no))
noncomputable def D_X4_addLevel (f0_equationCount : Int32) (f0_clauseCount : Int32) (f0_levelCount : Int32) (n0_equationsBefore : Nat) (h0_equationsBefore : Nat → Int32) (n0_clausesBefore : Nat) (h0_clausesBefore : Nat → Int32) : Option (Int32 × (Nat → Int32) × (Nat → Int32)) :=
  cif ((20 : Int32) ≤ f0_levelCount)
    (some (f0_levelCount, h0_equationsBefore, h0_clausesBefore))
    (cif (vp_in f0_levelCount n0_equationsBefore)
      (cif (vp_in f0_levelCount n0_clausesBefore)
        (some (f0_levelCount + (1 : Int32), upd h0_equationsBefore f0_levelCount.toNatClampNeg f0_equationCount, upd h0_clausesBefore f0_levelCount.toNatClampNeg f0_clauseCount))
        (none))
      (none))
noncomputable def D_X4_cutTo (f0_equationCount : Int32) (f0_clauseCount : Int32) (x1 : Int32) (x2 : Int32) : Option (Int32 × Int32) :=
  some (x1, x2)
noncomputable def D_X4_takeBackTo (f0_equationCount : Int32) (f0_clauseCount : Int32) (f0_levelCount : Int32) (n0_equationsBefore : Nat) (h0_equationsBefore : Nat → Int32) (n0_clausesBefore : Nat) (h0_clausesBefore : Nat → Int32) (x1 : Int32) : Option (Int32 × Int32 × Int32) :=
  cif (x1 < 0)
    (some (f0_equationCount, f0_clauseCount, f0_levelCount))
    (cif (f0_levelCount ≤ x1)
      (some (f0_equationCount, f0_clauseCount, f0_levelCount))
      (cif (vp_in x1 n0_equationsBefore)
        (cif (vp_in x1 n0_clausesBefore)
          (Option.bind (D_X4_cutTo f0_equationCount f0_clauseCount (h0_equationsBefore x1.toNatClampNeg) (h0_clausesBefore x1.toNatClampNeg)) (fun u_7 =>
            some (u_7.1, u_7.2, x1)))
          (none))
        (none)))
abbrev S_X5_takeAll : Type := (Int32 × Int64 × Int64 × Bool × (Nat → Int64))
noncomputable def b_X5_takeAll_3 (f0_n : Int32) (f0_rows_n : Int32) (n0_rows_byHead : Nat) (x1 : Int64) (x3 : Int64) (x5 : Int32) (f0_taken : Int64) (f0_ones : Int64) (f0_rows_impossible : Bool) (h0_rows_byHead : Nat → Int64) : Option (Int64 × Int64 × Bool × (Nat → Int64)) ⊕ S_X5_takeAll :=
  cif (f0_n ≤ x5)
    (.inl (some (f0_taken, f0_ones, f0_rows_impossible, h0_rows_byHead)))
    (cif (((jushr (x1 ||| x3) x5) &&& (1 : Int64)) = (0 : Int64))
      (.inr (x5 + (1 : Int32), f0_taken, f0_ones, f0_rows_impossible, h0_rows_byHead))
      (cif (((jushr x1 x5) &&& (1 : Int64)) = (0 : Int64))
        (sbd (D_X5_take f0_taken f0_ones f0_rows_n f0_rows_impossible n0_rows_byHead h0_rows_byHead x5 false) (fun u_7 =>
          .inr (x5 + (1 : Int32), u_7.1, u_7.2.1, u_7.2.2.1, u_7.2.2.2)))
        (sbd (D_X5_take f0_taken f0_ones f0_rows_n f0_rows_impossible n0_rows_byHead h0_rows_byHead x5 true) (fun u_9 =>
          .inr (x5 + (1 : Int32), u_9.1, u_9.2.1, u_9.2.2.1, u_9.2.2.2)))))
noncomputable def st_X5_takeAll (f0_n : Int32) (f0_rows_n : Int32) (n0_rows_byHead : Nat) (x1 : Int64) (x3 : Int64) : S_X5_takeAll → Option (Int64 × Int64 × Bool × (Nat → Int64)) ⊕ S_X5_takeAll := fun x => match x with
  | (x5, f0_taken, f0_ones, f0_rows_impossible, h0_rows_byHead) => b_X5_takeAll_3 f0_n f0_rows_n n0_rows_byHead x1 x3 x5 f0_taken f0_ones f0_rows_impossible h0_rows_byHead
noncomputable def L_X5_takeAll_3 (f0_n : Int32) (f0_rows_n : Int32) (n0_rows_byHead : Nat) (x1 : Int64) (x3 : Int64) (x5 : Int32) (f0_taken : Int64) (f0_ones : Int64) (f0_rows_impossible : Bool) (h0_rows_byHead : Nat → Int64) : Option (Int64 × Int64 × Bool × (Nat → Int64)) := runw (st_X5_takeAll f0_n f0_rows_n n0_rows_byHead x1 x3) (x5, f0_taken, f0_ones, f0_rows_impossible, h0_rows_byHead)
theorem E_X5_takeAll_3 (f0_n : Int32) (f0_rows_n : Int32) (n0_rows_byHead : Nat) (x1 : Int64) (x3 : Int64) (x5 : Int32) (f0_taken : Int64) (f0_ones : Int64) (f0_rows_impossible : Bool) (h0_rows_byHead : Nat → Int64) : L_X5_takeAll_3 f0_n f0_rows_n n0_rows_byHead x1 x3 x5 f0_taken f0_ones f0_rows_impossible h0_rows_byHead =
    cif (f0_n ≤ x5)
      (some (f0_taken, f0_ones, f0_rows_impossible, h0_rows_byHead))
      (cif (((jushr (x1 ||| x3) x5) &&& (1 : Int64)) = (0 : Int64))
        (L_X5_takeAll_3 f0_n f0_rows_n n0_rows_byHead x1 x3 (x5 + (1 : Int32)) f0_taken f0_ones f0_rows_impossible h0_rows_byHead)
        (cif (((jushr x1 x5) &&& (1 : Int64)) = (0 : Int64))
          (Option.bind (D_X5_take f0_taken f0_ones f0_rows_n f0_rows_impossible n0_rows_byHead h0_rows_byHead x5 false) (fun u_7 =>
            L_X5_takeAll_3 f0_n f0_rows_n n0_rows_byHead x1 x3 (x5 + (1 : Int32)) u_7.1 u_7.2.1 u_7.2.2.1 u_7.2.2.2))
          (Option.bind (D_X5_take f0_taken f0_ones f0_rows_n f0_rows_impossible n0_rows_byHead h0_rows_byHead x5 true) (fun u_9 =>
            L_X5_takeAll_3 f0_n f0_rows_n n0_rows_byHead x1 x3 (x5 + (1 : Int32)) u_9.1 u_9.2.1 u_9.2.2.1 u_9.2.2.2)))) := by
  show runw (st_X5_takeAll f0_n f0_rows_n n0_rows_byHead x1 x3) (x5, f0_taken, f0_ones, f0_rows_impossible, h0_rows_byHead) = _
  rw [runw_eq]
  show run1 _ (b_X5_takeAll_3 f0_n f0_rows_n n0_rows_byHead x1 x3 x5 f0_taken f0_ones f0_rows_impossible h0_rows_byHead) = _
  simp only [b_X5_takeAll_3, run1_cif, run1_sbd, run1_inl, run1_inr]
  try rfl
noncomputable def D_X5_takeAll (f0_n : Int32) (f0_taken : Int64) (f0_ones : Int64) (f0_rows_n : Int32) (f0_rows_impossible : Bool) (n0_rows_byHead : Nat) (h0_rows_byHead : Nat → Int64) (x1 : Int64) (x3 : Int64) : Option (Int64 × Int64 × Bool × (Nat → Int64)) :=
  L_X5_takeAll_3 f0_n f0_rows_n n0_rows_byHead x1 x3 (0 : Int32) f0_taken f0_ones f0_rows_impossible h0_rows_byHead
abbrev S_X5_takeByNumber : Type := (Int32 × Int32 × Int64 × Int64 × Bool × (Nat → Int64))
noncomputable def b_X5_takeByNumber_6 (f0_n : Int32) (f0_rows_n : Int32) (n0_rows_byHead : Nat) (x1 : Int64) (x3 : Int32) (x4 : Int32) (x5 : Int32) (f0_taken : Int64) (f0_ones : Int64) (f0_rows_impossible : Bool) (h0_rows_byHead : Nat → Int64) : Option (Int64 × Int64 × Int64 × Bool × (Nat → Int64)) ⊕ S_X5_takeByNumber :=
  cif (f0_n ≤ x5)
    (.inl (some (f0_ones, f0_taken, f0_ones, f0_rows_impossible, h0_rows_byHead)))
    (sbd (D_X5_hasOneValue n0_rows_byHead h0_rows_byHead x5) (fun u_3 =>
      cif (u_3 = true)
        (cif (vp_in x5 n0_rows_byHead)
          (cif ((h0_rows_byHead x5.toNatClampNeg) = (jshl (1 : Int64) x5))
            (sbd (D_X5_take f0_taken f0_ones f0_rows_n f0_rows_impossible n0_rows_byHead h0_rows_byHead x5 false) (fun u_16 =>
              .inr (x4, x5 + (1 : Int32), u_16.1, u_16.2.1, u_16.2.2.1, u_16.2.2.2)))
            (sbd (D_X5_take f0_taken f0_ones f0_rows_n f0_rows_impossible n0_rows_byHead h0_rows_byHead x5 true) (fun u_18 =>
              .inr (x4, x5 + (1 : Int32), u_18.1, u_18.2.1, u_18.2.2.1, u_18.2.2.2))))
          (.inl none))
        (cif (((jushr x1 (x4 + (-1 : Int32))) &&& (1 : Int64)) = (0 : Int64))
          (sbd (D_X5_take f0_taken f0_ones f0_rows_n f0_rows_impossible n0_rows_byHead h0_rows_byHead x5 false) (fun u_9 =>
            .inr (x4 + (-1 : Int32), x5 + (1 : Int32), u_9.1, u_9.2.1, u_9.2.2.1, u_9.2.2.2)))
          (sbd (D_X5_take f0_taken f0_ones f0_rows_n f0_rows_impossible n0_rows_byHead h0_rows_byHead x5 true) (fun u_11 =>
            .inr (x4 + (-1 : Int32), x5 + (1 : Int32), u_11.1, u_11.2.1, u_11.2.2.1, u_11.2.2.2))))))
noncomputable def st_X5_takeByNumber (f0_n : Int32) (f0_rows_n : Int32) (n0_rows_byHead : Nat) (x1 : Int64) (x3 : Int32) : S_X5_takeByNumber → Option (Int64 × Int64 × Int64 × Bool × (Nat → Int64)) ⊕ S_X5_takeByNumber := fun x => match x with
  | (x4, x5, f0_taken, f0_ones, f0_rows_impossible, h0_rows_byHead) => b_X5_takeByNumber_6 f0_n f0_rows_n n0_rows_byHead x1 x3 x4 x5 f0_taken f0_ones f0_rows_impossible h0_rows_byHead
noncomputable def L_X5_takeByNumber_6 (f0_n : Int32) (f0_rows_n : Int32) (n0_rows_byHead : Nat) (x1 : Int64) (x3 : Int32) (x4 : Int32) (x5 : Int32) (f0_taken : Int64) (f0_ones : Int64) (f0_rows_impossible : Bool) (h0_rows_byHead : Nat → Int64) : Option (Int64 × Int64 × Int64 × Bool × (Nat → Int64)) := runw (st_X5_takeByNumber f0_n f0_rows_n n0_rows_byHead x1 x3) (x4, x5, f0_taken, f0_ones, f0_rows_impossible, h0_rows_byHead)
theorem E_X5_takeByNumber_6 (f0_n : Int32) (f0_rows_n : Int32) (n0_rows_byHead : Nat) (x1 : Int64) (x3 : Int32) (x4 : Int32) (x5 : Int32) (f0_taken : Int64) (f0_ones : Int64) (f0_rows_impossible : Bool) (h0_rows_byHead : Nat → Int64) : L_X5_takeByNumber_6 f0_n f0_rows_n n0_rows_byHead x1 x3 x4 x5 f0_taken f0_ones f0_rows_impossible h0_rows_byHead =
    cif (f0_n ≤ x5)
      (some (f0_ones, f0_taken, f0_ones, f0_rows_impossible, h0_rows_byHead))
      (Option.bind (D_X5_hasOneValue n0_rows_byHead h0_rows_byHead x5) (fun u_3 =>
        cif (u_3 = true)
          (cif (vp_in x5 n0_rows_byHead)
            (cif ((h0_rows_byHead x5.toNatClampNeg) = (jshl (1 : Int64) x5))
              (Option.bind (D_X5_take f0_taken f0_ones f0_rows_n f0_rows_impossible n0_rows_byHead h0_rows_byHead x5 false) (fun u_16 =>
                L_X5_takeByNumber_6 f0_n f0_rows_n n0_rows_byHead x1 x3 x4 (x5 + (1 : Int32)) u_16.1 u_16.2.1 u_16.2.2.1 u_16.2.2.2))
              (Option.bind (D_X5_take f0_taken f0_ones f0_rows_n f0_rows_impossible n0_rows_byHead h0_rows_byHead x5 true) (fun u_18 =>
                L_X5_takeByNumber_6 f0_n f0_rows_n n0_rows_byHead x1 x3 x4 (x5 + (1 : Int32)) u_18.1 u_18.2.1 u_18.2.2.1 u_18.2.2.2)))
            (none))
          (cif (((jushr x1 (x4 + (-1 : Int32))) &&& (1 : Int64)) = (0 : Int64))
            (Option.bind (D_X5_take f0_taken f0_ones f0_rows_n f0_rows_impossible n0_rows_byHead h0_rows_byHead x5 false) (fun u_9 =>
              L_X5_takeByNumber_6 f0_n f0_rows_n n0_rows_byHead x1 x3 (x4 + (-1 : Int32)) (x5 + (1 : Int32)) u_9.1 u_9.2.1 u_9.2.2.1 u_9.2.2.2))
            (Option.bind (D_X5_take f0_taken f0_ones f0_rows_n f0_rows_impossible n0_rows_byHead h0_rows_byHead x5 true) (fun u_11 =>
              L_X5_takeByNumber_6 f0_n f0_rows_n n0_rows_byHead x1 x3 (x4 + (-1 : Int32)) (x5 + (1 : Int32)) u_11.1 u_11.2.1 u_11.2.2.1 u_11.2.2.2))))) := by
  show runw (st_X5_takeByNumber f0_n f0_rows_n n0_rows_byHead x1 x3) (x4, x5, f0_taken, f0_ones, f0_rows_impossible, h0_rows_byHead) = _
  rw [runw_eq]
  show run1 _ (b_X5_takeByNumber_6 f0_n f0_rows_n n0_rows_byHead x1 x3 x4 x5 f0_taken f0_ones f0_rows_impossible h0_rows_byHead) = _
  simp only [b_X5_takeByNumber_6, run1_cif, run1_sbd, run1_inl, run1_inr]
  try rfl
noncomputable def D_X5_takeByNumber (f0_n : Int32) (f0_taken : Int64) (f0_ones : Int64) (f0_rows_n : Int32) (f0_rows_impossible : Bool) (n0_rows_byHead : Nat) (h0_rows_byHead : Nat → Int64) (x1 : Int64) (x3 : Int32) : Option (Int64 × Int64 × Int64 × Bool × (Nat → Int64)) :=
  L_X5_takeByNumber_6 f0_n f0_rows_n n0_rows_byHead x1 x3 x3 (0 : Int32) f0_taken f0_ones f0_rows_impossible h0_rows_byHead
noncomputable def D_X6_put (f0_length : Int32) (n0_bytes : Nat) (h0_bytes : Nat → Int32) (x1 : Int32) : Option (Int32 × (Nat → Int32)) :=
  cif ((500 : Int32) ≤ f0_length)
    (some (f0_length, h0_bytes))
    (cif (vp_in f0_length n0_bytes)
      (some (f0_length + (1 : Int32), upd h0_bytes f0_length.toNatClampNeg x1))
      (none))
noncomputable def D_X6_byteAt (f0_length : Int32) (n0_bytes : Nat) (h0_bytes : Nat → Int32) (x1 : Int32) : Option (Int32) :=
  cif (x1 < 0)
    (some (-1 : Int32))
    (cif (f0_length ≤ x1)
      (some (-1 : Int32))
      (cif ((500 : Int32) ≤ x1)
        (some (-1 : Int32))
        (cif (vp_in x1 n0_bytes)
          (some (h0_bytes x1.toNatClampNeg))
          (none))))
noncomputable def D_X6_isBlank (x0 : Int32) : Option (Bool) :=
  cif (x0 = (32 : Int32))
    (some true)
    (cif (x0 = (10 : Int32))
      (some true)
      (some false))
abbrev S_X6_skipBlanks : Type := (Int32 × Int32)
noncomputable def b_X6_skipBlanks_2 (f0_length : Int32) (n0_bytes : Nat) (h0_bytes : Nat → Int32) (x1 : Int32) (f0_place : Int32) : Option (Int32) ⊕ S_X6_skipBlanks :=
  cif ((500 : Int32) ≤ x1)
    (.inl (some f0_place))
    (sbd (D_X6_byteAt f0_length n0_bytes h0_bytes f0_place) (fun u_3 =>
      sbd (D_X6_isBlank u_3) (fun u_5 =>
        cif (u_5 = true)
          (.inr (x1 + (1 : Int32), f0_place + (1 : Int32)))
          (.inl (some f0_place)))))
noncomputable def st_X6_skipBlanks (f0_length : Int32) (n0_bytes : Nat) (h0_bytes : Nat → Int32) : S_X6_skipBlanks → Option (Int32) ⊕ S_X6_skipBlanks := fun x => match x with
  | (x1, f0_place) => b_X6_skipBlanks_2 f0_length n0_bytes h0_bytes x1 f0_place
noncomputable def L_X6_skipBlanks_2 (f0_length : Int32) (n0_bytes : Nat) (h0_bytes : Nat → Int32) (x1 : Int32) (f0_place : Int32) : Option (Int32) := runw (st_X6_skipBlanks f0_length n0_bytes h0_bytes) (x1, f0_place)
theorem E_X6_skipBlanks_2 (f0_length : Int32) (n0_bytes : Nat) (h0_bytes : Nat → Int32) (x1 : Int32) (f0_place : Int32) : L_X6_skipBlanks_2 f0_length n0_bytes h0_bytes x1 f0_place =
    cif ((500 : Int32) ≤ x1)
      (some f0_place)
      (Option.bind (D_X6_byteAt f0_length n0_bytes h0_bytes f0_place) (fun u_3 =>
        Option.bind (D_X6_isBlank u_3) (fun u_5 =>
          cif (u_5 = true)
            (L_X6_skipBlanks_2 f0_length n0_bytes h0_bytes (x1 + (1 : Int32)) (f0_place + (1 : Int32)))
            (some f0_place)))) := by
  show runw (st_X6_skipBlanks f0_length n0_bytes h0_bytes) (x1, f0_place) = _
  rw [runw_eq]
  show run1 _ (b_X6_skipBlanks_2 f0_length n0_bytes h0_bytes x1 f0_place) = _
  simp only [b_X6_skipBlanks_2, run1_cif, run1_sbd, run1_inl, run1_inr]
  try rfl
noncomputable def D_X6_skipBlanks (f0_length : Int32) (f0_place : Int32) (n0_bytes : Nat) (h0_bytes : Nat → Int32) : Option (Int32) :=
  L_X6_skipBlanks_2 f0_length n0_bytes h0_bytes (0 : Int32) f0_place
noncomputable def D_X6_fail (f0_fault : Int32) (f0_place : Int32) (x1 : Int32) (x2 : Int32) : Option (Bool × Int32 × Int32) :=
  some (false, x1, x2)
noncomputable def D_X6_isFigure (x0 : Int32) : Option (Bool) :=
  cif (x0 < (48 : Int32))
    (some false)
    (cif ((57 : Int32) < x0)
      (some false)
      (some true))
abbrev S_X6_readNumber : Type := (Int32 × Int32 × Int32)
noncomputable def b_X6_readNumber_4 (f0_length : Int32) (n0_bytes : Nat) (h0_bytes : Nat → Int32) (x1 : Int32) (x2 : Int32) (f0_place : Int32) : Option (Int32 × Int32) ⊕ S_X6_readNumber :=
  cif ((500 : Int32) ≤ x2)
    (.inl (some (x1, f0_place)))
    (sbd (D_X6_byteAt f0_length n0_bytes h0_bytes f0_place) (fun u_3 =>
      sbd (D_X6_isFigure u_3) (fun u_5 =>
        cif (u_5 = true)
          (sbd (D_X6_byteAt f0_length n0_bytes h0_bytes f0_place) (fun u_9 =>
            .inr (jmin (((x1 * (10 : Int32)) + u_9) - (48 : Int32)) (41 : Int32), x2 + (1 : Int32), f0_place + (1 : Int32))))
          (.inl (some (x1, f0_place))))))
noncomputable def st_X6_readNumber (f0_length : Int32) (n0_bytes : Nat) (h0_bytes : Nat → Int32) : S_X6_readNumber → Option (Int32 × Int32) ⊕ S_X6_readNumber := fun x => match x with
  | (x1, x2, f0_place) => b_X6_readNumber_4 f0_length n0_bytes h0_bytes x1 x2 f0_place
noncomputable def L_X6_readNumber_4 (f0_length : Int32) (n0_bytes : Nat) (h0_bytes : Nat → Int32) (x1 : Int32) (x2 : Int32) (f0_place : Int32) : Option (Int32 × Int32) := runw (st_X6_readNumber f0_length n0_bytes h0_bytes) (x1, x2, f0_place)
theorem E_X6_readNumber_4 (f0_length : Int32) (n0_bytes : Nat) (h0_bytes : Nat → Int32) (x1 : Int32) (x2 : Int32) (f0_place : Int32) : L_X6_readNumber_4 f0_length n0_bytes h0_bytes x1 x2 f0_place =
    cif ((500 : Int32) ≤ x2)
      (some (x1, f0_place))
      (Option.bind (D_X6_byteAt f0_length n0_bytes h0_bytes f0_place) (fun u_3 =>
        Option.bind (D_X6_isFigure u_3) (fun u_5 =>
          cif (u_5 = true)
            (Option.bind (D_X6_byteAt f0_length n0_bytes h0_bytes f0_place) (fun u_9 =>
              L_X6_readNumber_4 f0_length n0_bytes h0_bytes (jmin (((x1 * (10 : Int32)) + u_9) - (48 : Int32)) (41 : Int32)) (x2 + (1 : Int32)) (f0_place + (1 : Int32))))
            (some (x1, f0_place))))) := by
  show runw (st_X6_readNumber f0_length n0_bytes h0_bytes) (x1, x2, f0_place) = _
  rw [runw_eq]
  show run1 _ (b_X6_readNumber_4 f0_length n0_bytes h0_bytes x1 x2 f0_place) = _
  simp only [b_X6_readNumber_4, run1_cif, run1_sbd, run1_inl, run1_inr]
  try rfl
noncomputable def D_X6_readNumber (f0_length : Int32) (f0_place : Int32) (n0_bytes : Nat) (h0_bytes : Nat → Int32) : Option (Int32 × Int32) :=
  L_X6_readNumber_4 f0_length n0_bytes h0_bytes (0 : Int32) (0 : Int32) f0_place
noncomputable def D_X6_addLiteral (f0_isEquation : Bool) (f0_first : Int64) (f0_second : Int64) (f0_rightIsOne : Bool) (x1 : Int64) (x3 : Bool) : Option (Int64 × Int64 × Bool) :=
  cif (f0_isEquation = true)
    (cif ((bI f0_rightIsOne) = (bI x3))
      (some (f0_first ^^^ x1, f0_second, false))
      (some (f0_first ^^^ x1, f0_second, true)))
    (cif (x3 = true)
      (some (f0_first, f0_second ||| x1, f0_rightIsOne))
      (some (f0_first ||| x1, f0_second, f0_rightIsOne)))
noncomputable def D_X6_readLiteral (f0_length : Int32) (f0_fault : Int32) (f0_place : Int32) (f0_isEquation : Bool) (f0_first : Int64) (f0_second : Int64) (f0_rightIsOne : Bool) (n0_bytes : Nat) (h0_bytes : Nat → Int32) (x1 : Int32) : Option (Bool × Int32 × Int32 × Int64 × Int64 × Bool) :=
  Option.bind (D_X6_byteAt f0_length n0_bytes h0_bytes f0_place) (fun u_1 =>
    cif (u_1 = (45 : Int32))
      (Option.bind (D_X6_byteAt f0_length n0_bytes h0_bytes (f0_place + (1 : Int32))) (fun u_37 =>
        cif (u_37 = (48 : Int32))
          (Option.bind (D_X6_fail f0_fault (f0_place + (1 : Int32)) (1 : Int32) (f0_place + (1 : Int32))) (fun u_41 =>
            some (u_41.1, u_41.2.1, u_41.2.2, f0_first, f0_second, f0_rightIsOne)))
          (Option.bind (D_X6_byteAt f0_length n0_bytes h0_bytes (f0_place + (1 : Int32))) (fun u_43 =>
            Option.bind (D_X6_isFigure u_43) (fun u_45 =>
              cif (u_45 = true)
                (Option.bind (D_X6_readNumber f0_length (f0_place + (1 : Int32)) n0_bytes h0_bytes) (fun u_49 =>
                  cif (u_49.1 ≤ x1)
                    (Option.bind (D_X6_byteAt f0_length n0_bytes h0_bytes u_49.2) (fun u_53 =>
                      Option.bind (D_X6_isBlank u_53) (fun u_55 =>
                        cif (u_55 = true)
                          (Option.bind (D_X6_addLiteral f0_isEquation f0_first f0_second f0_rightIsOne (jshl (1 : Int64) (u_49.1 - (1 : Int32))) true) (fun u_59 =>
                            some (true, f0_fault, u_49.2, u_59.1, u_59.2.1, u_59.2.2)))
                          (Option.bind (D_X6_fail f0_fault u_49.2 (1 : Int32) u_49.2) (fun u_61 =>
                            some (u_61.1, u_61.2.1, u_61.2.2, f0_first, f0_second, f0_rightIsOne))))))
                    (Option.bind (D_X6_fail f0_fault u_49.2 (2 : Int32) (f0_place + (1 : Int32))) (fun u_63 =>
                      some (u_63.1, u_63.2.1, u_63.2.2, f0_first, f0_second, f0_rightIsOne)))))
                (Option.bind (D_X6_fail f0_fault (f0_place + (1 : Int32)) (1 : Int32) (f0_place + (1 : Int32))) (fun u_65 =>
                  some (u_65.1, u_65.2.1, u_65.2.2, f0_first, f0_second, f0_rightIsOne))))))))
      (Option.bind (D_X6_byteAt f0_length n0_bytes h0_bytes f0_place) (fun u_6 =>
        cif (u_6 = (48 : Int32))
          (Option.bind (D_X6_fail f0_fault f0_place (1 : Int32) f0_place) (fun u_10 =>
            some (u_10.1, u_10.2.1, u_10.2.2, f0_first, f0_second, f0_rightIsOne)))
          (Option.bind (D_X6_byteAt f0_length n0_bytes h0_bytes f0_place) (fun u_12 =>
            Option.bind (D_X6_isFigure u_12) (fun u_14 =>
              cif (u_14 = true)
                (Option.bind (D_X6_readNumber f0_length f0_place n0_bytes h0_bytes) (fun u_18 =>
                  cif (u_18.1 ≤ x1)
                    (Option.bind (D_X6_byteAt f0_length n0_bytes h0_bytes u_18.2) (fun u_22 =>
                      Option.bind (D_X6_isBlank u_22) (fun u_24 =>
                        cif (u_24 = true)
                          (Option.bind (D_X6_addLiteral f0_isEquation f0_first f0_second f0_rightIsOne (jshl (1 : Int64) (u_18.1 - (1 : Int32))) false) (fun u_28 =>
                            some (true, f0_fault, u_18.2, u_28.1, u_28.2.1, u_28.2.2)))
                          (Option.bind (D_X6_fail f0_fault u_18.2 (1 : Int32) u_18.2) (fun u_30 =>
                            some (u_30.1, u_30.2.1, u_30.2.2, f0_first, f0_second, f0_rightIsOne))))))
                    (Option.bind (D_X6_fail f0_fault u_18.2 (2 : Int32) f0_place) (fun u_32 =>
                      some (u_32.1, u_32.2.1, u_32.2.2, f0_first, f0_second, f0_rightIsOne)))))
                (Option.bind (D_X6_fail f0_fault f0_place (1 : Int32) f0_place) (fun u_34 =>
                  some (u_34.1, u_34.2.1, u_34.2.2, f0_first, f0_second, f0_rightIsOne)))))))))
abbrev S_X6_readLine : Type := (Int32 × Int32 × Int32 × Bool × Int64 × Int64 × Bool)
noncomputable def b_X6_readLine_80 (f0_length : Int32) (n0_bytes : Nat) (h0_bytes : Nat → Int32) (x1 : Int32) (x2 : Int32) (f0_fault : Int32) (f0_place : Int32) (f0_isEquation : Bool) (f0_first : Int64) (f0_second : Int64) (f0_rightIsOne : Bool) : Option (Bool × Int32 × Int32 × Bool × Int64 × Int64 × Bool) ⊕ S_X6_readLine :=
  cif ((500 : Int32) < x2)
    (sbd (D_X6_fail f0_fault f0_place (1 : Int32) f0_place) (fun u_27 =>
      .inl (some (u_27.1, u_27.2.1, u_27.2.2, f0_isEquation, f0_first, f0_second, f0_rightIsOne))))
    (sbd (D_X6_skipBlanks f0_length f0_place n0_bytes h0_bytes) (fun u_29 =>
      sbd (D_X6_byteAt f0_length n0_bytes h0_bytes u_29) (fun u_31 =>
        cif (u_31 = (48 : Int32))
          (.inl (some (true, f0_fault, u_29, f0_isEquation, f0_first, f0_second, f0_rightIsOne)))
          (sbd (D_X6_readLiteral f0_length f0_fault u_29 f0_isEquation f0_first f0_second f0_rightIsOne n0_bytes h0_bytes x1) (fun u_35 =>
            cif (u_35.1 = true)
              (.inr (x2 + (1 : Int32), u_35.2.1, u_35.2.2.1, f0_isEquation, u_35.2.2.2.1, u_35.2.2.2.2.1, u_35.2.2.2.2.2))
              (.inl (some (false, u_35.2.1, u_35.2.2.1, f0_isEquation, u_35.2.2.2.1, u_35.2.2.2.2.1, u_35.2.2.2.2.2))))))))
noncomputable def st_X6_readLine (f0_length : Int32) (n0_bytes : Nat) (h0_bytes : Nat → Int32) (x1 : Int32) : S_X6_readLine → Option (Bool × Int32 × Int32 × Bool × Int64 × Int64 × Bool) ⊕ S_X6_readLine := fun x => match x with
  | (x2, f0_fault, f0_place, f0_isEquation, f0_first, f0_second, f0_rightIsOne) => b_X6_readLine_80 f0_length n0_bytes h0_bytes x1 x2 f0_fault f0_place f0_isEquation f0_first f0_second f0_rightIsOne
noncomputable def L_X6_readLine_80 (f0_length : Int32) (n0_bytes : Nat) (h0_bytes : Nat → Int32) (x1 : Int32) (x2 : Int32) (f0_fault : Int32) (f0_place : Int32) (f0_isEquation : Bool) (f0_first : Int64) (f0_second : Int64) (f0_rightIsOne : Bool) : Option (Bool × Int32 × Int32 × Bool × Int64 × Int64 × Bool) := runw (st_X6_readLine f0_length n0_bytes h0_bytes x1) (x2, f0_fault, f0_place, f0_isEquation, f0_first, f0_second, f0_rightIsOne)
theorem E_X6_readLine_80 (f0_length : Int32) (n0_bytes : Nat) (h0_bytes : Nat → Int32) (x1 : Int32) (x2 : Int32) (f0_fault : Int32) (f0_place : Int32) (f0_isEquation : Bool) (f0_first : Int64) (f0_second : Int64) (f0_rightIsOne : Bool) : L_X6_readLine_80 f0_length n0_bytes h0_bytes x1 x2 f0_fault f0_place f0_isEquation f0_first f0_second f0_rightIsOne =
    cif ((500 : Int32) < x2)
      (Option.bind (D_X6_fail f0_fault f0_place (1 : Int32) f0_place) (fun u_27 =>
        some (u_27.1, u_27.2.1, u_27.2.2, f0_isEquation, f0_first, f0_second, f0_rightIsOne)))
      (Option.bind (D_X6_skipBlanks f0_length f0_place n0_bytes h0_bytes) (fun u_29 =>
        Option.bind (D_X6_byteAt f0_length n0_bytes h0_bytes u_29) (fun u_31 =>
          cif (u_31 = (48 : Int32))
            (some (true, f0_fault, u_29, f0_isEquation, f0_first, f0_second, f0_rightIsOne))
            (Option.bind (D_X6_readLiteral f0_length f0_fault u_29 f0_isEquation f0_first f0_second f0_rightIsOne n0_bytes h0_bytes x1) (fun u_35 =>
              cif (u_35.1 = true)
                (L_X6_readLine_80 f0_length n0_bytes h0_bytes x1 (x2 + (1 : Int32)) u_35.2.1 u_35.2.2.1 f0_isEquation u_35.2.2.2.1 u_35.2.2.2.2.1 u_35.2.2.2.2.2)
                (some (false, u_35.2.1, u_35.2.2.1, f0_isEquation, u_35.2.2.2.1, u_35.2.2.2.2.1, u_35.2.2.2.2.2))))))) := by
  show runw (st_X6_readLine f0_length n0_bytes h0_bytes x1) (x2, f0_fault, f0_place, f0_isEquation, f0_first, f0_second, f0_rightIsOne) = _
  rw [runw_eq]
  show run1 _ (b_X6_readLine_80 f0_length n0_bytes h0_bytes x1 x2 f0_fault f0_place f0_isEquation f0_first f0_second f0_rightIsOne) = _
  simp only [b_X6_readLine_80, run1_cif, run1_sbd, run1_inl, run1_inr]
  try rfl
noncomputable def D_X6_readLine (f0_length : Int32) (f0_fault : Int32) (f0_place : Int32) (f0_isEquation : Bool) (f0_first : Int64) (f0_second : Int64) (f0_rightIsOne : Bool) (n0_bytes : Nat) (h0_bytes : Nat → Int32) (x1 : Int32) : Option (Bool × Int32 × Int32 × Bool × Int64 × Int64 × Bool) :=
  Option.bind (D_X6_byteAt f0_length n0_bytes h0_bytes f0_place) (fun u_1 =>
    cif (u_1 = (120 : Int32))
      (cif (true = true)
        (Option.bind (D_X6_byteAt f0_length n0_bytes h0_bytes (f0_place + (1 : Int32))) (fun u_17 =>
          Option.bind (D_X6_isBlank u_17) (fun u_19 =>
            cif (u_19 = true)
              (L_X6_readLine_80 f0_length n0_bytes h0_bytes x1 (0 : Int32) f0_fault (f0_place + (1 : Int32)) true (0 : Int64) (0 : Int64) true)
              (Option.bind (D_X6_fail f0_fault (f0_place + (1 : Int32)) (1 : Int32) (f0_place + (1 : Int32))) (fun u_23 =>
                some (u_23.1, u_23.2.1, u_23.2.2, true, (0 : Int64), (0 : Int64), true))))))
        (L_X6_readLine_80 f0_length n0_bytes h0_bytes x1 (0 : Int32) f0_fault f0_place true (0 : Int64) (0 : Int64) true))
      (cif (false = true)
        (Option.bind (D_X6_byteAt f0_length n0_bytes h0_bytes (f0_place + (1 : Int32))) (fun u_7 =>
          Option.bind (D_X6_isBlank u_7) (fun u_9 =>
            cif (u_9 = true)
              (L_X6_readLine_80 f0_length n0_bytes h0_bytes x1 (0 : Int32) f0_fault (f0_place + (1 : Int32)) false (0 : Int64) (0 : Int64) true)
              (Option.bind (D_X6_fail f0_fault (f0_place + (1 : Int32)) (1 : Int32) (f0_place + (1 : Int32))) (fun u_13 =>
                some (u_13.1, u_13.2.1, u_13.2.2, false, (0 : Int64), (0 : Int64), true))))))
        (L_X6_readLine_80 f0_length n0_bytes h0_bytes x1 (0 : Int32) f0_fault f0_place false (0 : Int64) (0 : Int64) true)))
noncomputable def D_X6_keepLine (f0_fault : Int32) (f0_place : Int32) (f0_isEquation : Bool) (f0_first : Int64) (f0_second : Int64) (f0_rightIsOne : Bool) (f1_equationCount : Int32) (f1_clauseCount : Int32) (n1_equations : Nat) (h1_equations : Nat → Int64) (n1_yes : Nat) (h1_yes : Nat → Int64) (n1_no : Nat) (h1_no : Nat → Int64) : Option (Bool × Int32 × Int32 × Int32 × Int32 × (Nat → Int64) × (Nat → Int64) × (Nat → Int64)) :=
  cif (f0_isEquation = true)
    (cif (f0_rightIsOne = true)
      (Option.bind (D_X4_addEquation f1_equationCount n1_equations h1_equations (f0_first ||| (4611686018427387904 : Int64))) (fun u_24 =>
        cif (u_24.1 = true)
          (some (true, f0_fault, f0_place, u_24.2.1, f1_clauseCount, u_24.2.2, h1_yes, h1_no))
          (Option.bind (D_X6_fail f0_fault f0_place (3 : Int32) f0_place) (fun u_28 =>
            cif (u_28.1 = true)
              (some (true, u_28.2.1, u_28.2.2, u_24.2.1, f1_clauseCount, u_24.2.2, h1_yes, h1_no))
              (some (false, u_28.2.1, u_28.2.2, u_24.2.1, f1_clauseCount, u_24.2.2, h1_yes, h1_no))))))
      (Option.bind (D_X4_addEquation f1_equationCount n1_equations h1_equations f0_first) (fun u_16 =>
        cif (u_16.1 = true)
          (some (true, f0_fault, f0_place, u_16.2.1, f1_clauseCount, u_16.2.2, h1_yes, h1_no))
          (Option.bind (D_X6_fail f0_fault f0_place (3 : Int32) f0_place) (fun u_20 =>
            cif (u_20.1 = true)
              (some (true, u_20.2.1, u_20.2.2, u_16.2.1, f1_clauseCount, u_16.2.2, h1_yes, h1_no))
              (some (false, u_20.2.1, u_20.2.2, u_16.2.1, f1_clauseCount, u_16.2.2, h1_yes, h1_no)))))))
    (cif ((f0_first &&& f0_second) = (0 : Int64))
      (Option.bind (D_X4_addClause f1_clauseCount n1_yes h1_yes n1_no h1_no f0_first f0_second) (fun u_6 =>
        cif (u_6.1 = true)
          (some (true, f0_fault, f0_place, f1_equationCount, u_6.2.1, h1_equations, u_6.2.2.1, u_6.2.2.2))
          (Option.bind (D_X6_fail f0_fault f0_place (3 : Int32) f0_place) (fun u_10 =>
            cif (u_10.1 = true)
              (some (true, u_10.2.1, u_10.2.2, f1_equationCount, u_6.2.1, h1_equations, u_6.2.2.1, u_6.2.2.2))
              (some (false, u_10.2.1, u_10.2.2, f1_equationCount, u_6.2.1, h1_equations, u_6.2.2.1, u_6.2.2.2))))))
      (some (true, f0_fault, f0_place, f1_equationCount, f1_clauseCount, h1_equations, h1_yes, h1_no)))
noncomputable def D_X6_passZero (f0_length : Int32) (f0_fault : Int32) (f0_place : Int32) (n0_bytes : Nat) (h0_bytes : Nat → Int32) : Option (Bool × Int32 × Int32) :=
  Option.bind (D_X6_byteAt f0_length n0_bytes h0_bytes (f0_place + (1 : Int32))) (fun u_1 =>
    cif (u_1 = (-1 : Int32))
      (some (true, f0_fault, f0_place + (1 : Int32)))
      (Option.bind (D_X6_isBlank u_1) (fun u_5 =>
        cif (u_5 = true)
          (some (true, f0_fault, f0_place + (1 : Int32)))
          (Option.bind (D_X6_fail f0_fault (f0_place + (1 : Int32)) (1 : Int32) (f0_place + (1 : Int32))) (fun u_9 =>
            cif (u_9.1 = true)
              (some (true, u_9.2.1, u_9.2.2))
              (some (false, u_9.2.1, u_9.2.2)))))))
abbrev S_X6_readLines : Type := (Int32 × Int32 × Int32 × Int32 × Bool × Int64 × Int64 × Bool × Int32 × Int32 × (Nat → Int64) × (Nat → Int64) × (Nat → Int64))
noncomputable def b_X6_readLines_15 (f0_length : Int32) (n0_bytes : Nat) (h0_bytes : Nat → Int32) (n1_equations : Nat) (n1_yes : Nat) (n1_no : Nat) (x2 : Int32) (x3 : Int32) (x4 : Int32) (f0_fault : Int32) (f0_place : Int32) (f0_isEquation : Bool) (f0_first : Int64) (f0_second : Int64) (f0_rightIsOne : Bool) (f1_equationCount : Int32) (f1_clauseCount : Int32) (h1_equations : Nat → Int64) (h1_yes : Nat → Int64) (h1_no : Nat → Int64) : Option (Int32 × Int32 × Int32 × Bool × Int64 × Int64 × Bool × Int32 × Int32 × (Nat → Int64) × (Nat → Int64) × (Nat → Int64)) ⊕ S_X6_readLines :=
  cif ((500 : Int32) < x4)
    (.inl (some (x3, f0_fault, f0_place, f0_isEquation, f0_first, f0_second, f0_rightIsOne, f1_equationCount, f1_clauseCount, h1_equations, h1_yes, h1_no)))
    (sbd (D_X6_skipBlanks f0_length f0_place n0_bytes h0_bytes) (fun u_3 =>
      cif (u_3 < f0_length)
        (sbd (D_X6_readLine f0_length f0_fault u_3 f0_isEquation f0_first f0_second f0_rightIsOne n0_bytes h0_bytes x2) (fun u_7 =>
          cif (u_7.1 = true)
            (sbd (D_X6_keepLine u_7.2.1 u_7.2.2.1 u_7.2.2.2.1 u_7.2.2.2.2.1 u_7.2.2.2.2.2.1 u_7.2.2.2.2.2.2 f1_equationCount f1_clauseCount n1_equations h1_equations n1_yes h1_yes n1_no h1_no) (fun u_11 =>
              cif (u_11.1 = true)
                (sbd (D_X6_passZero f0_length u_11.2.1 u_11.2.2.1 n0_bytes h0_bytes) (fun u_15 =>
                  cif (u_15.1 = true)
                    (.inr (x3 + (1 : Int32), x4 + (1 : Int32), u_15.2.1, u_15.2.2, u_7.2.2.2.1, u_7.2.2.2.2.1, u_7.2.2.2.2.2.1, u_7.2.2.2.2.2.2, u_11.2.2.2.1, u_11.2.2.2.2.1, u_11.2.2.2.2.2.1, u_11.2.2.2.2.2.2.1, u_11.2.2.2.2.2.2.2))
                    (.inl (some ((-1 : Int32) - u_15.2.2, u_15.2.1, u_15.2.2, u_7.2.2.2.1, u_7.2.2.2.2.1, u_7.2.2.2.2.2.1, u_7.2.2.2.2.2.2, u_11.2.2.2.1, u_11.2.2.2.2.1, u_11.2.2.2.2.2.1, u_11.2.2.2.2.2.2.1, u_11.2.2.2.2.2.2.2)))))
                (.inl (some ((-1 : Int32) - u_11.2.2.1, u_11.2.1, u_11.2.2.1, u_7.2.2.2.1, u_7.2.2.2.2.1, u_7.2.2.2.2.2.1, u_7.2.2.2.2.2.2, u_11.2.2.2.1, u_11.2.2.2.2.1, u_11.2.2.2.2.2.1, u_11.2.2.2.2.2.2.1, u_11.2.2.2.2.2.2.2)))))
            (.inl (some ((-1 : Int32) - u_7.2.2.1, u_7.2.1, u_7.2.2.1, u_7.2.2.2.1, u_7.2.2.2.2.1, u_7.2.2.2.2.2.1, u_7.2.2.2.2.2.2, f1_equationCount, f1_clauseCount, h1_equations, h1_yes, h1_no)))))
        (.inl (some (x3, f0_fault, u_3, f0_isEquation, f0_first, f0_second, f0_rightIsOne, f1_equationCount, f1_clauseCount, h1_equations, h1_yes, h1_no)))))
noncomputable def st_X6_readLines (f0_length : Int32) (n0_bytes : Nat) (h0_bytes : Nat → Int32) (n1_equations : Nat) (n1_yes : Nat) (n1_no : Nat) (x2 : Int32) : S_X6_readLines → Option (Int32 × Int32 × Int32 × Bool × Int64 × Int64 × Bool × Int32 × Int32 × (Nat → Int64) × (Nat → Int64) × (Nat → Int64)) ⊕ S_X6_readLines := fun x => match x with
  | (x3, x4, f0_fault, f0_place, f0_isEquation, f0_first, f0_second, f0_rightIsOne, f1_equationCount, f1_clauseCount, h1_equations, h1_yes, h1_no) => b_X6_readLines_15 f0_length n0_bytes h0_bytes n1_equations n1_yes n1_no x2 x3 x4 f0_fault f0_place f0_isEquation f0_first f0_second f0_rightIsOne f1_equationCount f1_clauseCount h1_equations h1_yes h1_no
noncomputable def L_X6_readLines_15 (f0_length : Int32) (n0_bytes : Nat) (h0_bytes : Nat → Int32) (n1_equations : Nat) (n1_yes : Nat) (n1_no : Nat) (x2 : Int32) (x3 : Int32) (x4 : Int32) (f0_fault : Int32) (f0_place : Int32) (f0_isEquation : Bool) (f0_first : Int64) (f0_second : Int64) (f0_rightIsOne : Bool) (f1_equationCount : Int32) (f1_clauseCount : Int32) (h1_equations : Nat → Int64) (h1_yes : Nat → Int64) (h1_no : Nat → Int64) : Option (Int32 × Int32 × Int32 × Bool × Int64 × Int64 × Bool × Int32 × Int32 × (Nat → Int64) × (Nat → Int64) × (Nat → Int64)) := runw (st_X6_readLines f0_length n0_bytes h0_bytes n1_equations n1_yes n1_no x2) (x3, x4, f0_fault, f0_place, f0_isEquation, f0_first, f0_second, f0_rightIsOne, f1_equationCount, f1_clauseCount, h1_equations, h1_yes, h1_no)
theorem E_X6_readLines_15 (f0_length : Int32) (n0_bytes : Nat) (h0_bytes : Nat → Int32) (n1_equations : Nat) (n1_yes : Nat) (n1_no : Nat) (x2 : Int32) (x3 : Int32) (x4 : Int32) (f0_fault : Int32) (f0_place : Int32) (f0_isEquation : Bool) (f0_first : Int64) (f0_second : Int64) (f0_rightIsOne : Bool) (f1_equationCount : Int32) (f1_clauseCount : Int32) (h1_equations : Nat → Int64) (h1_yes : Nat → Int64) (h1_no : Nat → Int64) : L_X6_readLines_15 f0_length n0_bytes h0_bytes n1_equations n1_yes n1_no x2 x3 x4 f0_fault f0_place f0_isEquation f0_first f0_second f0_rightIsOne f1_equationCount f1_clauseCount h1_equations h1_yes h1_no =
    cif ((500 : Int32) < x4)
      (some (x3, f0_fault, f0_place, f0_isEquation, f0_first, f0_second, f0_rightIsOne, f1_equationCount, f1_clauseCount, h1_equations, h1_yes, h1_no))
      (Option.bind (D_X6_skipBlanks f0_length f0_place n0_bytes h0_bytes) (fun u_3 =>
        cif (u_3 < f0_length)
          (Option.bind (D_X6_readLine f0_length f0_fault u_3 f0_isEquation f0_first f0_second f0_rightIsOne n0_bytes h0_bytes x2) (fun u_7 =>
            cif (u_7.1 = true)
              (Option.bind (D_X6_keepLine u_7.2.1 u_7.2.2.1 u_7.2.2.2.1 u_7.2.2.2.2.1 u_7.2.2.2.2.2.1 u_7.2.2.2.2.2.2 f1_equationCount f1_clauseCount n1_equations h1_equations n1_yes h1_yes n1_no h1_no) (fun u_11 =>
                cif (u_11.1 = true)
                  (Option.bind (D_X6_passZero f0_length u_11.2.1 u_11.2.2.1 n0_bytes h0_bytes) (fun u_15 =>
                    cif (u_15.1 = true)
                      (L_X6_readLines_15 f0_length n0_bytes h0_bytes n1_equations n1_yes n1_no x2 (x3 + (1 : Int32)) (x4 + (1 : Int32)) u_15.2.1 u_15.2.2 u_7.2.2.2.1 u_7.2.2.2.2.1 u_7.2.2.2.2.2.1 u_7.2.2.2.2.2.2 u_11.2.2.2.1 u_11.2.2.2.2.1 u_11.2.2.2.2.2.1 u_11.2.2.2.2.2.2.1 u_11.2.2.2.2.2.2.2)
                      (some ((-1 : Int32) - u_15.2.2, u_15.2.1, u_15.2.2, u_7.2.2.2.1, u_7.2.2.2.2.1, u_7.2.2.2.2.2.1, u_7.2.2.2.2.2.2, u_11.2.2.2.1, u_11.2.2.2.2.1, u_11.2.2.2.2.2.1, u_11.2.2.2.2.2.2.1, u_11.2.2.2.2.2.2.2))))
                  (some ((-1 : Int32) - u_11.2.2.1, u_11.2.1, u_11.2.2.1, u_7.2.2.2.1, u_7.2.2.2.2.1, u_7.2.2.2.2.2.1, u_7.2.2.2.2.2.2, u_11.2.2.2.1, u_11.2.2.2.2.1, u_11.2.2.2.2.2.1, u_11.2.2.2.2.2.2.1, u_11.2.2.2.2.2.2.2))))
              (some ((-1 : Int32) - u_7.2.2.1, u_7.2.1, u_7.2.2.1, u_7.2.2.2.1, u_7.2.2.2.2.1, u_7.2.2.2.2.2.1, u_7.2.2.2.2.2.2, f1_equationCount, f1_clauseCount, h1_equations, h1_yes, h1_no))))
          (some (x3, f0_fault, u_3, f0_isEquation, f0_first, f0_second, f0_rightIsOne, f1_equationCount, f1_clauseCount, h1_equations, h1_yes, h1_no)))) := by
  show runw (st_X6_readLines f0_length n0_bytes h0_bytes n1_equations n1_yes n1_no x2) (x3, x4, f0_fault, f0_place, f0_isEquation, f0_first, f0_second, f0_rightIsOne, f1_equationCount, f1_clauseCount, h1_equations, h1_yes, h1_no) = _
  rw [runw_eq]
  show run1 _ (b_X6_readLines_15 f0_length n0_bytes h0_bytes n1_equations n1_yes n1_no x2 x3 x4 f0_fault f0_place f0_isEquation f0_first f0_second f0_rightIsOne f1_equationCount f1_clauseCount h1_equations h1_yes h1_no) = _
  simp only [b_X6_readLines_15, run1_cif, run1_sbd, run1_inl, run1_inr]
  try rfl
noncomputable def D_X6_readLines (f0_length : Int32) (f0_fault : Int32) (f0_place : Int32) (f0_isEquation : Bool) (f0_first : Int64) (f0_second : Int64) (f0_rightIsOne : Bool) (n0_bytes : Nat) (h0_bytes : Nat → Int32) (f1_equationCount : Int32) (f1_clauseCount : Int32) (n1_equations : Nat) (h1_equations : Nat → Int64) (n1_yes : Nat) (h1_yes : Nat → Int64) (n1_no : Nat) (h1_no : Nat → Int64) (x2 : Int32) : Option (Int32 × Int32 × Int32 × Bool × Int64 × Int64 × Bool × Int32 × Int32 × (Nat → Int64) × (Nat → Int64) × (Nat → Int64)) :=
  L_X6_readLines_15 f0_length n0_bytes h0_bytes n1_equations n1_yes n1_no x2 (0 : Int32) (0 : Int32) (0 : Int32) (0 : Int32) f0_isEquation f0_first f0_second f0_rightIsOne f1_equationCount f1_clauseCount h1_equations h1_yes h1_no
noncomputable def D_X7_areVariables (f0_variables : Int64) (x1 : Int64) : Option (Bool) :=
  cif ((x1 &&& (f0_variables ^^^ (-1 : Int64))) = (0 : Int64))
    (some true)
    (some false)
noncomputable def D_X7_forget (f0_rowsFresh : Bool) (f0_gatesFresh : Bool) : Option (Bool × Bool) :=
  some (false, false)
noncomputable def D_X7_areTwoSets (f0_variables : Int64) (x1 : Int64) (x3 : Int64) : Option (Bool) :=
  Option.bind (D_X7_areVariables f0_variables (x1 ||| x3)) (fun u_1 =>
    cif (u_1 = true)
      (cif ((x1 &&& x3) = (0 : Int64))
        (some true)
        (some false))
      (some false))
noncomputable def D_X7_read (f0_n : Int32) (f0_rowsFresh : Bool) (f0_gatesFresh : Bool) (f0_latestFault : Int32) (f0_store_equationCount : Int32) (f0_store_clauseCount : Int32) (n0_store_equations : Nat) (h0_store_equations : Nat → Int64) (n0_store_yes : Nat) (h0_store_yes : Nat → Int64) (n0_store_no : Nat) (h0_store_no : Nat → Int64) (f0_tape_length : Int32) (f0_tape_fault : Int32) (f0_tape_place : Int32) (f0_tape_isEquation : Bool) (f0_tape_first : Int64) (f0_tape_second : Int64) (f0_tape_rightIsOne : Bool) (n0_tape_bytes : Nat) (h0_tape_bytes : Nat → Int32) : Option (Int32 × Bool × Bool × Int32 × Int32 × Int32 × (Nat → Int64) × (Nat → Int64) × (Nat → Int64) × Int32 × Int32 × Int32 × Bool × Int64 × Int64 × Bool) :=
  Option.bind (D_X6_readLines f0_tape_length f0_tape_fault f0_tape_place f0_tape_isEquation f0_tape_first f0_tape_second f0_tape_rightIsOne n0_tape_bytes h0_tape_bytes f0_store_equationCount f0_store_clauseCount n0_store_equations h0_store_equations n0_store_yes h0_store_yes n0_store_no h0_store_no f0_n) (fun u_1 =>
    cif (0 ≤ u_1.1)
      (Option.bind (D_X7_forget f0_rowsFresh f0_gatesFresh) (fun u_5 =>
        some (u_1.1, u_5.1, u_5.2, u_1.2.1, u_1.2.2.2.2.2.2.2.1, u_1.2.2.2.2.2.2.2.2.1, u_1.2.2.2.2.2.2.2.2.2.1, u_1.2.2.2.2.2.2.2.2.2.2.1, u_1.2.2.2.2.2.2.2.2.2.2.2, (0 : Int32), u_1.2.1, u_1.2.2.1, u_1.2.2.2.1, u_1.2.2.2.2.1, u_1.2.2.2.2.2.1, u_1.2.2.2.2.2.2.1)))
      (Option.bind (D_X4_cutTo u_1.2.2.2.2.2.2.2.1 u_1.2.2.2.2.2.2.2.2.1 f0_store_equationCount f0_store_clauseCount) (fun u_7 =>
        Option.bind (D_X7_forget f0_rowsFresh f0_gatesFresh) (fun u_9 =>
          some (u_1.1, u_9.1, u_9.2, u_1.2.1, u_7.1, u_7.2, u_1.2.2.2.2.2.2.2.2.2.1, u_1.2.2.2.2.2.2.2.2.2.2.1, u_1.2.2.2.2.2.2.2.2.2.2.2, (0 : Int32), u_1.2.1, u_1.2.2.1, u_1.2.2.2.1, u_1.2.2.2.2.1, u_1.2.2.2.2.2.1, u_1.2.2.2.2.2.2.1)))))
noncomputable def D_X7_fault (f0_latestFault : Int32) : Option (Int32) :=
  some f0_latestFault
noncomputable def D_X7_freshenRows (f0_rowsFresh : Bool) (f0_store_equationCount : Int32) (n0_store_equations : Nat) (h0_store_equations : Nat → Int64) (f0_base_n : Int32) (f0_base_impossible : Bool) (n0_base_byHead : Nat) (h0_base_byHead : Nat → Int64) : Option (Bool × Bool × (Nat → Int64)) :=
  cif (f0_rowsFresh = true)
    (some (f0_rowsFresh, f0_base_impossible, h0_base_byHead))
    (Option.bind (D_X2_build f0_base_n f0_base_impossible n0_base_byHead h0_base_byHead f0_store_equationCount n0_store_equations h0_store_equations) (fun u_3 =>
      some (true, u_3.1, u_3.2)))
noncomputable def D_X7_rows (f0_rowsFresh : Bool) (f0_store_equationCount : Int32) (n0_store_equations : Nat) (h0_store_equations : Nat → Int64) (f0_base_n : Int32) (f0_base_impossible : Bool) (n0_base_byHead : Nat) (h0_base_byHead : Nat → Int64) : Option (Int32 × Bool × Bool × (Nat → Int64)) :=
  Option.bind (D_X7_freshenRows f0_rowsFresh f0_store_equationCount n0_store_equations h0_store_equations f0_base_n f0_base_impossible n0_base_byHead h0_base_byHead) (fun u_1 =>
    cif (u_1.2.1 = true)
      (some ((-1 : Int32), u_1.1, u_1.2.1, u_1.2.2))
      (Option.bind (D_X2_size f0_base_n n0_base_byHead u_1.2.2) (fun u_5 =>
        some (u_5, u_1.1, u_1.2.1, u_1.2.2))))
