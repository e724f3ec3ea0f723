noncomputable def D_X7_blame (f0_rowsFresh : Bool) (f0_store_equationCount : Int32) (n0_store_equations : Nat) (h0_store_equations : Nat → Int64) (f0_base_n : Int32) (f0_base_impossible : Bool) (n0_base_byHead : Nat) (h0_base_byHead : Nat → Int64) (f0_blamed_n : Int32) (n0_blamed_byHead : Nat) (h0_blamed_byHead : Nat → Int64) (n0_blamed_madeOf : Nat) (h0_blamed_madeOf : Nat → Int64) : Option (Int64 × Bool × Bool × (Nat → Int64) × (Nat → Int64) × (Nat → Int64)) :=
  Option.bind (D_X7_freshenRows f0_rowsFresh f0_store_equationCount n0_store_equations h0_store_equations f0_base_n f0_base_impossible n0_base_byHead h0_base_byHead) (fun u_1 =>
    cif (u_1.2.1 = true)
      (Option.bind (D_X0_leastSum f0_blamed_n n0_blamed_byHead h0_blamed_byHead n0_blamed_madeOf h0_blamed_madeOf f0_store_equationCount n0_store_equations h0_store_equations) (fun u_5 =>
        some (u_5.1, u_1.1, u_1.2.1, u_1.2.2, u_5.2.1, u_5.2.2)))
      (some ((0 : Int64), u_1.1, u_1.2.1, u_1.2.2, h0_blamed_byHead, h0_blamed_madeOf)))
noncomputable def D_X7_solutions (f0_n : Int32) (f0_rowsFresh : Bool) (f0_store_equationCount : Int32) (n0_store_equations : Nat) (h0_store_equations : Nat → Int64) (f0_base_n : Int32) (f0_base_impossible : Bool) (n0_base_byHead : Nat) (h0_base_byHead : Nat → Int64) : Option (Int64 × Bool × Bool × (Nat → Int64)) :=
  Option.bind (D_X7_freshenRows f0_rowsFresh f0_store_equationCount n0_store_equations h0_store_equations f0_base_n f0_base_impossible n0_base_byHead h0_base_byHead) (fun u_1 =>
    cif (u_1.2.1 = true)
      (some ((0 : Int64), u_1.1, u_1.2.1, u_1.2.2))
      (Option.bind (D_X2_size f0_base_n n0_base_byHead u_1.2.2) (fun u_5 =>
        some (jshl (1 : Int64) (f0_n - u_5), u_1.1, u_1.2.1, u_1.2.2))))
noncomputable def D_X7_solution (f0_n : Int32) (f0_rowsFresh : Bool) (f0_store_equationCount : Int32) (n0_store_equations : Nat) (h0_store_equations : Nat → Int64) (f0_base_n : Int32) (f0_base_impossible : Bool) (n0_base_byHead : Nat) (h0_base_byHead : Nat → Int64) (f0_taking_n : Int32) (f0_taking_taken : Int64) (f0_taking_ones : Int64) (f0_taking_rows_n : Int32) (f0_taking_rows_impossible : Bool) (n0_taking_rows_byHead : Nat) (h0_taking_rows_byHead : Nat → Int64) (x1 : Int64) : Option (Int64 × Bool × Bool × (Nat → Int64) × Int64 × Int64 × Bool × (Nat → Int64)) :=
  cif (x1 < (0 : Int64))
    (some ((-1 : Int64), f0_rowsFresh, f0_base_impossible, h0_base_byHead, f0_taking_taken, f0_taking_ones, f0_taking_rows_impossible, h0_taking_rows_byHead))
    (Option.bind (D_X7_solutions f0_n f0_rowsFresh f0_store_equationCount n0_store_equations h0_store_equations f0_base_n f0_base_impossible n0_base_byHead h0_base_byHead) (fun u_3 =>
      cif (x1 < u_3.1)
        (Option.bind (D_X5_begin f0_taking_taken f0_taking_ones f0_taking_rows_n f0_taking_rows_impossible n0_taking_rows_byHead h0_taking_rows_byHead f0_base_n u_3.2.2.1 n0_base_byHead u_3.2.2.2) (fun u_7 =>
          Option.bind (D_X2_size f0_base_n n0_base_byHead u_3.2.2.2) (fun u_9 =>
            Option.bind (D_X5_takeByNumber f0_taking_n u_7.1 u_7.2.1 f0_taking_rows_n u_7.2.2.1 n0_taking_rows_byHead u_7.2.2.2 x1 (f0_n - u_9)) (fun u_11 =>
              some (u_11.1, u_3.2.1, u_3.2.2.1, u_3.2.2.2, u_11.2.1, u_11.2.2.1, u_11.2.2.2.1, u_11.2.2.2.2)))))
        (some ((-1 : Int64), u_3.2.1, u_3.2.2.1, u_3.2.2.2, f0_taking_taken, f0_taking_ones, f0_taking_rows_impossible, h0_taking_rows_byHead))))
noncomputable def D_X7_areNodes (x1 : Int32) : Option (Bool) :=
  cif (x1 < (1 : Int32))
    (some false)
    (cif ((5000 : Int32) < x1)
      (some false)
      (some true))
noncomputable def D_X7_model (f0_latestModel : Int64) : Option (Int64) :=
  some f0_latestModel
noncomputable def D_X7_nodes (f0_latestNodes : Int32) : Option (Int32) :=
  some f0_latestNodes
noncomputable def D_X7_freshenGates (f0_gatesFresh : Bool) (f0_store_clauseCount : Int32) (n0_store_yes : Nat) (h0_store_yes : Nat → Int64) (n0_store_no : Nat) (h0_store_no : Nat → Int64) (f0_gateList_size : Int32) (n0_gateList_found : Nat) (h0_gateList_found : Nat → Int64) : Option (Bool × Int32 × (Nat → Int64)) :=
  cif (f0_gatesFresh = true)
    (some (f0_gatesFresh, f0_gateList_size, h0_gateList_found))
    (Option.bind (D_X1_build f0_gateList_size n0_gateList_found h0_gateList_found f0_store_clauseCount n0_store_yes h0_store_yes n0_store_no h0_store_no) (fun u_3 =>
      some (true, u_3.1, u_3.2)))
noncomputable def D_X7_gates (f0_gatesFresh : Bool) (f0_store_clauseCount : Int32) (n0_store_yes : Nat) (h0_store_yes : Nat → Int64) (n0_store_no : Nat) (h0_store_no : Nat → Int64) (f0_gateList_size : Int32) (n0_gateList_found : Nat) (h0_gateList_found : Nat → Int64) : Option (Int32 × Bool × Int32 × (Nat → Int64)) :=
  Option.bind (D_X7_freshenGates f0_gatesFresh f0_store_clauseCount n0_store_yes h0_store_yes n0_store_no h0_store_no f0_gateList_size n0_gateList_found h0_gateList_found) (fun u_1 =>
    some (u_1.2.1, u_1.1, u_1.2.1, u_1.2.2))
noncomputable def D_X7_clear (f0_rowsFresh : Bool) (f0_gatesFresh : Bool) (f0_store_equationCount : Int32) (f0_store_clauseCount : Int32) (f0_store_levelCount : Int32) (f0_tape_length : Int32) : Option (Bool × Bool × Int32 × Int32 × Int32 × Int32) :=
  Option.bind (D_X4_cutTo f0_store_equationCount f0_store_clauseCount (0 : Int32) (0 : Int32)) (fun u_1 =>
    Option.bind (D_X7_forget f0_rowsFresh f0_gatesFresh) (fun u_3 =>
      some (u_3.1, u_3.2, u_1.1, u_1.2, (0 : Int32), (0 : Int32))))
noncomputable def D_X7_equation (f0_variables : Int64) (f0_rowsFresh : Bool) (f0_gatesFresh : Bool) (f0_store_equationCount : Int32) (n0_store_equations : Nat) (h0_store_equations : Nat → Int64) (x1 : Int64) (x3 : Int32) : Option ((Int32 ⊕ Nat) × Bool × Bool × Int32 × (Nat → Int64)) :=
  Option.bind (D_X7_areVariables f0_variables x1) (fun u_1 =>
    cif (u_1 = true)
      (cif (x3 < 0)
        (some (.inr 0, f0_rowsFresh, f0_gatesFresh, f0_store_equationCount, h0_store_equations))
        (cif (x3 ≤ (1 : Int32))
          (cif (f0_store_equationCount < (60 : Int32))
            (Option.bind (D_X7_forget f0_rowsFresh f0_gatesFresh) (fun u_11 =>
              cif (x3 = (1 : Int32))
                (Option.bind (D_X4_addEquation f0_store_equationCount n0_store_equations h0_store_equations (x1 ||| (4611686018427387904 : Int64))) (fun u_17 =>
                  some (.inl (u_17.2.1 - (1 : Int32)), u_11.1, u_11.2, u_17.2.1, u_17.2.2)))
                (Option.bind (D_X4_addEquation f0_store_equationCount n0_store_equations h0_store_equations x1) (fun u_15 =>
                  some (.inl (u_15.2.1 - (1 : Int32)), u_11.1, u_11.2, u_15.2.1, u_15.2.2)))))
            (some (.inr 1, f0_rowsFresh, f0_gatesFresh, f0_store_equationCount, h0_store_equations)))
          (some (.inr 0, f0_rowsFresh, f0_gatesFresh, f0_store_equationCount, h0_store_equations))))
      (some (.inr 0, f0_rowsFresh, f0_gatesFresh, f0_store_equationCount, h0_store_equations)))
noncomputable def D_X7_clause (f0_variables : Int64) (f0_rowsFresh : Bool) (f0_gatesFresh : Bool) (f0_store_clauseCount : Int32) (n0_store_yes : Nat) (h0_store_yes : Nat → Int64) (n0_store_no : Nat) (h0_store_no : Nat → Int64) (x1 : Int64) (x3 : Int64) : Option ((Int32 ⊕ Nat) × Bool × Bool × Int32 × (Nat → Int64) × (Nat → Int64)) :=
  Option.bind (D_X7_areTwoSets f0_variables x1 x3) (fun u_1 =>
    cif (u_1 = true)
      (cif (f0_store_clauseCount < (60 : Int32))
        (Option.bind (D_X7_forget f0_rowsFresh f0_gatesFresh) (fun u_7 =>
          Option.bind (D_X4_addClause f0_store_clauseCount n0_store_yes h0_store_yes n0_store_no h0_store_no x1 x3) (fun u_9 =>
            some (.inl (u_9.2.1 - (1 : Int32)), u_7.1, u_7.2, u_9.2.1, u_9.2.2.1, u_9.2.2.2))))
        (some (.inr 1, f0_rowsFresh, f0_gatesFresh, f0_store_clauseCount, h0_store_yes, h0_store_no)))
      (some (.inr 0, f0_rowsFresh, f0_gatesFresh, f0_store_clauseCount, h0_store_yes, h0_store_no)))
abbrev S_X7_feed : Type := (Int32 × Int32 × (Nat → Int32))
noncomputable def b_X7_feed_51 (n0_tape_bytes : Nat) (x1 : Int64) (x3 : Int32) (x4 : Int32) (f0_tape_length : Int32) (h0_tape_bytes : Nat → Int32) : Option ((Int32 ⊕ Nat) × Int32 × (Nat → Int32)) ⊕ S_X7_feed :=
  cif (x4 < 0)
    (.inl (some (.inl f0_tape_length, f0_tape_length, h0_tape_bytes)))
    (sbd (D_X6_put f0_tape_length n0_tape_bytes h0_tape_bytes (((jushr x1 ((8 : Int32) * x4)).toInt32) &&& (255 : Int32))) (fun u_9 =>
      .inr (x4 + (-1 : Int32), u_9.1, u_9.2)))
noncomputable def st_X7_feed (n0_tape_bytes : Nat) (x1 : Int64) (x3 : Int32) : S_X7_feed → Option ((Int32 ⊕ Nat) × Int32 × (Nat → Int32)) ⊕ S_X7_feed := fun x => match x with
  | (x4, f0_tape_length, h0_tape_bytes) => b_X7_feed_51 n0_tape_bytes x1 x3 x4 f0_tape_length h0_tape_bytes
noncomputable def L_X7_feed_51 (n0_tape_bytes : Nat) (x1 : Int64) (x3 : Int32) (x4 : Int32) (f0_tape_length : Int32) (h0_tape_bytes : Nat → Int32) : Option ((Int32 ⊕ Nat) × Int32 × (Nat → Int32)) := runw (st_X7_feed n0_tape_bytes x1 x3) (x4, f0_tape_length, h0_tape_bytes)
theorem E_X7_feed_51 (n0_tape_bytes : Nat) (x1 : Int64) (x3 : Int32) (x4 : Int32) (f0_tape_length : Int32) (h0_tape_bytes : Nat → Int32) : L_X7_feed_51 n0_tape_bytes x1 x3 x4 f0_tape_length h0_tape_bytes =
    cif (x4 < 0)
      (some (.inl f0_tape_length, f0_tape_length, h0_tape_bytes))
      (Option.bind (D_X6_put f0_tape_length n0_tape_bytes h0_tape_bytes (((jushr x1 ((8 : Int32) * x4)).toInt32) &&& (255 : Int32))) (fun u_9 =>
        L_X7_feed_51 n0_tape_bytes x1 x3 (x4 + (-1 : Int32)) u_9.1 u_9.2)) := by
  show runw (st_X7_feed n0_tape_bytes x1 x3) (x4, f0_tape_length, h0_tape_bytes) = _
  rw [runw_eq]
  show run1 _ (b_X7_feed_51 n0_tape_bytes x1 x3 x4 f0_tape_length h0_tape_bytes) = _
  simp only [b_X7_feed_51, run1_cif, run1_sbd, run1_inl, run1_inr]
  try rfl
noncomputable def D_X7_feed (f0_tape_length : Int32) (n0_tape_bytes : Nat) (h0_tape_bytes : Nat → Int32) (x1 : Int64) (x3 : Int32) : Option ((Int32 ⊕ Nat) × Int32 × (Nat → Int32)) :=
  cif (x3 < (1 : Int32))
    (some (.inr 0, f0_tape_length, h0_tape_bytes))
    (cif (x3 ≤ (8 : Int32))
      (cif ((f0_tape_length + x3) ≤ (500 : Int32))
        (L_X7_feed_51 n0_tape_bytes x1 x3 (x3 - (1 : Int32)) f0_tape_length h0_tape_bytes)
        (some (.inr 1, f0_tape_length, h0_tape_bytes)))
      (some (.inr 0, f0_tape_length, h0_tape_bytes)))
noncomputable def D_X7_push (f0_store_equationCount : Int32) (f0_store_clauseCount : Int32) (f0_store_levelCount : Int32) (n0_store_equationsBefore : Nat) (h0_store_equationsBefore : Nat → Int32) (n0_store_clausesBefore : Nat) (h0_store_clausesBefore : Nat → Int32) : Option ((Int32 ⊕ Nat) × Int32 × (Nat → Int32) × (Nat → Int32)) :=
  cif (f0_store_levelCount < (20 : Int32))
    (Option.bind (D_X4_addLevel f0_store_equationCount f0_store_clauseCount f0_store_levelCount n0_store_equationsBefore h0_store_equationsBefore n0_store_clausesBefore h0_store_clausesBefore) (fun u_3 =>
      some (.inl u_3.1, u_3.1, u_3.2.1, u_3.2.2)))
    (some (.inr 1, f0_store_levelCount, h0_store_equationsBefore, h0_store_clausesBefore))
noncomputable def D_X7_pop (f0_rowsFresh : Bool) (f0_gatesFresh : Bool) (f0_store_equationCount : Int32) (f0_store_clauseCount : Int32) (f0_store_levelCount : Int32) (n0_store_equationsBefore : Nat) (h0_store_equationsBefore : Nat → Int32) (n0_store_clausesBefore : Nat) (h0_store_clausesBefore : Nat → Int32) (x1 : Int32) : Option ((Int32 ⊕ Nat) × Bool × Bool × Int32 × Int32 × Int32) :=
  cif (x1 < 0)
    (some (.inr 0, f0_rowsFresh, f0_gatesFresh, f0_store_equationCount, f0_store_clauseCount, f0_store_levelCount))
    (cif (x1 ≤ f0_store_levelCount)
      (Option.bind (D_X4_takeBackTo f0_store_equationCount f0_store_clauseCount f0_store_levelCount n0_store_equationsBefore h0_store_equationsBefore n0_store_clausesBefore h0_store_clausesBefore (f0_store_levelCount - x1)) (fun u_5 =>
        Option.bind (D_X7_forget f0_rowsFresh f0_gatesFresh) (fun u_7 =>
          some (.inl (u_5.1 + u_5.2.1), u_7.1, u_7.2, u_5.1, u_5.2.1, u_5.2.2))))
      (some (.inr 0, f0_rowsFresh, f0_gatesFresh, f0_store_equationCount, f0_store_clauseCount, f0_store_levelCount)))
noncomputable def D_X7_told (f0_store_equationCount : Int32) (f0_store_clauseCount : Int32) (n0_store_equations : Nat) (h0_store_equations : Nat → Int64) (n0_store_yes : Nat) (h0_store_yes : Nat → Int64) (n0_store_no : Nat) (h0_store_no : Nat → Int64) (x1 : Int32) (x2 : Int32) : Option ((Int64 ⊕ Nat)) :=
  cif (x2 < 0)
    (some (.inr 0))
    (cif (x2 ≤ (3 : Int32))
      (cif (x1 < 0)
        (some (.inr 2))
        (cif ((2 : Int32) ≤ x2)
          (cif (x1 < f0_store_clauseCount)
            (cif (x2.toInt = (0 : Int))
              (cif (vp_in x1 n0_store_equations)
                (some (.inl ((h0_store_equations x1.toNatClampNeg) &&& (-4611686018427387905 : Int64))))
                (none))
              (cif (x2.toInt = (1 : Int))
                (cif (vp_in x1 n0_store_equations)
                  (cif (((h0_store_equations x1.toNatClampNeg) &&& (4611686018427387904 : Int64)) = (0 : Int64))
                    (some (.inl (0 : Int64)))
                    (some (.inl (1 : Int64))))
                  (none))
                (cif (x2.toInt = (2 : Int))
                  (cif (vp_in x1 n0_store_yes)
                    (some (.inl (h0_store_yes x1.toNatClampNeg)))
                    (none))
                  (cif (vp_in x1 n0_store_no)
                    (some (.inl (h0_store_no x1.toNatClampNeg)))
                    (none)))))
            (some (.inr 2)))
          (cif (x1 < f0_store_equationCount)
            (cif (x2.toInt = (0 : Int))
              (cif (vp_in x1 n0_store_equations)
                (some (.inl ((h0_store_equations x1.toNatClampNeg) &&& (-4611686018427387905 : Int64))))
                (none))
              (cif (x2.toInt = (1 : Int))
                (cif (vp_in x1 n0_store_equations)
                  (cif (((h0_store_equations x1.toNatClampNeg) &&& (4611686018427387904 : Int64)) = (0 : Int64))
                    (some (.inl (0 : Int64)))
                    (some (.inl (1 : Int64))))
                  (none))
                (cif (x2.toInt = (2 : Int))
                  (cif (vp_in x1 n0_store_yes)
                    (some (.inl (h0_store_yes x1.toNatClampNeg)))
                    (none))
                  (cif (vp_in x1 n0_store_no)
                    (some (.inl (h0_store_no x1.toNatClampNeg)))
                    (none)))))
            (some (.inr 2)))))
      (some (.inr 0)))
noncomputable def D_X7_row (f0_rowsFresh : Bool) (f0_store_equationCount : Int32) (n0_store_equations : Nat) (h0_store_equations : Nat → Int64) (f0_base_n : Int32) (f0_base_impossible : Bool) (n0_base_byHead : Nat) (h0_base_byHead : Nat → Int64) (x1 : Int32) : Option ((Int64 ⊕ Nat) × Bool × Bool × (Nat → Int64)) :=
  Option.bind (D_X7_freshenRows f0_rowsFresh f0_store_equationCount n0_store_equations h0_store_equations f0_base_n f0_base_impossible n0_base_byHead h0_base_byHead) (fun u_1 =>
    cif (u_1.2.1 = true)
      (cif ((0 : Int64) = (0 : Int64))
        (some (.inr 2, u_1.1, u_1.2.1, u_1.2.2))
        (some (.inl (0 : Int64), u_1.1, u_1.2.1, u_1.2.2)))
      (cif (0 ≤ x1)
        (Option.bind (D_X2_inOrder f0_base_n n0_base_byHead u_1.2.2 x1) (fun u_9 =>
          cif (u_9 = (0 : Int64))
            (some (.inr 2, u_1.1, u_1.2.1, u_1.2.2))
            (some (.inl u_9, u_1.1, u_1.2.1, u_1.2.2))))
        (cif ((0 : Int64) = (0 : Int64))
          (some (.inr 2, u_1.1, u_1.2.1, u_1.2.2))
          (some (.inl (0 : Int64), u_1.1, u_1.2.1, u_1.2.2)))))
noncomputable def D_X7_sum (f0_variables : Int64) (f0_rowsFresh : Bool) (f0_store_equationCount : Int32) (n0_store_equations : Nat) (h0_store_equations : Nat → Int64) (f0_base_n : Int32) (f0_base_impossible : Bool) (n0_base_byHead : Nat) (h0_base_byHead : Nat → Int64) (x1 : Int64) : Option ((Int32 ⊕ Nat) × Bool × Bool × (Nat → Int64)) :=
  Option.bind (D_X7_areVariables f0_variables x1) (fun u_1 =>
    cif (u_1 = true)
      (Option.bind (D_X7_freshenRows f0_rowsFresh f0_store_equationCount n0_store_equations h0_store_equations f0_base_n f0_base_impossible n0_base_byHead h0_base_byHead) (fun u_5 =>
        cif (u_5.2.1 = true)
          (some (.inl (-2 : Int32), u_5.1, u_5.2.1, u_5.2.2))
          (Option.bind (D_X2_reduced f0_base_n n0_base_byHead u_5.2.2 x1) (fun u_9 =>
            cif ((u_9 &&& (-4611686018427387905 : Int64)) = (0 : Int64))
              (cif (u_9 = (0 : Int64))
                (some (.inl (0 : Int32), u_5.1, u_5.2.1, u_5.2.2))
                (some (.inl (1 : Int32), u_5.1, u_5.2.1, u_5.2.2)))
              (some (.inl (-1 : Int32), u_5.1, u_5.2.1, u_5.2.2))))))
      (some (.inr 0, f0_rowsFresh, f0_base_impossible, h0_base_byHead)))
noncomputable def D_X7_follow (f0_variables : Int64) (f0_rowsFresh : Bool) (f0_store_equationCount : Int32) (f0_store_clauseCount : Int32) (n0_store_equations : Nat) (h0_store_equations : Nat → Int64) (n0_store_yes : Nat) (h0_store_yes : Nat → Int64) (n0_store_no : Nat) (h0_store_no : Nat → Int64) (f0_base_n : Int32) (f0_base_impossible : Bool) (n0_base_byHead : Nat) (h0_base_byHead : Nat → Int64) (f0_taking_n : Int32) (f0_taking_taken : Int64) (f0_taking_ones : Int64) (f0_taking_rows_n : Int32) (f0_taking_rows_impossible : Bool) (n0_taking_rows_byHead : Nat) (h0_taking_rows_byHead : Nat → Int64) (x1 : Int64) (x3 : Int64) (x5 : Bool) : Option ((Int64 ⊕ Nat) × Bool × Bool × (Nat → Int64) × Int64 × Int64 × Bool × (Nat → Int64)) :=
  Option.bind (D_X7_areTwoSets f0_variables x1 x3) (fun u_1 =>
    cif (u_1 = true)
      (Option.bind (D_X7_freshenRows f0_rowsFresh f0_store_equationCount n0_store_equations h0_store_equations f0_base_n f0_base_impossible n0_base_byHead h0_base_byHead) (fun u_5 =>
        Option.bind (D_X5_begin f0_taking_taken f0_taking_ones f0_taking_rows_n f0_taking_rows_impossible n0_taking_rows_byHead h0_taking_rows_byHead f0_base_n u_5.2.1 n0_base_byHead u_5.2.2) (fun u_7 =>
          Option.bind (D_X5_takeAll f0_taking_n u_7.1 u_7.2.1 f0_taking_rows_n u_7.2.2.1 n0_taking_rows_byHead u_7.2.2.2 x1 x3) (fun u_9 =>
            Option.bind (D_X5_spread f0_taking_n u_9.1 u_9.2.1 f0_taking_rows_n u_9.2.2.1 n0_taking_rows_byHead u_9.2.2.2 f0_store_clauseCount n0_store_yes h0_store_yes n0_store_no h0_store_no) (fun u_11 =>
              cif (u_11.1 = true)
                (cif (x5 = true)
                  (some (.inl u_11.2.2.1, u_5.1, u_5.2.1, u_5.2.2, u_11.2.1, u_11.2.2.1, u_11.2.2.2.1, u_11.2.2.2.2))
                  (some (.inl (u_11.2.1 &&& (u_11.2.2.1 ^^^ (-1 : Int64))), u_5.1, u_5.2.1, u_5.2.2, u_11.2.1, u_11.2.2.1, u_11.2.2.2.1, u_11.2.2.2.2)))
                (some (.inl (-1 : Int64), u_5.1, u_5.2.1, u_5.2.2, u_11.2.1, u_11.2.2.1, u_11.2.2.2.1, u_11.2.2.2.2)))))))
      (some (.inr 0, f0_rowsFresh, f0_base_impossible, h0_base_byHead, f0_taking_taken, f0_taking_ones, f0_taking_rows_impossible, h0_taking_rows_byHead)))
noncomputable def D_X7_solve (f0_rowsFresh : Bool) (f0_latestNodes : Int32) (f0_latestModel : Int64) (f0_store_equationCount : Int32) (f0_store_clauseCount : Int32) (n0_store_equations : Nat) (h0_store_equations : Nat → Int64) (n0_store_yes : Nat) (h0_store_yes : Nat → Int64) (n0_store_no : Nat) (h0_store_no : Nat → Int64) (f0_base_n : Int32) (f0_base_impossible : Bool) (n0_base_byHead : Nat) (h0_base_byHead : Nat → Int64) (f0_search_n : Int32) (f0_search_pileSize : Int32) (f0_search_nodeCount : Int32) (f0_search_modelCount : Int32) (f0_search_lastModel : Int64) (f0_search_cut : Bool) (f0_search_start_n : Int32) (f0_search_start_taken : Int64) (f0_search_start_ones : Int64) (f0_search_start_rows_n : Int32) (f0_search_start_rows_impossible : Bool) (n0_search_start_rows_byHead : Nat) (h0_search_start_rows_byHead : Nat → Int64) (n0_search_pileRows : Nat) (h0_search_pileRows : Nat → Int64) (n0_search_pileTaken : Nat) (h0_search_pileTaken : Nat → Int64) (n0_search_pileOnes : Nat) (h0_search_pileOnes : Nat → Int64) (x1 : Int32) : Option ((Int32 ⊕ Nat) × Bool × Int32 × Int64 × Bool × (Nat → Int64) × Int32 × Int32 × Int32 × Int64 × Bool × Int64 × Int64 × Bool × (Nat → Int64) × (Nat → Int64) × (Nat → Int64) × (Nat → Int64)) :=
  Option.bind (D_X7_areNodes x1) (fun u_1 =>
    cif (u_1 = true)
      (Option.bind (D_X7_freshenRows f0_rowsFresh f0_store_equationCount n0_store_equations h0_store_equations f0_base_n f0_base_impossible n0_base_byHead h0_base_byHead) (fun u_5 =>
        Option.bind (D_X3_begin f0_search_pileSize f0_search_nodeCount f0_search_modelCount f0_search_cut f0_search_start_taken f0_search_start_ones f0_search_start_rows_n f0_search_start_rows_impossible n0_search_start_rows_byHead h0_search_start_rows_byHead f0_base_n u_5.2.1 n0_base_byHead u_5.2.2) (fun u_7 =>
          Option.bind (D_X3_run f0_search_n u_7.1 u_7.2.1 u_7.2.2.1 f0_search_lastModel u_7.2.2.2.1 f0_search_start_n u_7.2.2.2.2.1 u_7.2.2.2.2.2.1 f0_search_start_rows_n u_7.2.2.2.2.2.2.1 n0_search_start_rows_byHead u_7.2.2.2.2.2.2.2 n0_search_pileRows h0_search_pileRows n0_search_pileTaken h0_search_pileTaken n0_search_pileOnes h0_search_pileOnes f0_store_clauseCount n0_store_yes h0_store_yes n0_store_no h0_store_no x1 true) (fun u_9 =>
            cif (u_9.2.2.1 ≤ 0)
              (cif (u_9.2.2.2.2.1 = true)
                (some (.inl (-2 : Int32), u_5.1, u_9.2.1, (-1 : Int64), u_5.2.1, u_5.2.2, u_9.1, u_9.2.1, u_9.2.2.1, u_9.2.2.2.1, u_9.2.2.2.2.1, u_9.2.2.2.2.2.1, u_9.2.2.2.2.2.2.1, u_9.2.2.2.2.2.2.2.1, u_9.2.2.2.2.2.2.2.2.1, u_9.2.2.2.2.2.2.2.2.2.1, u_9.2.2.2.2.2.2.2.2.2.2.1, u_9.2.2.2.2.2.2.2.2.2.2.2))
                (some (.inl u_9.2.2.1, u_5.1, u_9.2.1, (-1 : Int64), u_5.2.1, u_5.2.2, u_9.1, u_9.2.1, u_9.2.2.1, u_9.2.2.2.1, u_9.2.2.2.2.1, u_9.2.2.2.2.2.1, u_9.2.2.2.2.2.2.1, u_9.2.2.2.2.2.2.2.1, u_9.2.2.2.2.2.2.2.2.1, u_9.2.2.2.2.2.2.2.2.2.1, u_9.2.2.2.2.2.2.2.2.2.2.1, u_9.2.2.2.2.2.2.2.2.2.2.2)))
              (cif (u_9.2.2.2.2.1 = true)
                (some (.inl (-2 : Int32), u_5.1, u_9.2.1, u_9.2.2.2.1, u_5.2.1, u_5.2.2, u_9.1, u_9.2.1, u_9.2.2.1, u_9.2.2.2.1, u_9.2.2.2.2.1, u_9.2.2.2.2.2.1, u_9.2.2.2.2.2.2.1, u_9.2.2.2.2.2.2.2.1, u_9.2.2.2.2.2.2.2.2.1, u_9.2.2.2.2.2.2.2.2.2.1, u_9.2.2.2.2.2.2.2.2.2.2.1, u_9.2.2.2.2.2.2.2.2.2.2.2))
                (some (.inl u_9.2.2.1, u_5.1, u_9.2.1, u_9.2.2.2.1, u_5.2.1, u_5.2.2, u_9.1, u_9.2.1, u_9.2.2.1, u_9.2.2.2.1, u_9.2.2.2.2.1, u_9.2.2.2.2.2.1, u_9.2.2.2.2.2.2.1, u_9.2.2.2.2.2.2.2.1, u_9.2.2.2.2.2.2.2.2.1, u_9.2.2.2.2.2.2.2.2.2.1, u_9.2.2.2.2.2.2.2.2.2.2.1, u_9.2.2.2.2.2.2.2.2.2.2.2)))))))
      (some (.inr 0, f0_rowsFresh, f0_latestNodes, f0_latestModel, f0_base_impossible, h0_base_byHead, f0_search_pileSize, f0_search_nodeCount, f0_search_modelCount, f0_search_lastModel, f0_search_cut, f0_search_start_taken, f0_search_start_ones, f0_search_start_rows_impossible, h0_search_start_rows_byHead, h0_search_pileRows, h0_search_pileTaken, h0_search_pileOnes)))
noncomputable def D_X7_models (f0_rowsFresh : Bool) (f0_latestNodes : Int32) (f0_store_equationCount : Int32) (f0_store_clauseCount : Int32) (n0_store_equations : Nat) (h0_store_equations : Nat → Int64) (n0_store_yes : Nat) (h0_store_yes : Nat → Int64) (n0_store_no : Nat) (h0_store_no : Nat → Int64) (f0_base_n : Int32) (f0_base_impossible : Bool) (n0_base_byHead : Nat) (h0_base_byHead : Nat → Int64) (f0_search_n : Int32) (f0_search_pileSize : Int32) (f0_search_nodeCount : Int32) (f0_search_modelCount : Int32) (f0_search_lastModel : Int64) (f0_search_cut : Bool) (f0_search_start_n : Int32) (f0_search_start_taken : Int64) (f0_search_start_ones : Int64) (f0_search_start_rows_n : Int32) (f0_search_start_rows_impossible : Bool) (n0_search_start_rows_byHead : Nat) (h0_search_start_rows_byHead : Nat → Int64) (n0_search_pileRows : Nat) (h0_search_pileRows : Nat → Int64) (n0_search_pileTaken : Nat) (h0_search_pileTaken : Nat → Int64) (n0_search_pileOnes : Nat) (h0_search_pileOnes : Nat → Int64) (x1 : Int32) : Option ((Int64 ⊕ Nat) × Bool × Int32 × Bool × (Nat → Int64) × Int32 × Int32 × Int32 × Int64 × Bool × Int64 × Int64 × Bool × (Nat → Int64) × (Nat → Int64) × (Nat → Int64) × (Nat → Int64)) :=
  Option.bind (D_X7_areNodes x1) (fun u_1 =>
    cif (u_1 = true)
      (Option.bind (D_X7_freshenRows f0_rowsFresh f0_store_equationCount n0_store_equations h0_store_equations f0_base_n f0_base_impossible n0_base_byHead h0_base_byHead) (fun u_5 =>
        Option.bind (D_X3_begin f0_search_pileSize f0_search_nodeCount f0_search_modelCount f0_search_cut f0_search_start_taken f0_search_start_ones f0_search_start_rows_n f0_search_start_rows_impossible n0_search_start_rows_byHead h0_search_start_rows_byHead f0_base_n u_5.2.1 n0_base_byHead u_5.2.2) (fun u_7 =>
          Option.bind (D_X3_run f0_search_n u_7.1 u_7.2.1 u_7.2.2.1 f0_search_lastModel u_7.2.2.2.1 f0_search_start_n u_7.2.2.2.2.1 u_7.2.2.2.2.2.1 f0_search_start_rows_n u_7.2.2.2.2.2.2.1 n0_search_start_rows_byHead u_7.2.2.2.2.2.2.2 n0_search_pileRows h0_search_pileRows n0_search_pileTaken h0_search_pileTaken n0_search_pileOnes h0_search_pileOnes f0_store_clauseCount n0_store_yes h0_store_yes n0_store_no h0_store_no x1 false) (fun u_9 =>
            cif (u_9.2.2.2.2.1 = true)
              (some (.inl (-2 : Int64), u_5.1, u_9.2.1, u_5.2.1, u_5.2.2, u_9.1, u_9.2.1, u_9.2.2.1, u_9.2.2.2.1, u_9.2.2.2.2.1, u_9.2.2.2.2.2.1, u_9.2.2.2.2.2.2.1, u_9.2.2.2.2.2.2.2.1, u_9.2.2.2.2.2.2.2.2.1, u_9.2.2.2.2.2.2.2.2.2.1, u_9.2.2.2.2.2.2.2.2.2.2.1, u_9.2.2.2.2.2.2.2.2.2.2.2))
              (some (.inl u_9.2.2.1.toInt64, u_5.1, u_9.2.1, u_5.2.1, u_5.2.2, u_9.1, u_9.2.1, u_9.2.2.1, u_9.2.2.2.1, u_9.2.2.2.2.1, u_9.2.2.2.2.2.1, u_9.2.2.2.2.2.2.1, u_9.2.2.2.2.2.2.2.1, u_9.2.2.2.2.2.2.2.2.1, u_9.2.2.2.2.2.2.2.2.2.1, u_9.2.2.2.2.2.2.2.2.2.2.1, u_9.2.2.2.2.2.2.2.2.2.2.2))))))
      (some (.inr 0, f0_rowsFresh, f0_latestNodes, f0_base_impossible, h0_base_byHead, f0_search_pileSize, f0_search_nodeCount, f0_search_modelCount, f0_search_lastModel, f0_search_cut, f0_search_start_taken, f0_search_start_ones, f0_search_start_rows_impossible, h0_search_start_rows_byHead, h0_search_pileRows, h0_search_pileTaken, h0_search_pileOnes)))
noncomputable def D_X7_must (f0_n : Int32) (f0_rowsFresh : Bool) (f0_latestNodes : Int32) (f0_store_equationCount : Int32) (f0_store_clauseCount : Int32) (n0_store_equations : Nat) (h0_store_equations : Nat → Int64) (n0_store_yes : Nat) (h0_store_yes : Nat → Int64) (n0_store_no : Nat) (h0_store_no : Nat → Int64) (f0_base_n : Int32) (f0_base_impossible : Bool) (n0_base_byHead : Nat) (h0_base_byHead : Nat → Int64) (f0_search_n : Int32) (f0_search_pileSize : Int32) (f0_search_nodeCount : Int32) (f0_search_modelCount : Int32) (f0_search_lastModel : Int64) (f0_search_cut : Bool) (f0_search_start_n : Int32) (f0_search_start_taken : Int64) (f0_search_start_ones : Int64) (f0_search_start_rows_n : Int32) (f0_search_start_rows_impossible : Bool) (n0_search_start_rows_byHead : Nat) (h0_search_start_rows_byHead : Nat → Int64) (n0_search_pileRows : Nat) (h0_search_pileRows : Nat → Int64) (n0_search_pileTaken : Nat) (h0_search_pileTaken : Nat → Int64) (n0_search_pileOnes : Nat) (h0_search_pileOnes : Nat → Int64) (x1 : Int32) (x2 : Int32) : Option ((Int32 ⊕ Nat) × Bool × Int32 × Bool × (Nat → Int64) × Int32 × Int32 × Int32 × Int64 × Bool × Int64 × Int64 × Bool × (Nat → Int64) × (Nat → Int64) × (Nat → Int64) × (Nat → Int64)) :=
  cif (x1 < (1 : Int32))
    (some (.inr 2, f0_rowsFresh, f0_latestNodes, f0_base_impossible, h0_base_byHead, f0_search_pileSize, f0_search_nodeCount, f0_search_modelCount, f0_search_lastModel, f0_search_cut, f0_search_start_taken, f0_search_start_ones, f0_search_start_rows_impossible, h0_search_start_rows_byHead, h0_search_pileRows, h0_search_pileTaken, h0_search_pileOnes))
    (cif (x1 ≤ f0_n)
      (Option.bind (D_X7_areNodes x2) (fun u_5 =>
        cif (u_5 = true)
          (Option.bind (D_X7_freshenRows f0_rowsFresh f0_store_equationCount n0_store_equations h0_store_equations f0_base_n f0_base_impossible n0_base_byHead h0_base_byHead) (fun u_9 =>
            Option.bind (D_X3_begin f0_search_pileSize f0_search_nodeCount f0_search_modelCount f0_search_cut f0_search_start_taken f0_search_start_ones f0_search_start_rows_n f0_search_start_rows_impossible n0_search_start_rows_byHead h0_search_start_rows_byHead f0_base_n u_9.2.1 n0_base_byHead u_9.2.2) (fun u_11 =>
              Option.bind (D_X5_take u_11.2.2.2.2.1 u_11.2.2.2.2.2.1 f0_search_start_rows_n u_11.2.2.2.2.2.2.1 n0_search_start_rows_byHead u_11.2.2.2.2.2.2.2 (x1 - (1 : Int32)) false) (fun u_13 =>
                Option.bind (D_X3_run f0_search_n u_11.1 u_11.2.1 u_11.2.2.1 f0_search_lastModel u_11.2.2.2.1 f0_search_start_n u_13.1 u_13.2.1 f0_search_start_rows_n u_13.2.2.1 n0_search_start_rows_byHead u_13.2.2.2 n0_search_pileRows h0_search_pileRows n0_search_pileTaken h0_search_pileTaken n0_search_pileOnes h0_search_pileOnes f0_store_clauseCount n0_store_yes h0_store_yes n0_store_no h0_store_no x2 true) (fun u_15 =>
                  cif (u_15.2.2.2.2.1 = true)
                    (some (.inl (-2 : Int32), u_9.1, u_15.2.1, u_9.2.1, u_9.2.2, u_15.1, u_15.2.1, u_15.2.2.1, u_15.2.2.2.1, u_15.2.2.2.2.1, u_15.2.2.2.2.2.1, u_15.2.2.2.2.2.2.1, u_15.2.2.2.2.2.2.2.1, u_15.2.2.2.2.2.2.2.2.1, u_15.2.2.2.2.2.2.2.2.2.1, u_15.2.2.2.2.2.2.2.2.2.2.1, u_15.2.2.2.2.2.2.2.2.2.2.2))
                    (Option.bind (D_X3_begin u_15.1 u_15.2.1 u_15.2.2.1 u_15.2.2.2.2.1 u_15.2.2.2.2.2.1 u_15.2.2.2.2.2.2.1 f0_search_start_rows_n u_15.2.2.2.2.2.2.2.1 n0_search_start_rows_byHead u_15.2.2.2.2.2.2.2.2.1 f0_base_n u_9.2.1 n0_base_byHead u_9.2.2) (fun u_19 =>
                      Option.bind (D_X5_take u_19.2.2.2.2.1 u_19.2.2.2.2.2.1 f0_search_start_rows_n u_19.2.2.2.2.2.2.1 n0_search_start_rows_byHead u_19.2.2.2.2.2.2.2 (x1 - (1 : Int32)) true) (fun u_21 =>
                        Option.bind (D_X3_run f0_search_n u_19.1 u_19.2.1 u_19.2.2.1 u_15.2.2.2.1 u_19.2.2.2.1 f0_search_start_n u_21.1 u_21.2.1 f0_search_start_rows_n u_21.2.2.1 n0_search_start_rows_byHead u_21.2.2.2 n0_search_pileRows u_15.2.2.2.2.2.2.2.2.2.1 n0_search_pileTaken u_15.2.2.2.2.2.2.2.2.2.2.1 n0_search_pileOnes u_15.2.2.2.2.2.2.2.2.2.2.2 f0_store_clauseCount n0_store_yes h0_store_yes n0_store_no h0_store_no x2 true) (fun u_23 =>
                          cif (u_23.2.2.2.2.1 = true)
                            (some (.inl (-2 : Int32), u_9.1, u_15.2.1 + u_23.2.1, u_9.2.1, u_9.2.2, u_23.1, u_23.2.1, u_23.2.2.1, u_23.2.2.2.1, u_23.2.2.2.2.1, u_23.2.2.2.2.2.1, u_23.2.2.2.2.2.2.1, u_23.2.2.2.2.2.2.2.1, u_23.2.2.2.2.2.2.2.2.1, u_23.2.2.2.2.2.2.2.2.2.1, u_23.2.2.2.2.2.2.2.2.2.2.1, u_23.2.2.2.2.2.2.2.2.2.2.2))
                            (cif (u_23.2.2.1 = u_15.2.2.1)
                              (some (.inl (-1 : Int32), u_9.1, u_15.2.1 + u_23.2.1, u_9.2.1, u_9.2.2, u_23.1, u_23.2.1, u_23.2.2.1, u_23.2.2.2.1, u_23.2.2.2.2.1, u_23.2.2.2.2.2.1, u_23.2.2.2.2.2.2.1, u_23.2.2.2.2.2.2.2.1, u_23.2.2.2.2.2.2.2.2.1, u_23.2.2.2.2.2.2.2.2.2.1, u_23.2.2.2.2.2.2.2.2.2.2.1, u_23.2.2.2.2.2.2.2.2.2.2.2))
                              (some (.inl u_23.2.2.1, u_9.1, u_15.2.1 + u_23.2.1, u_9.2.1, u_9.2.2, u_23.1, u_23.2.1, u_23.2.2.1, u_23.2.2.2.1, u_23.2.2.2.2.1, u_23.2.2.2.2.2.1, u_23.2.2.2.2.2.2.1, u_23.2.2.2.2.2.2.2.1, u_23.2.2.2.2.2.2.2.2.1, u_23.2.2.2.2.2.2.2.2.2.1, u_23.2.2.2.2.2.2.2.2.2.2.1, u_23.2.2.2.2.2.2.2.2.2.2.2))))))))))))
          (some (.inr 0, f0_rowsFresh, f0_latestNodes, f0_base_impossible, h0_base_byHead, f0_search_pileSize, f0_search_nodeCount, f0_search_modelCount, f0_search_lastModel, f0_search_cut, f0_search_start_taken, f0_search_start_ones, f0_search_start_rows_impossible, h0_search_start_rows_byHead, h0_search_pileRows, h0_search_pileTaken, h0_search_pileOnes))))
      (some (.inr 2, f0_rowsFresh, f0_latestNodes, f0_base_impossible, h0_base_byHead, f0_search_pileSize, f0_search_nodeCount, f0_search_modelCount, f0_search_lastModel, f0_search_cut, f0_search_start_taken, f0_search_start_ones, f0_search_start_rows_impossible, h0_search_start_rows_byHead, h0_search_pileRows, h0_search_pileTaken, h0_search_pileOnes)))
noncomputable def D_X7_gate (f0_gatesFresh : Bool) (f0_store_clauseCount : Int32) (n0_store_yes : Nat) (h0_store_yes : Nat → Int64) (n0_store_no : Nat) (h0_store_no : Nat → Int64) (f0_gateList_size : Int32) (n0_gateList_found : Nat) (h0_gateList_found : Nat → Int64) (x1 : Int32) : Option ((Int64 ⊕ Nat) × Bool × Int32 × (Nat → Int64)) :=
  Option.bind (D_X7_freshenGates f0_gatesFresh f0_store_clauseCount n0_store_yes h0_store_yes n0_store_no h0_store_no f0_gateList_size n0_gateList_found h0_gateList_found) (fun u_1 =>
    cif (x1 < 0)
      (some (.inr 2, u_1.1, u_1.2.1, u_1.2.2))
      (cif (x1 < u_1.2.1)
        (cif (vp_in x1 n0_gateList_found)
          (some (.inl (u_1.2.2 x1.toNatClampNeg), u_1.1, u_1.2.1, u_1.2.2))
          (none))
        (some (.inr 2, u_1.1, u_1.2.1, u_1.2.2))))
noncomputable def D_X7_count (f0_n : Int32) (f0_store_equationCount : Int32) (f0_store_clauseCount : Int32) (f0_store_levelCount : Int32) (f0_tape_length : Int32) (x1 : Int32) : Option ((Int32 ⊕ Nat)) :=
  cif (x1.toInt = (0 : Int))
    (some (.inl f0_n))
    (cif (x1.toInt = (1 : Int))
      (some (.inl f0_store_equationCount))
      (cif (x1.toInt = (2 : Int))
        (some (.inl f0_store_clauseCount))
        (cif (x1.toInt = (3 : Int))
          (some (.inl f0_store_levelCount))
          (cif (x1.toInt = (4 : Int))
            (some (.inl f0_tape_length))
            (some (.inr 0))))))
noncomputable def D_X8_thrown (f0_thrown : Int32) : Option (Int32) :=
  some f0_thrown
noncomputable def D_X8_isIn (x0 : Int64) (x2 : Int64) (x4 : Int64) : Option (Bool) :=
  cif (x0 < x2)
    (some false)
    (cif (x4 < x0)
      (some false)
      (some true))
noncomputable def D_X8_may (f0_thrown : Int32) (x1 : Bool) (x2 : Bool) : Option (Bool × Int32) :=
  cif (x1 = true)
    (cif (x2 = true)
      (some (true, (0 : Int32)))
      (some (false, (2 : Int32))))
    (some (false, (1 : Int32)))
noncomputable def D_X8_areThere (f0_n : Int32) (x1 : Int64) : Option (Bool) :=
  cif ((jshr x1 f0_n) = (0 : Int64))
    (some true)
    (some false)
abbrev S_X8_bits : Type := (Int32 × Int32)
noncomputable def b_X8_bits_4 (x0 : Int64) (x2 : Int32) (x3 : Int32) : Option (Int32) ⊕ S_X8_bits :=
  cif ((63 : Int32) ≤ x3)
    (.inl (some x2))
    (cif (((jshr x0 x3) &&& (1 : Int64)) = (1 : Int64))
      (.inr (x2 + (1 : Int32), x3 + (1 : Int32)))
      (.inr (x2 + (0 : Int32), x3 + (1 : Int32))))
noncomputable def st_X8_bits (x0 : Int64) : S_X8_bits → Option (Int32) ⊕ S_X8_bits := fun x => match x with
  | (x2, x3) => b_X8_bits_4 x0 x2 x3
noncomputable def L_X8_bits_4 (x0 : Int64) (x2 : Int32) (x3 : Int32) : Option (Int32) := runw (st_X8_bits x0) (x2, x3)
theorem E_X8_bits_4 (x0 : Int64) (x2 : Int32) (x3 : Int32) : L_X8_bits_4 x0 x2 x3 =
    cif ((63 : Int32) ≤ x3)
      (some x2)
      (cif (((jshr x0 x3) &&& (1 : Int64)) = (1 : Int64))
        (L_X8_bits_4 x0 (x2 + (1 : Int32)) (x3 + (1 : Int32)))
        (L_X8_bits_4 x0 (x2 + (0 : Int32)) (x3 + (1 : Int32)))) := by
  show runw (st_X8_bits x0) (x2, x3) = _
  rw [runw_eq]
  show run1 _ (b_X8_bits_4 x0 x2 x3) = _
  simp only [b_X8_bits_4, run1_cif, run1_sbd, run1_inl, run1_inr]
  try rfl
noncomputable def D_X8_bits (x0 : Int64) : Option (Int32) :=
  L_X8_bits_4 x0 (0 : Int32) (0 : Int32)
noncomputable def D_X8_parity (x0 : Int64) : Option (Int32) :=
  Option.bind (D_X8_bits x0) (fun u_1 =>
    some (u_1 &&& (1 : Int32)))
noncomputable def D_X8_lowest (x0 : Int64) : Option (Int64) :=
  some (x0 &&& (-x0))
abbrev S_X8_highest : Type := (Int64)
noncomputable def b_X8_highest_4 (x0 : Int64) (x2 : Int64) : Option (Int64) ⊕ S_X8_highest :=
  cif ((x0 &&& x2) = (0 : Int64))
    (.inr (jshr x2 (1 : Int32)))
    (.inl (some x2))
noncomputable def st_X8_highest (x0 : Int64) : S_X8_highest → Option (Int64) ⊕ S_X8_highest := fun x => match x with
  | x2 => b_X8_highest_4 x0 x2
noncomputable def L_X8_highest_4 (x0 : Int64) (x2 : Int64) : Option (Int64) := runw (st_X8_highest x0) x2
theorem E_X8_highest_4 (x0 : Int64) (x2 : Int64) : L_X8_highest_4 x0 x2 =
    cif ((x0 &&& x2) = (0 : Int64))
      (L_X8_highest_4 x0 (jshr x2 (1 : Int32)))
      (some x2) := by
  show runw (st_X8_highest x0) x2 = _
  rw [runw_eq]
  show run1 _ (b_X8_highest_4 x0 x2) = _
  simp only [b_X8_highest_4, run1_cif, run1_sbd, run1_inl, run1_inr]
  try rfl
noncomputable def D_X8_highest (x0 : Int64) : Option (Int64) :=
  L_X8_highest_4 x0 (4611686018427387904 : Int64)
noncomputable def D_X8_equation (f0_thrown : Int32) (f0_n : Int32) (f0_equations : Int32) (n0_eSet : Nat) (h0_eSet : Nat → Int64) (n0_eRight : Nat) (h0_eRight : Nat → Int32) (x1 : Int64) (x3 : Int32) : Option (Int32 × Int32 × Int32 × (Nat → Int64) × (Nat → Int32)) :=
  Option.bind (D_X8_areThere f0_n x1) (fun u_1 =>
    cif (u_1 = true)
      (Option.bind (D_X8_isIn x3.toInt64 (0 : Int64) (1 : Int64)) (fun u_19 =>
        cif (u_19 = true)
          (cif ((60 : Int32) ≤ f0_equations)
            (Option.bind (D_X8_may f0_thrown true false) (fun u_39 =>
              cif (u_39.1 = true)
                (cif (vp_in f0_equations n0_eSet)
                  (cif (vp_in f0_equations n0_eRight)
                    (some ((f0_equations + (1 : Int32)) - (1 : Int32), u_39.2, f0_equations + (1 : Int32), vp_updL h0_eSet f0_equations.toNatClampNeg x1, upd h0_eRight f0_equations.toNatClampNeg x3))
                    (none))
                  (none))
                (some ((0 : Int32), u_39.2, f0_equations, h0_eSet, h0_eRight))))
            (Option.bind (D_X8_may f0_thrown true true) (fun u_45 =>
              cif (u_45.1 = true)
                (cif (vp_in f0_equations n0_eSet)
                  (cif (vp_in f0_equations n0_eRight)
                    (some ((f0_equations + (1 : Int32)) - (1 : Int32), u_45.2, f0_equations + (1 : Int32), vp_updL h0_eSet f0_equations.toNatClampNeg x1, upd h0_eRight f0_equations.toNatClampNeg x3))
                    (none))
                  (none))
                (some ((0 : Int32), u_45.2, f0_equations, h0_eSet, h0_eRight)))))
          (cif ((60 : Int32) ≤ f0_equations)
            (Option.bind (D_X8_may f0_thrown false false) (fun u_25 =>
              cif (u_25.1 = true)
                (cif (vp_in f0_equations n0_eSet)
                  (cif (vp_in f0_equations n0_eRight)
                    (some ((f0_equations + (1 : Int32)) - (1 : Int32), u_25.2, f0_equations + (1 : Int32), vp_updL h0_eSet f0_equations.toNatClampNeg x1, upd h0_eRight f0_equations.toNatClampNeg x3))
                    (none))
                  (none))
                (some ((0 : Int32), u_25.2, f0_equations, h0_eSet, h0_eRight))))
            (Option.bind (D_X8_may f0_thrown false true) (fun u_31 =>
              cif (u_31.1 = true)
                (cif (vp_in f0_equations n0_eSet)
                  (cif (vp_in f0_equations n0_eRight)
                    (some ((f0_equations + (1 : Int32)) - (1 : Int32), u_31.2, f0_equations + (1 : Int32), vp_updL h0_eSet f0_equations.toNatClampNeg x1, upd h0_eRight f0_equations.toNatClampNeg x3))
                    (none))
                  (none))
                (some ((0 : Int32), u_31.2, f0_equations, h0_eSet, h0_eRight)))))))
      (cif ((60 : Int32) ≤ f0_equations)
        (Option.bind (D_X8_may f0_thrown false false) (fun u_7 =>
          cif (u_7.1 = true)
            (cif (vp_in f0_equations n0_eSet)
              (cif (vp_in f0_equations n0_eRight)
                (some ((f0_equations + (1 : Int32)) - (1 : Int32), u_7.2, f0_equations + (1 : Int32), vp_updL h0_eSet f0_equations.toNatClampNeg x1, upd h0_eRight f0_equations.toNatClampNeg x3))
                (none))
              (none))
            (some ((0 : Int32), u_7.2, f0_equations, h0_eSet, h0_eRight))))
        (Option.bind (D_X8_may f0_thrown false true) (fun u_13 =>
          cif (u_13.1 = true)
            (cif (vp_in f0_equations n0_eSet)
              (cif (vp_in f0_equations n0_eRight)
                (some ((f0_equations + (1 : Int32)) - (1 : Int32), u_13.2, f0_equations + (1 : Int32), vp_updL h0_eSet f0_equations.toNatClampNeg x1, upd h0_eRight f0_equations.toNatClampNeg x3))
                (none))
              (none))
            (some ((0 : Int32), u_13.2, f0_equations, h0_eSet, h0_eRight))))))
noncomputable def D_X8_clause (f0_thrown : Int32) (f0_n : Int32) (f0_clauses : Int32) (n0_cYes : Nat) (h0_cYes : Nat → Int64) (n0_cNo : Nat) (h0_cNo : Nat → Int64) (x1 : Int64) (x3 : Int64) : Option (Int32 × Int32 × Int32 × (Nat → Int64) × (Nat → Int64)) :=
  Option.bind (D_X8_areThere f0_n x1) (fun u_1 =>
    cif (u_1 = true)
      (Option.bind (D_X8_areThere f0_n x3) (fun u_19 =>
        cif (u_19 = true)
          (cif ((x1 &&& x3) = (0 : Int64))
            (cif ((60 : Int32) ≤ f0_clauses)
              (Option.bind (D_X8_may f0_thrown true false) (fun u_55 =>
                cif (u_55.1 = true)
                  (cif (vp_in f0_clauses n0_cYes)
                    (cif (vp_in f0_clauses n0_cNo)
                      (some ((f0_clauses + (1 : Int32)) - (1 : Int32), u_55.2, f0_clauses + (1 : Int32), vp_updL h0_cYes f0_clauses.toNatClampNeg x1, vp_updL h0_cNo f0_clauses.toNatClampNeg x3))
                      (none))
                    (none))
                  (some ((0 : Int32), u_55.2, f0_clauses, h0_cYes, h0_cNo))))
              (Option.bind (D_X8_may f0_thrown true true) (fun u_61 =>
                cif (u_61.1 = true)
                  (cif (vp_in f0_clauses n0_cYes)
                    (cif (vp_in f0_clauses n0_cNo)
                      (some ((f0_clauses + (1 : Int32)) - (1 : Int32), u_61.2, f0_clauses + (1 : Int32), vp_updL h0_cYes f0_clauses.toNatClampNeg x1, vp_updL h0_cNo f0_clauses.toNatClampNeg x3))
                      (none))
                    (none))
                  (some ((0 : Int32), u_61.2, f0_clauses, h0_cYes, h0_cNo)))))
            (cif ((60 : Int32) ≤ f0_clauses)
              (Option.bind (D_X8_may f0_thrown false false) (fun u_41 =>
                cif (u_41.1 = true)
                  (cif (vp_in f0_clauses n0_cYes)
                    (cif (vp_in f0_clauses n0_cNo)
                      (some ((f0_clauses + (1 : Int32)) - (1 : Int32), u_41.2, f0_clauses + (1 : Int32), vp_updL h0_cYes f0_clauses.toNatClampNeg x1, vp_updL h0_cNo f0_clauses.toNatClampNeg x3))
                      (none))
                    (none))
                  (some ((0 : Int32), u_41.2, f0_clauses, h0_cYes, h0_cNo))))
              (Option.bind (D_X8_may f0_thrown false true) (fun u_47 =>
                cif (u_47.1 = true)
                  (cif (vp_in f0_clauses n0_cYes)
                    (cif (vp_in f0_clauses n0_cNo)
                      (some ((f0_clauses + (1 : Int32)) - (1 : Int32), u_47.2, f0_clauses + (1 : Int32), vp_updL h0_cYes f0_clauses.toNatClampNeg x1, vp_updL h0_cNo f0_clauses.toNatClampNeg x3))
                      (none))
                    (none))
                  (some ((0 : Int32), u_47.2, f0_clauses, h0_cYes, h0_cNo))))))
          (cif ((60 : Int32) ≤ f0_clauses)
            (Option.bind (D_X8_may f0_thrown false false) (fun u_25 =>
              cif (u_25.1 = true)
                (cif (vp_in f0_clauses n0_cYes)
                  (cif (vp_in f0_clauses n0_cNo)
                    (some ((f0_clauses + (1 : Int32)) - (1 : Int32), u_25.2, f0_clauses + (1 : Int32), vp_updL h0_cYes f0_clauses.toNatClampNeg x1, vp_updL h0_cNo f0_clauses.toNatClampNeg x3))
                    (none))
                  (none))
                (some ((0 : Int32), u_25.2, f0_clauses, h0_cYes, h0_cNo))))
            (Option.bind (D_X8_may f0_thrown false true) (fun u_31 =>
              cif (u_31.1 = true)
                (cif (vp_in f0_clauses n0_cYes)
                  (cif (vp_in f0_clauses n0_cNo)
                    (some ((f0_clauses + (1 : Int32)) - (1 : Int32), u_31.2, f0_clauses + (1 : Int32), vp_updL h0_cYes f0_clauses.toNatClampNeg x1, vp_updL h0_cNo f0_clauses.toNatClampNeg x3))
                    (none))
                  (none))
                (some ((0 : Int32), u_31.2, f0_clauses, h0_cYes, h0_cNo)))))))
      (cif ((60 : Int32) ≤ f0_clauses)
        (Option.bind (D_X8_may f0_thrown false false) (fun u_7 =>
          cif (u_7.1 = true)
            (cif (vp_in f0_clauses n0_cYes)
              (cif (vp_in f0_clauses n0_cNo)
                (some ((f0_clauses + (1 : Int32)) - (1 : Int32), u_7.2, f0_clauses + (1 : Int32), vp_updL h0_cYes f0_clauses.toNatClampNeg x1, vp_updL h0_cNo f0_clauses.toNatClampNeg x3))
                (none))
              (none))
            (some ((0 : Int32), u_7.2, f0_clauses, h0_cYes, h0_cNo))))
        (Option.bind (D_X8_may f0_thrown false true) (fun u_13 =>
          cif (u_13.1 = true)
            (cif (vp_in f0_clauses n0_cYes)
              (cif (vp_in f0_clauses n0_cNo)
                (some ((f0_clauses + (1 : Int32)) - (1 : Int32), u_13.2, f0_clauses + (1 : Int32), vp_updL h0_cYes f0_clauses.toNatClampNeg x1, vp_updL h0_cNo f0_clauses.toNatClampNeg x3))
                (none))
              (none))
            (some ((0 : Int32), u_13.2, f0_clauses, h0_cYes, h0_cNo))))))
noncomputable def D_X8_push (f0_thrown : Int32) (f0_equations : Int32) (f0_clauses : Int32) (f0_levels : Int32) (n0_levelEquations : Nat) (h0_levelEquations : Nat → Int32) (n0_levelClauses : Nat) (h0_levelClauses : Nat → Int32) : Option (Int32 × Int32 × Int32 × (Nat → Int32) × (Nat → Int32)) :=
  cif ((20 : Int32) ≤ f0_levels)
    (Option.bind (D_X8_may f0_thrown false true) (fun u_3 =>
      cif (u_3.1 = true)
        (cif (vp_in f0_levels n0_levelEquations)
          (cif (vp_in f0_levels n0_levelClauses)
            (some (f0_levels + (1 : Int32), u_3.2, f0_levels + (1 : Int32), upd h0_levelEquations f0_levels.toNatClampNeg f0_equations, upd h0_levelClauses f0_levels.toNatClampNeg f0_clauses))
            (none))
          (none))
        (some ((0 : Int32), u_3.2, f0_levels, h0_levelEquations, h0_levelClauses))))
    (Option.bind (D_X8_may f0_thrown true true) (fun u_9 =>
      cif (u_9.1 = true)
        (cif (vp_in f0_levels n0_levelEquations)
          (cif (vp_in f0_levels n0_levelClauses)
            (some (f0_levels + (1 : Int32), u_9.2, f0_levels + (1 : Int32), upd h0_levelEquations f0_levels.toNatClampNeg f0_equations, upd h0_levelClauses f0_levels.toNatClampNeg f0_clauses))
            (none))
          (none))
        (some ((0 : Int32), u_9.2, f0_levels, h0_levelEquations, h0_levelClauses))))
noncomputable def D_X8_pop (f0_thrown : Int32) (f0_equations : Int32) (f0_clauses : Int32) (f0_levels : Int32) (n0_levelEquations : Nat) (h0_levelEquations : Nat → Int32) (n0_levelClauses : Nat) (h0_levelClauses : Nat → Int32) (x1 : Int32) : Option (Int32 × Int32 × Int32 × Int32 × Int32) :=
  Option.bind (D_X8_isIn x1.toInt64 (0 : Int64) f0_levels.toInt64) (fun u_1 =>
    Option.bind (D_X8_may f0_thrown u_1 true) (fun u_3 =>
      cif (u_3.1 = true)
        (cif (x1 ≤ 0)
          (some (f0_equations + f0_clauses, u_3.2, f0_equations, f0_clauses, f0_levels - x1))
          (cif (vp_in (f0_levels - x1) n0_levelEquations)
            (cif (vp_in (f0_levels - x1) n0_levelClauses)
              (some ((h0_levelEquations (f0_levels - x1).toNatClampNeg) + (h0_levelClauses (f0_levels - x1).toNatClampNeg), u_3.2, h0_levelEquations (f0_levels - x1).toNatClampNeg, h0_levelClauses (f0_levels - x1).toNatClampNeg, f0_levels - x1))
              (none))
            (none)))
        (some ((0 : Int32), u_3.2, f0_equations, f0_clauses, f0_levels))))
noncomputable def D_X8_told (f0_thrown : Int32) (f0_equations : Int32) (f0_clauses : Int32) (n0_eSet : Nat) (h0_eSet : Nat → Int64) (n0_eRight : Nat) (h0_eRight : Nat → Int32) (n0_cYes : Nat) (h0_cYes : Nat → Int64) (n0_cNo : Nat) (h0_cNo : Nat → Int64) (x1 : Int32) (x2 : Int32) : Option (Int64 × Int32) :=
  Option.bind (D_X8_isIn x2.toInt64 (0 : Int64) (3 : Int64)) (fun u_1 =>
    cif (u_1 = true)
      (cif ((2 : Int32) ≤ x2)
        (Option.bind (D_X8_isIn x1.toInt64 (0 : Int64) ((f0_clauses - (1 : Int32)).toInt64)) (fun u_21 =>
          cif (u_21 = true)
            (Option.bind (D_X8_may f0_thrown true u_1) (fun u_39 =>
              cif (u_39.1 = true)
                (cif (x2 = 0)
                  (cif (vp_in x1 n0_eSet)
                    (some (h0_eSet x1.toNatClampNeg, u_39.2))
                    (none))
                  (cif (x2 = (1 : Int32))
                    (cif (vp_in x1 n0_eRight)
                      (some ((h0_eRight x1.toNatClampNeg).toInt64, u_39.2))
                      (none))
                    (cif (x2 = (2 : Int32))
                      (cif (vp_in x1 n0_cYes)
                        (some (h0_cYes x1.toNatClampNeg, u_39.2))
                        (none))
                      (cif (vp_in x1 n0_cNo)
                        (some (h0_cNo x1.toNatClampNeg, u_39.2))
                        (none)))))
                (some ((0 : Int64), u_39.2))))
            (Option.bind (D_X8_may f0_thrown false u_1) (fun u_25 =>
              cif (u_25.1 = true)
                (cif (x2 = 0)
                  (cif (vp_in x1 n0_eSet)
                    (some (h0_eSet x1.toNatClampNeg, u_25.2))
                    (none))
                  (cif (x2 = (1 : Int32))
                    (cif (vp_in x1 n0_eRight)
                      (some ((h0_eRight x1.toNatClampNeg).toInt64, u_25.2))
                      (none))
                    (cif (x2 = (2 : Int32))
                      (cif (vp_in x1 n0_cYes)
                        (some (h0_cYes x1.toNatClampNeg, u_25.2))
                        (none))
                      (cif (vp_in x1 n0_cNo)
                        (some (h0_cNo x1.toNatClampNeg, u_25.2))
                        (none)))))
                (some ((0 : Int64), u_25.2))))))
        (Option.bind (D_X8_isIn x1.toInt64 (0 : Int64) ((f0_equations - (1 : Int32)).toInt64)) (fun u_53 =>
          cif (u_53 = true)
            (Option.bind (D_X8_may f0_thrown true u_1) (fun u_71 =>
              cif (u_71.1 = true)
                (cif (x2 = 0)
                  (cif (vp_in x1 n0_eSet)
                    (some (h0_eSet x1.toNatClampNeg, u_71.2))
                    (none))
                  (cif (x2 = (1 : Int32))
                    (cif (vp_in x1 n0_eRight)
                      (some ((h0_eRight x1.toNatClampNeg).toInt64, u_71.2))
                      (none))
                    (cif (x2 = (2 : Int32))
                      (cif (vp_in x1 n0_cYes)
                        (some (h0_cYes x1.toNatClampNeg, u_71.2))
                        (none))
                      (cif (vp_in x1 n0_cNo)
                        (some (h0_cNo x1.toNatClampNeg, u_71.2))
                        (none)))))
                (some ((0 : Int64), u_71.2))))
            (Option.bind (D_X8_may f0_thrown false u_1) (fun u_57 =>
              cif (u_57.1 = true)
                (cif (x2 = 0)
                  (cif (vp_in x1 n0_eSet)
                    (some (h0_eSet x1.toNatClampNeg, u_57.2))
                    (none))
                  (cif (x2 = (1 : Int32))
                    (cif (vp_in x1 n0_eRight)
                      (some ((h0_eRight x1.toNatClampNeg).toInt64, u_57.2))
                      (none))
                    (cif (x2 = (2 : Int32))
                      (cif (vp_in x1 n0_cYes)
                        (some (h0_cYes x1.toNatClampNeg, u_57.2))
                        (none))
                      (cif (vp_in x1 n0_cNo)
                        (some (h0_cNo x1.toNatClampNeg, u_57.2))
                        (none)))))
                (some ((0 : Int64), u_57.2)))))))
      (Option.bind (D_X8_may f0_thrown true u_1) (fun u_5 =>
        cif (u_5.1 = true)
          (cif (x2 = 0)
            (cif (vp_in x1 n0_eSet)
              (some (h0_eSet x1.toNatClampNeg, u_5.2))
              (none))
            (cif (x2 = (1 : Int32))
              (cif (vp_in x1 n0_eRight)
                (some ((h0_eRight x1.toNatClampNeg).toInt64, u_5.2))
                (none))
              (cif (x2 = (2 : Int32))
                (cif (vp_in x1 n0_cYes)
                  (some (h0_cYes x1.toNatClampNeg, u_5.2))
                  (none))
                (cif (vp_in x1 n0_cNo)
                  (some (h0_cNo x1.toNatClampNeg, u_5.2))
                  (none)))))
          (some ((0 : Int64), u_5.2)))))
abbrev S_X8_feed : Type := (Int32 × Int32 × Int32 × (Nat → Int32))
noncomputable def b_X8_feed_40 (n0_tape : Nat) (x1 : Int64) (x3 : Int32) (x4 : Int32) (f0_thrown : Int32) (f0_tapeSize : Int32) (h0_tape : Nat → Int32) : Option (Int32 × Int32 × Int32 × (Nat → Int32)) ⊕ S_X8_feed :=
  cif (x4 < 0)
    (.inl (some (f0_tapeSize, f0_thrown, f0_tapeSize, h0_tape)))
    (cif (vp_in f0_tapeSize n0_tape)
      (.inr (x4 + (-1 : Int32), f0_thrown, f0_tapeSize + (1 : Int32), upd h0_tape f0_tapeSize.toNatClampNeg (((jshr x1 ((8 : Int32) * x4)) &&& (255 : Int64)).toInt32)))
      (.inl none))
noncomputable def st_X8_feed (n0_tape : Nat) (x1 : Int64) (x3 : Int32) : S_X8_feed → Option (Int32 × Int32 × Int32 × (Nat → Int32)) ⊕ S_X8_feed := fun x => match x with
  | (x4, f0_thrown, f0_tapeSize, h0_tape) => b_X8_feed_40 n0_tape x1 x3 x4 f0_thrown f0_tapeSize h0_tape
noncomputable def L_X8_feed_40 (n0_tape : Nat) (x1 : Int64) (x3 : Int32) (x4 : Int32) (f0_thrown : Int32) (f0_tapeSize : Int32) (h0_tape : Nat → Int32) : Option (Int32 × Int32 × Int32 × (Nat → Int32)) := runw (st_X8_feed n0_tape x1 x3) (x4, f0_thrown, f0_tapeSize, h0_tape)
theorem E_X8_feed_40 (n0_tape : Nat) (x1 : Int64) (x3 : Int32) (x4 : Int32) (f0_thrown : Int32) (f0_tapeSize : Int32) (h0_tape : Nat → Int32) : L_X8_feed_40 n0_tape x1 x3 x4 f0_thrown f0_tapeSize h0_tape =
    cif (x4 < 0)
      (some (f0_tapeSize, f0_thrown, f0_tapeSize, h0_tape))
      (cif (vp_in f0_tapeSize n0_tape)
        (L_X8_feed_40 n0_tape x1 x3 (x4 + (-1 : Int32)) f0_thrown (f0_tapeSize + (1 : Int32)) (upd h0_tape f0_tapeSize.toNatClampNeg (((jshr x1 ((8 : Int32) * x4)) &&& (255 : Int64)).toInt32)))
        (none)) := by
  show runw (st_X8_feed n0_tape x1 x3) (x4, f0_thrown, f0_tapeSize, h0_tape) = _
  rw [runw_eq]
  show run1 _ (b_X8_feed_40 n0_tape x1 x3 x4 f0_thrown f0_tapeSize h0_tape) = _
  simp only [b_X8_feed_40, run1_cif, run1_sbd, run1_inl, run1_inr]
  try rfl
noncomputable def D_X8_feed (f0_thrown : Int32) (f0_tapeSize : Int32) (n0_tape : Nat) (h0_tape : Nat → Int32) (x1 : Int64) (x3 : Int32) : Option (Int32 × Int32 × Int32 × (Nat → Int32)) :=
  Option.bind (D_X8_isIn x3.toInt64 (1 : Int64) (8 : Int64)) (fun u_1 =>
    cif ((500 : Int32) < (f0_tapeSize + x3))
      (Option.bind (D_X8_may f0_thrown u_1 false) (fun u_5 =>
        cif (u_5.1 = true)
          (L_X8_feed_40 n0_tape x1 x3 (x3 - (1 : Int32)) u_5.2 f0_tapeSize h0_tape)
          (some ((0 : Int32), u_5.2, f0_tapeSize, h0_tape))))
      (Option.bind (D_X8_may f0_thrown u_1 true) (fun u_9 =>
        cif (u_9.1 = true)
          (L_X8_feed_40 n0_tape x1 x3 (x3 - (1 : Int32)) u_9.2 f0_tapeSize h0_tape)
          (some ((0 : Int32), u_9.2, f0_tapeSize, h0_tape)))))
noncomputable def D_X8_fail (f0_faultIs : Int32) (f0_faultAt : Int32) (x1 : Int32) (x2 : Int32) : Option (Int32 × Int32) :=
  cif (f0_faultIs = 0)
    (some (x1, x2))
    (some (f0_faultIs, f0_faultAt))
noncomputable def D_X8_isBlank (x0 : Int32) : Option (Bool) :=
  cif (x0 = (32 : Int32))
    (some true)
    (cif (x0 = (10 : Int32))
      (some true)
      (some false))
noncomputable def D_X8_here (f0_tapeSize : Int32) (f0_at : Int32) (n0_tape : Nat) (h0_tape : Nat → Int32) : Option (Int32) :=
  cif (f0_tapeSize ≤ f0_at)
    (some (-1 : Int32))
    (cif (vp_in f0_at n0_tape)
      (some (h0_tape f0_at.toNatClampNeg))
      (none))
abbrev S_X8_skip : Type := (Int32)
noncomputable def b_X8_skip_0 (f0_tapeSize : Int32) (n0_tape : Nat) (h0_tape : Nat → Int32) (f0_at : Int32) : Option (Int32) ⊕ S_X8_skip :=
  sbd (D_X8_here f0_tapeSize f0_at n0_tape h0_tape) (fun u_1 =>
    sbd (D_X8_isBlank u_1) (fun u_3 =>
      cif (u_3 = true)
        (.inr (f0_at + (1 : Int32)))
        (.inl (some f0_at))))
noncomputable def st_X8_skip (f0_tapeSize : Int32) (n0_tape : Nat) (h0_tape : Nat → Int32) : S_X8_skip → Option (Int32) ⊕ S_X8_skip := fun x => match x with
  | f0_at => b_X8_skip_0 f0_tapeSize n0_tape h0_tape f0_at
noncomputable def L_X8_skip_0 (f0_tapeSize : Int32) (n0_tape : Nat) (h0_tape : Nat → Int32) (f0_at : Int32) : Option (Int32) := runw (st_X8_skip f0_tapeSize n0_tape h0_tape) f0_at
theorem E_X8_skip_0 (f0_tapeSize : Int32) (n0_tape : Nat) (h0_tape : Nat → Int32) (f0_at : Int32) : L_X8_skip_0 f0_tapeSize n0_tape h0_tape f0_at =
    Option.bind (D_X8_here f0_tapeSize f0_at n0_tape h0_tape) (fun u_1 =>
      Option.bind (D_X8_isBlank u_1) (fun u_3 =>
        cif (u_3 = true)
          (L_X8_skip_0 f0_tapeSize n0_tape h0_tape (f0_at + (1 : Int32)))
          (some f0_at))) := by
  show runw (st_X8_skip f0_tapeSize n0_tape h0_tape) f0_at = _
  rw [runw_eq]
  show run1 _ (b_X8_skip_0 f0_tapeSize n0_tape h0_tape f0_at) = _
  simp only [b_X8_skip_0, run1_cif, run1_sbd, run1_inl, run1_inr]
  try rfl
noncomputable def D_X8_skip (f0_tapeSize : Int32) (f0_at : Int32) (n0_tape : Nat) (h0_tape : Nat → Int32) : Option (Int32) :=
  L_X8_skip_0 f0_tapeSize n0_tape h0_tape f0_at
noncomputable def D_X8_isFigure (x0 : Int32) : Option (Bool) :=
  cif (x0 < (48 : Int32))
    (some false)
    (cif ((57 : Int32) < x0)
      (some false)
      (some true))
noncomputable def D_X8_parted (f0_tapeSize : Int32) (f0_faultIs : Int32) (f0_faultAt : Int32) (f0_at : Int32) (n0_tape : Nat) (h0_tape : Nat → Int32) : Option (Int32 × Int32) :=
  Option.bind (D_X8_here f0_tapeSize f0_at n0_tape h0_tape) (fun u_1 =>
    cif (u_1 = (-1 : Int32))
      (some (f0_faultIs, f0_faultAt))
      (Option.bind (D_X8_here f0_tapeSize f0_at n0_tape h0_tape) (fun u_5 =>
        Option.bind (D_X8_isBlank u_5) (fun u_7 =>
          cif (u_7 = true)
            (some (f0_faultIs, f0_faultAt))
            (Option.bind (D_X8_fail f0_faultIs f0_faultAt (1 : Int32) f0_at) (fun u_11 =>
              some (u_11.1, u_11.2)))))))
abbrev S_X8_readNumber : Type := (Int32 × Int32 × Int32 × Int32 × Int32)
noncomputable def b_X8_readNumber_7 (f0_n : Int32) (f0_tapeSize : Int32) (n0_tape : Nat) (h0_tape : Nat → Int32) (x1 : Int32) (x2 : Int32) (f0_faultIs : Int32) (f0_faultAt : Int32) (f0_at : Int32) : Option (Int32 × Int32 × Int32 × Int32) ⊕ S_X8_readNumber :=
  sbd (D_X8_here f0_tapeSize f0_at n0_tape h0_tape) (fun u_1 =>
    sbd (D_X8_isFigure u_1) (fun u_3 =>
      cif (u_3 = true)
        (cif (x2 ≤ f0_n)
          (sbd (D_X8_here f0_tapeSize f0_at n0_tape h0_tape) (fun u_17 =>
            .inr (x1, (((10 : Int32) * x2) + u_17) - (48 : Int32), f0_faultIs, f0_faultAt, f0_at + (1 : Int32))))
          (.inr (x1, x2, f0_faultIs, f0_faultAt, f0_at + (1 : Int32))))
        (cif (x2 ≤ f0_n)
          (sbd (D_X8_parted f0_tapeSize f0_faultIs f0_faultAt f0_at n0_tape h0_tape) (fun u_9 =>
            .inl (some (x2, u_9.1, u_9.2, f0_at))))
          (sbd (D_X8_fail f0_faultIs f0_faultAt (2 : Int32) x1) (fun u_11 =>
            sbd (D_X8_parted f0_tapeSize u_11.1 u_11.2 f0_at n0_tape h0_tape) (fun u_13 =>
              .inl (some (x2, u_13.1, u_13.2, f0_at))))))))
noncomputable def st_X8_readNumber (f0_n : Int32) (f0_tapeSize : Int32) (n0_tape : Nat) (h0_tape : Nat → Int32) : S_X8_readNumber → Option (Int32 × Int32 × Int32 × Int32) ⊕ S_X8_readNumber := fun x => match x with
  | (x1, x2, f0_faultIs, f0_faultAt, f0_at) => b_X8_readNumber_7 f0_n f0_tapeSize n0_tape h0_tape x1 x2 f0_faultIs f0_faultAt f0_at
noncomputable def L_X8_readNumber_7 (f0_n : Int32) (f0_tapeSize : Int32) (n0_tape : Nat) (h0_tape : Nat → Int32) (x1 : Int32) (x2 : Int32) (f0_faultIs : Int32) (f0_faultAt : Int32) (f0_at : Int32) : Option (Int32 × Int32 × Int32 × Int32) := runw (st_X8_readNumber f0_n f0_tapeSize n0_tape h0_tape) (x1, x2, f0_faultIs, f0_faultAt, f0_at)
theorem E_X8_readNumber_7 (f0_n : Int32) (f0_tapeSize : Int32) (n0_tape : Nat) (h0_tape : Nat → Int32) (x1 : Int32) (x2 : Int32) (f0_faultIs : Int32) (f0_faultAt : Int32) (f0_at : Int32) : L_X8_readNumber_7 f0_n f0_tapeSize n0_tape h0_tape x1 x2 f0_faultIs f0_faultAt f0_at =
    Option.bind (D_X8_here f0_tapeSize f0_at n0_tape h0_tape) (fun u_1 =>
      Option.bind (D_X8_isFigure u_1) (fun u_3 =>
        cif (u_3 = true)
          (cif (x2 ≤ f0_n)
            (Option.bind (D_X8_here f0_tapeSize f0_at n0_tape h0_tape) (fun u_17 =>
              L_X8_readNumber_7 f0_n f0_tapeSize n0_tape h0_tape x1 ((((10 : Int32) * x2) + u_17) - (48 : Int32)) f0_faultIs f0_faultAt (f0_at + (1 : Int32))))
            (L_X8_readNumber_7 f0_n f0_tapeSize n0_tape h0_tape x1 x2 f0_faultIs f0_faultAt (f0_at + (1 : Int32))))
          (cif (x2 ≤ f0_n)
            (Option.bind (D_X8_parted f0_tapeSize f0_faultIs f0_faultAt f0_at n0_tape h0_tape) (fun u_9 =>
              some (x2, u_9.1, u_9.2, f0_at)))
            (Option.bind (D_X8_fail f0_faultIs f0_faultAt (2 : Int32) x1) (fun u_11 =>
              Option.bind (D_X8_parted f0_tapeSize u_11.1 u_11.2 f0_at n0_tape h0_tape) (fun u_13 =>
                some (x2, u_13.1, u_13.2, f0_at))))))) := by
  show runw (st_X8_readNumber f0_n f0_tapeSize n0_tape h0_tape) (x1, x2, f0_faultIs, f0_faultAt, f0_at) = _
  rw [runw_eq]
  show run1 _ (b_X8_readNumber_7 f0_n f0_tapeSize n0_tape h0_tape x1 x2 f0_faultIs f0_faultAt f0_at) = _
  simp only [b_X8_readNumber_7, run1_cif, run1_sbd, run1_inl, run1_inr]
  try rfl
noncomputable def D_X8_readNumber (f0_n : Int32) (f0_tapeSize : Int32) (f0_faultIs : Int32) (f0_faultAt : Int32) (f0_at : Int32) (n0_tape : Nat) (h0_tape : Nat → Int32) : Option (Int32 × Int32 × Int32 × Int32) :=
  L_X8_readNumber_7 f0_n f0_tapeSize n0_tape h0_tape f0_at (0 : Int32) f0_faultIs f0_faultAt f0_at
noncomputable def D_X8_readLiteral (f0_n : Int32) (f0_tapeSize : Int32) (f0_faultIs : Int32) (f0_faultAt : Int32) (f0_at : Int32) (f0_lineYes : Int64) (f0_lineNo : Int64) (n0_tape : Nat) (h0_tape : Nat → Int32) (x1 : Bool) : Option (Int32 × Int32 × Int32 × Int64 × Int64) :=
  Option.bind (D_X8_here f0_tapeSize f0_at n0_tape h0_tape) (fun u_1 =>
    cif (u_1 = (45 : Int32))
      (Option.bind (D_X8_here f0_tapeSize (f0_at + (1 : Int32)) n0_tape h0_tape) (fun u_29 =>
        Option.bind (D_X8_isFigure u_29) (fun u_31 =>
          cif (u_31 = true)
            (Option.bind (D_X8_here f0_tapeSize (f0_at + (1 : Int32)) n0_tape h0_tape) (fun u_37 =>
              cif (u_37 = (48 : Int32))
                (Option.bind (D_X8_fail f0_faultIs f0_faultAt (1 : Int32) (f0_at + (1 : Int32))) (fun u_49 =>
                  some (u_49.1, u_49.2, f0_at + (1 : Int32), f0_lineYes, f0_lineNo)))
                (Option.bind (D_X8_readNumber f0_n f0_tapeSize f0_faultIs f0_faultAt (f0_at + (1 : Int32)) n0_tape h0_tape) (fun u_41 =>
                  cif (u_41.2.1 ≤ 0)
                    (cif (x1 = true)
                      (some (u_41.2.1, u_41.2.2.1, u_41.2.2.2, f0_lineYes ^^^ (jshl (1 : Int64) (u_41.1 - (1 : Int32))), f0_lineNo ^^^ (1 : Int64)))
                      (some (u_41.2.1, u_41.2.2.1, u_41.2.2.2, f0_lineYes, f0_lineNo ||| (jshl (1 : Int64) (u_41.1 - (1 : Int32))))))
                    (some (u_41.2.1, u_41.2.2.1, u_41.2.2.2, f0_lineYes, f0_lineNo))))))
            (Option.bind (D_X8_fail f0_faultIs f0_faultAt (1 : Int32) (f0_at + (1 : Int32))) (fun u_35 =>
              some (u_35.1, u_35.2, f0_at + (1 : Int32), f0_lineYes, f0_lineNo))))))
      (Option.bind (D_X8_here f0_tapeSize (f0_at + (0 : Int32)) n0_tape h0_tape) (fun u_6 =>
        Option.bind (D_X8_isFigure u_6) (fun u_8 =>
          cif (u_8 = true)
            (Option.bind (D_X8_here f0_tapeSize (f0_at + (0 : Int32)) n0_tape h0_tape) (fun u_14 =>
              cif (u_14 = (48 : Int32))
                (Option.bind (D_X8_fail f0_faultIs f0_faultAt (1 : Int32) (f0_at + (0 : Int32))) (fun u_26 =>
                  some (u_26.1, u_26.2, f0_at + (0 : Int32), f0_lineYes, f0_lineNo)))
                (Option.bind (D_X8_readNumber f0_n f0_tapeSize f0_faultIs f0_faultAt (f0_at + (0 : Int32)) n0_tape h0_tape) (fun u_18 =>
                  cif (u_18.2.1 ≤ 0)
                    (cif (x1 = true)
                      (some (u_18.2.1, u_18.2.2.1, u_18.2.2.2, f0_lineYes ^^^ (jshl (1 : Int64) (u_18.1 - (1 : Int32))), f0_lineNo))
                      (some (u_18.2.1, u_18.2.2.1, u_18.2.2.2, f0_lineYes ||| (jshl (1 : Int64) (u_18.1 - (1 : Int32))), f0_lineNo)))
                    (some (u_18.2.1, u_18.2.2.1, u_18.2.2.2, f0_lineYes, f0_lineNo))))))
            (Option.bind (D_X8_fail f0_faultIs f0_faultAt (1 : Int32) (f0_at + (0 : Int32))) (fun u_12 =>
              some (u_12.1, u_12.2, f0_at + (0 : Int32), f0_lineYes, f0_lineNo)))))))
abbrev S_X8_readLine : Type := (Bool × Int32 × Int32 × Int32 × Int32 × Int32 × Int64 × Int64 × (Nat → Int64) × (Nat → Int32) × (Nat → Int64) × (Nat → Int64)) ⊕ (Bool × Int32 × Int32 × Int32 × Int32 × Int32 × Int64 × Int64 × (Nat → Int64) × (Nat → Int32) × (Nat → Int64) × (Nat → Int64)) ⊕ (Bool × Bool × Int32 × Int32 × Int32 × Int32 × Int32 × Int64 × Int64 × (Nat → Int64) × (Nat → Int32) × (Nat → Int64) × (Nat → Int64)) ⊕ (Int32 × Int32 × Int32 × Int32 × Int32 × Int64 × Int64 × (Nat → Int64) × (Nat → Int32) × (Nat → Int64) × (Nat → Int64))
noncomputable def b_X8_readLine_55 (f0_n : Int32) (f0_tapeSize : Int32) (n0_tape : Nat) (h0_tape : Nat → Int32) (n0_newSet : Nat) (n0_newRight : Nat) (n0_newYes : Nat) (n0_newNo : Nat) (x1 : Bool) (f0_faultIs : Int32) (f0_faultAt : Int32) (f0_at : Int32) (f0_newEquations : Int32) (f0_newClauses : Int32) (f0_lineYes : Int64) (f0_lineNo : Int64) (h0_newSet : Nat → Int64) (h0_newRight : Nat → Int32) (h0_newYes : Nat → Int64) (h0_newNo : Nat → Int64) : Option (Int32 × Int32 × Int32 × Int32 × Int32 × Int64 × Int64 × (Nat → Int64) × (Nat → Int32) × (Nat → Int64) × (Nat → Int64)) ⊕ S_X8_readLine :=
  cif (f0_faultIs = 0)
    (sbd (D_X8_here f0_tapeSize f0_at n0_tape h0_tape) (fun u_15 =>
      cif (u_15 = (48 : Int32))
        (.inr (.inr (.inl (x1, f0_faultIs, f0_faultAt, f0_at, f0_newEquations, f0_newClauses, f0_lineYes, f0_lineNo, h0_newSet, h0_newRight, h0_newYes, h0_newNo))))
        (sbd (D_X8_readLiteral f0_n f0_tapeSize f0_faultIs f0_faultAt f0_at f0_lineYes f0_lineNo n0_tape h0_tape x1) (fun u_19 =>
          sbd (D_X8_skip f0_tapeSize u_19.2.2.1 n0_tape h0_tape) (fun u_21 =>
            .inr (.inl (x1, u_19.1, u_19.2.1, u_21, f0_newEquations, f0_newClauses, u_19.2.2.2.1, u_19.2.2.2.2, h0_newSet, h0_newRight, h0_newYes, h0_newNo)))))))
    (.inr (.inr (.inl (x1, f0_faultIs, f0_faultAt, f0_at, f0_newEquations, f0_newClauses, f0_lineYes, f0_lineNo, h0_newSet, h0_newRight, h0_newYes, h0_newNo))))
noncomputable def b_X8_readLine_83 (f0_n : Int32) (f0_tapeSize : Int32) (n0_tape : Nat) (h0_tape : Nat → Int32) (n0_newSet : Nat) (n0_newRight : Nat) (n0_newYes : Nat) (n0_newNo : Nat) (x1 : Bool) (f0_faultIs : Int32) (f0_faultAt : Int32) (f0_at : Int32) (f0_newEquations : Int32) (f0_newClauses : Int32) (f0_lineYes : Int64) (f0_lineNo : Int64) (h0_newSet : Nat → Int64) (h0_newRight : Nat → Int32) (h0_newYes : Nat → Int64) (h0_newNo : Nat → Int64) : Option (Int32 × Int32 × Int32 × Int32 × Int32 × Int64 × Int64 × (Nat → Int64) × (Nat → Int32) × (Nat → Int64) × (Nat → Int64)) ⊕ S_X8_readLine :=
  cif (f0_faultIs ≤ 0)
    (cif (x1 = true)
      (cif (f0_newEquations = (60 : Int32))
        (sbd (D_X8_fail f0_faultIs f0_faultAt (3 : Int32) f0_at) (fun u_31 =>
          .inl (some (u_31.1, u_31.2, f0_at, f0_newEquations, f0_newClauses, f0_lineYes, f0_lineNo, h0_newSet, h0_newRight, h0_newYes, h0_newNo))))
        (.inr (.inr (.inr (.inl (x1, false, f0_faultIs, f0_faultAt, f0_at, f0_newEquations, f0_newClauses, f0_lineYes, f0_lineNo, h0_newSet, h0_newRight, h0_newYes, h0_newNo))))))
      (cif ((f0_lineYes &&& f0_lineNo) = (0 : Int64))
        (cif (f0_newClauses = (60 : Int32))
          (sbd (D_X8_fail f0_faultIs f0_faultAt (3 : Int32) f0_at) (fun u_39 =>
            .inl (some (u_39.1, u_39.2, f0_at, f0_newEquations, f0_newClauses, f0_lineYes, f0_lineNo, h0_newSet, h0_newRight, h0_newYes, h0_newNo))))
          (.inr (.inr (.inr (.inl (x1, false, f0_faultIs, f0_faultAt, f0_at, f0_newEquations, f0_newClauses, f0_lineYes, f0_lineNo, h0_newSet, h0_newRight, h0_newYes, h0_newNo))))))
        (.inr (.inr (.inr (.inl (x1, true, f0_faultIs, f0_faultAt, f0_at, f0_newEquations, f0_newClauses, f0_lineYes, f0_lineNo, h0_newSet, h0_newRight, h0_newYes, h0_newNo)))))))
    (.inl (some (f0_faultIs, f0_faultAt, f0_at, f0_newEquations, f0_newClauses, f0_lineYes, f0_lineNo, h0_newSet, h0_newRight, h0_newYes, h0_newNo)))
noncomputable def b_X8_readLine_149 (f0_n : Int32) (f0_tapeSize : Int32) (n0_tape : Nat) (h0_tape : Nat → Int32) (n0_newSet : Nat) (n0_newRight : Nat) (n0_newYes : Nat) (n0_newNo : Nat) (x1 : Bool) (x2 : Bool) (f0_faultIs : Int32) (f0_faultAt : Int32) (f0_at : Int32) (f0_newEquations : Int32) (f0_newClauses : Int32) (f0_lineYes : Int64) (f0_lineNo : Int64) (h0_newSet : Nat → Int64) (h0_newRight : Nat → Int32) (h0_newYes : Nat → Int64) (h0_newNo : Nat → Int64) : Option (Int32 × Int32 × Int32 × Int32 × Int32 × Int64 × Int64 × (Nat → Int64) × (Nat → Int32) × (Nat → Int64) × (Nat → Int64)) ⊕ S_X8_readLine :=
  cif (x1 = true)
    (cif (vp_in f0_newEquations n0_newSet)
      (cif (vp_in f0_newEquations n0_newRight)
        (.inr (.inr (.inr (.inr (f0_faultIs, f0_faultAt, f0_at, f0_newEquations + (1 : Int32), f0_newClauses, f0_lineYes, f0_lineNo, vp_updL h0_newSet f0_newEquations.toNatClampNeg f0_lineYes, upd h0_newRight f0_newEquations.toNatClampNeg f0_lineNo.toInt32, h0_newYes, h0_newNo)))))
        (.inl none))
      (.inl none))
    (cif (x2 = true)
      (.inr (.inr (.inr (.inr (f0_faultIs, f0_faultAt, f0_at, f0_newEquations, f0_newClauses, f0_lineYes, f0_lineNo, h0_newSet, h0_newRight, h0_newYes, h0_newNo)))))
      (cif (vp_in f0_newClauses n0_newYes)
        (cif (vp_in f0_newClauses n0_newNo)
          (.inr (.inr (.inr (.inr (f0_faultIs, f0_faultAt, f0_at, f0_newEquations, f0_newClauses + (1 : Int32), f0_lineYes, f0_lineNo, h0_newSet, h0_newRight, vp_updL h0_newYes f0_newClauses.toNatClampNeg f0_lineYes, vp_updL h0_newNo f0_newClauses.toNatClampNeg f0_lineNo)))))
          (.inl none))
        (.inl none)))
noncomputable def b_X8_readLine_233 (f0_n : Int32) (f0_tapeSize : Int32) (n0_tape : Nat) (h0_tape : Nat → Int32) (n0_newSet : Nat) (n0_newRight : Nat) (n0_newYes : Nat) (n0_newNo : Nat) (f0_faultIs : Int32) (f0_faultAt : Int32) (f0_at : Int32) (f0_newEquations : Int32) (f0_newClauses : Int32) (f0_lineYes : Int64) (f0_lineNo : Int64) (h0_newSet : Nat → Int64) (h0_newRight : Nat → Int32) (h0_newYes : Nat → Int64) (h0_newNo : Nat → Int64) : Option (Int32 × Int32 × Int32 × Int32 × Int32 × Int64 × Int64 × (Nat → Int64) × (Nat → Int32) × (Nat → Int64) × (Nat → Int64)) ⊕ S_X8_readLine :=
  sbd (D_X8_parted f0_tapeSize f0_faultIs f0_faultAt (f0_at + (1 : Int32)) n0_tape h0_tape) (fun u_50 =>
    sbd (D_X8_skip f0_tapeSize (f0_at + (1 : Int32)) n0_tape h0_tape) (fun u_52 =>
      .inl (some (u_50.1, u_50.2, u_52, f0_newEquations, f0_newClauses, f0_lineYes, f0_lineNo, h0_newSet, h0_newRight, h0_newYes, h0_newNo))))
noncomputable def st_X8_readLine (f0_n : Int32) (f0_tapeSize : Int32) (n0_tape : Nat) (h0_tape : Nat → Int32) (n0_newSet : Nat) (n0_newRight : Nat) (n0_newYes : Nat) (n0_newNo : Nat) : S_X8_readLine → Option (Int32 × Int32 × Int32 × Int32 × Int32 × Int64 × Int64 × (Nat → Int64) × (Nat → Int32) × (Nat → Int64) × (Nat → Int64)) ⊕ S_X8_readLine := fun x => match x with
  | .inl (x1, f0_faultIs, f0_faultAt, f0_at, f0_newEquations, f0_newClauses, f0_lineYes, f0_lineNo, h0_newSet, h0_newRight, h0_newYes, h0_newNo) => b_X8_readLine_55 f0_n f0_tapeSize n0_tape h0_tape n0_newSet n0_newRight n0_newYes n0_newNo x1 f0_faultIs f0_faultAt f0_at f0_newEquations f0_newClauses f0_lineYes f0_lineNo h0_newSet h0_newRight h0_newYes h0_newNo
  | .inr (.inl (x1, f0_faultIs, f0_faultAt, f0_at, f0_newEquations, f0_newClauses, f0_lineYes, f0_lineNo, h0_newSet, h0_newRight, h0_newYes, h0_newNo)) => b_X8_readLine_83 f0_n f0_tapeSize n0_tape h0_tape n0_newSet n0_newRight n0_newYes n0_newNo x1 f0_faultIs f0_faultAt f0_at f0_newEquations f0_newClauses f0_lineYes f0_lineNo h0_newSet h0_newRight h0_newYes h0_newNo
  | .inr (.inr (.inl (x1, x2, f0_faultIs, f0_faultAt, f0_at, f0_newEquations, f0_newClauses, f0_lineYes, f0_lineNo, h0_newSet, h0_newRight, h0_newYes, h0_newNo))) => b_X8_readLine_149 f0_n f0_tapeSize n0_tape h0_tape n0_newSet n0_newRight n0_newYes n0_newNo x1 x2 f0_faultIs f0_faultAt f0_at f0_newEquations f0_newClauses f0_lineYes f0_lineNo h0_newSet h0_newRight h0_newYes h0_newNo
  | .inr (.inr (.inr (f0_faultIs, f0_faultAt, f0_at, f0_newEquations, f0_newClauses, f0_lineYes, f0_lineNo, h0_newSet, h0_newRight, h0_newYes, h0_newNo))) => b_X8_readLine_233 f0_n f0_tapeSize n0_tape h0_tape n0_newSet n0_newRight n0_newYes n0_newNo f0_faultIs f0_faultAt f0_at f0_newEquations f0_newClauses f0_lineYes f0_lineNo h0_newSet h0_newRight h0_newYes h0_newNo
noncomputable def L_X8_readLine_55 (f0_n : Int32) (f0_tapeSize : Int32) (n0_tape : Nat) (h0_tape : Nat → Int32) (n0_newSet : Nat) (n0_newRight : Nat) (n0_newYes : Nat) (n0_newNo : Nat) (x1 : Bool) (f0_faultIs : Int32) (f0_faultAt : Int32) (f0_at : Int32) (f0_newEquations : Int32) (f0_newClauses : Int32) (f0_lineYes : Int64) (f0_lineNo : Int64) (h0_newSet : Nat → Int64) (h0_newRight : Nat → Int32) (h0_newYes : Nat → Int64) (h0_newNo : Nat → Int64) : Option (Int32 × Int32 × Int32 × Int32 × Int32 × Int64 × Int64 × (Nat → Int64) × (Nat → Int32) × (Nat → Int64) × (Nat → Int64)) := runw (st_X8_readLine f0_n f0_tapeSize n0_tape h0_tape n0_newSet n0_newRight n0_newYes n0_newNo) (.inl (x1, f0_faultIs, f0_faultAt, f0_at, f0_newEquations, f0_newClauses, f0_lineYes, f0_lineNo, h0_newSet, h0_newRight, h0_newYes, h0_newNo))
noncomputable def L_X8_readLine_83 (f0_n : Int32) (f0_tapeSize : Int32) (n0_tape : Nat) (h0_tape : Nat → Int32) (n0_newSet : Nat) (n0_newRight : Nat) (n0_newYes : Nat) (n0_newNo : Nat) (x1 : Bool) (f0_faultIs : Int32) (f0_faultAt : Int32) (f0_at : Int32) (f0_newEquations : Int32) (f0_newClauses : Int32) (f0_lineYes : Int64) (f0_lineNo : Int64) (h0_newSet : Nat → Int64) (h0_newRight : Nat → Int32) (h0_newYes : Nat → Int64) (h0_newNo : Nat → Int64) : Option (Int32 × Int32 × Int32 × Int32 × Int32 × Int64 × Int64 × (Nat → Int64) × (Nat → Int32) × (Nat → Int64) × (Nat → Int64)) := runw (st_X8_readLine f0_n f0_tapeSize n0_tape h0_tape n0_newSet n0_newRight n0_newYes n0_newNo) (.inr (.inl (x1, f0_faultIs, f0_faultAt, f0_at, f0_newEquations, f0_newClauses, f0_lineYes, f0_lineNo, h0_newSet, h0_newRight, h0_newYes, h0_newNo)))
noncomputable def L_X8_readLine_149 (f0_n : Int32) (f0_tapeSize : Int32) (n0_tape : Nat) (h0_tape : Nat → Int32) (n0_newSet : Nat) (n0_newRight : Nat) (n0_newYes : Nat) (n0_newNo : Nat) (x1 : Bool) (x2 : Bool) (f0_faultIs : Int32) (f0_faultAt : Int32) (f0_at : Int32) (f0_newEquations : Int32) (f0_newClauses : Int32) (f0_lineYes : Int64) (f0_lineNo : Int64) (h0_newSet : Nat → Int64) (h0_newRight : Nat → Int32) (h0_newYes : Nat → Int64) (h0_newNo : Nat → Int64) : Option (Int32 × Int32 × Int32 × Int32 × Int32 × Int64 × Int64 × (Nat → Int64) × (Nat → Int32) × (Nat → Int64) × (Nat → Int64)) := runw (st_X8_readLine f0_n f0_tapeSize n0_tape h0_tape n0_newSet n0_newRight n0_newYes n0_newNo) (.inr (.inr (.inl (x1, x2, f0_faultIs, f0_faultAt, f0_at, f0_newEquations, f0_newClauses, f0_lineYes, f0_lineNo, h0_newSet, h0_newRight, h0_newYes, h0_newNo))))
noncomputable def L_X8_readLine_233 (f0_n : Int32) (f0_tapeSize : Int32) (n0_tape : Nat) (h0_tape : Nat → Int32) (n0_newSet : Nat) (n0_newRight : Nat) (n0_newYes : Nat) (n0_newNo : Nat) (f0_faultIs : Int32) (f0_faultAt : Int32) (f0_at : Int32) (f0_newEquations : Int32) (f0_newClauses : Int32) (f0_lineYes : Int64) (f0_lineNo : Int64) (h0_newSet : Nat → Int64) (h0_newRight : Nat → Int32) (h0_newYes : Nat → Int64) (h0_newNo : Nat → Int64) : Option (Int32 × Int32 × Int32 × Int32 × Int32 × Int64 × Int64 × (Nat → Int64) × (Nat → Int32) × (Nat → Int64) × (Nat → Int64)) := runw (st_X8_readLine f0_n f0_tapeSize n0_tape h0_tape n0_newSet n0_newRight n0_newYes n0_newNo) (.inr (.inr (.inr (f0_faultIs, f0_faultAt, f0_at, f0_newEquations, f0_newClauses, f0_lineYes, f0_lineNo, h0_newSet, h0_newRight, h0_newYes, h0_newNo))))
theorem E_X8_readLine_55 (f0_n : Int32) (f0_tapeSize : Int32) (n0_tape : Nat) (h0_tape : Nat → Int32) (n0_newSet : Nat) (n0_newRight : Nat) (n0_newYes : Nat) (n0_newNo : Nat) (x1 : Bool) (f0_faultIs : Int32) (f0_faultAt : Int32) (f0_at : Int32) (f0_newEquations : Int32) (f0_newClauses : Int32) (f0_lineYes : Int64) (f0_lineNo : Int64) (h0_newSet : Nat → Int64) (h0_newRight : Nat → Int32) (h0_newYes : Nat → Int64) (h0_newNo : Nat → Int64) : L_X8_readLine_55 f0_n f0_tapeSize n0_tape h0_tape n0_newSet n0_newRight n0_newYes n0_newNo x1 f0_faultIs f0_faultAt f0_at f0_newEquations f0_newClauses f0_lineYes f0_lineNo h0_newSet h0_newRight h0_newYes h0_newNo =
    cif (f0_faultIs = 0)
      (Option.bind (D_X8_here f0_tapeSize f0_at n0_tape h0_tape) (fun u_15 =>
        cif (u_15 = (48 : Int32))
          (L_X8_readLine_83 f0_n f0_tapeSize n0_tape h0_tape n0_newSet n0_newRight n0_newYes n0_newNo x1 f0_faultIs f0_faultAt f0_at f0_newEquations f0_newClauses f0_lineYes f0_lineNo h0_newSet h0_newRight h0_newYes h0_newNo)
          (Option.bind (D_X8_readLiteral f0_n f0_tapeSize f0_faultIs f0_faultAt f0_at f0_lineYes f0_lineNo n0_tape h0_tape x1) (fun u_19 =>
            Option.bind (D_X8_skip f0_tapeSize u_19.2.2.1 n0_tape h0_tape) (fun u_21 =>
              L_X8_readLine_55 f0_n f0_tapeSize n0_tape h0_tape n0_newSet n0_newRight n0_newYes n0_newNo x1 u_19.1 u_19.2.1 u_21 f0_newEquations f0_newClauses u_19.2.2.2.1 u_19.2.2.2.2 h0_newSet h0_newRight h0_newYes h0_newNo)))))
      (L_X8_readLine_83 f0_n f0_tapeSize n0_tape h0_tape n0_newSet n0_newRight n0_newYes n0_newNo x1 f0_faultIs f0_faultAt f0_at f0_newEquations f0_newClauses f0_lineYes f0_lineNo h0_newSet h0_newRight h0_newYes h0_newNo) := by
  show runw (st_X8_readLine f0_n f0_tapeSize n0_tape h0_tape n0_newSet n0_newRight n0_newYes n0_newNo) (.inl (x1, f0_faultIs, f0_faultAt, f0_at, f0_newEquations, f0_newClauses, f0_lineYes, f0_lineNo, h0_newSet, h0_newRight, h0_newYes, h0_newNo)) = _
  rw [runw_eq]
  show run1 _ (b_X8_readLine_55 f0_n f0_tapeSize n0_tape h0_tape n0_newSet n0_newRight n0_newYes n0_newNo x1 f0_faultIs f0_faultAt f0_at f0_newEquations f0_newClauses f0_lineYes f0_lineNo h0_newSet h0_newRight h0_newYes h0_newNo) = _
  simp only [b_X8_readLine_55, run1_cif, run1_sbd, run1_inl, run1_inr]
  try rfl
theorem E_X8_readLine_83 (f0_n : Int32) (f0_tapeSize : Int32) (n0_tape : Nat) (h0_tape : Nat → Int32) (n0_newSet : Nat) (n0_newRight : Nat) (n0_newYes : Nat) (n0_newNo : Nat) (x1 : Bool) (f0_faultIs : Int32) (f0_faultAt : Int32) (f0_at : Int32) (f0_newEquations : Int32) (f0_newClauses : Int32) (f0_lineYes : Int64) (f0_lineNo : Int64) (h0_newSet : Nat → Int64) (h0_newRight : Nat → Int32) (h0_newYes : Nat → Int64) (h0_newNo : Nat → Int64) : L_X8_readLine_83 f0_n f0_tapeSize n0_tape h0_tape n0_newSet n0_newRight n0_newYes n0_newNo x1 f0_faultIs f0_faultAt f0_at f0_newEquations f0_newClauses f0_lineYes f0_lineNo h0_newSet h0_newRight h0_newYes h0_newNo =
    cif (f0_faultIs ≤ 0)
      (cif (x1 = true)
        (cif (f0_newEquations = (60 : Int32))
          (Option.bind (D_X8_fail f0_faultIs f0_faultAt (3 : Int32) f0_at) (fun u_31 =>
            some (u_31.1, u_31.2, f0_at, f0_newEquations, f0_newClauses, f0_lineYes, f0_lineNo, h0_newSet, h0_newRight, h0_newYes, h0_newNo)))
          (L_X8_readLine_149 f0_n f0_tapeSize n0_tape h0_tape n0_newSet n0_newRight n0_newYes n0_newNo x1 false f0_faultIs f0_faultAt f0_at f0_newEquations f0_newClauses f0_lineYes f0_lineNo h0_newSet h0_newRight h0_newYes h0_newNo))
        (cif ((f0_lineYes &&& f0_lineNo) = (0 : Int64))
          (cif (f0_newClauses = (60 : Int32))
            (Option.bind (D_X8_fail f0_faultIs f0_faultAt (3 : Int32) f0_at) (fun u_39 =>
              some (u_39.1, u_39.2, f0_at, f0_newEquations, f0_newClauses, f0_lineYes, f0_lineNo, h0_newSet, h0_newRight, h0_newYes, h0_newNo)))
            (L_X8_readLine_149 f0_n f0_tapeSize n0_tape h0_tape n0_newSet n0_newRight n0_newYes n0_newNo x1 false f0_faultIs f0_faultAt f0_at f0_newEquations f0_newClauses f0_lineYes f0_lineNo h0_newSet h0_newRight h0_newYes h0_newNo))
          (L_X8_readLine_149 f0_n f0_tapeSize n0_tape h0_tape n0_newSet n0_newRight n0_newYes n0_newNo x1 true f0_faultIs f0_faultAt f0_at f0_newEquations f0_newClauses f0_lineYes f0_lineNo h0_newSet h0_newRight h0_newYes h0_newNo)))
      (some (f0_faultIs, f0_faultAt, f0_at, f0_newEquations, f0_newClauses, f0_lineYes, f0_lineNo, h0_newSet, h0_newRight, h0_newYes, h0_newNo)) := by
  show runw (st_X8_readLine f0_n f0_tapeSize n0_tape h0_tape n0_newSet n0_newRight n0_newYes n0_newNo) (.inr (.inl (x1, f0_faultIs, f0_faultAt, f0_at, f0_newEquations, f0_newClauses, f0_lineYes, f0_lineNo, h0_newSet, h0_newRight, h0_newYes, h0_newNo))) = _
  rw [runw_eq]
  show run1 _ (b_X8_readLine_83 f0_n f0_tapeSize n0_tape h0_tape n0_newSet n0_newRight n0_newYes n0_newNo x1 f0_faultIs f0_faultAt f0_at f0_newEquations f0_newClauses f0_lineYes f0_lineNo h0_newSet h0_newRight h0_newYes h0_newNo) = _
  simp only [b_X8_readLine_83, run1_cif, run1_sbd, run1_inl, run1_inr]
  try rfl
theorem E_X8_readLine_149 (f0_n : Int32) (f0_tapeSize : Int32) (n0_tape : Nat) (h0_tape : Nat → Int32) (n0_newSet : Nat) (n0_newRight : Nat) (n0_newYes : Nat) (n0_newNo : Nat) (x1 : Bool) (x2 : Bool) (f0_faultIs : Int32) (f0_faultAt : Int32) (f0_at : Int32) (f0_newEquations : Int32) (f0_newClauses : Int32) (f0_lineYes : Int64) (f0_lineNo : Int64) (h0_newSet : Nat → Int64) (h0_newRight : Nat → Int32) (h0_newYes : Nat → Int64) (h0_newNo : Nat → Int64) : L_X8_readLine_149 f0_n f0_tapeSize n0_tape h0_tape n0_newSet n0_newRight n0_newYes n0_newNo x1 x2 f0_faultIs f0_faultAt f0_at f0_newEquations f0_newClauses f0_lineYes f0_lineNo h0_newSet h0_newRight h0_newYes h0_newNo =
    cif (x1 = true)
      (cif (vp_in f0_newEquations n0_newSet)
        (cif (vp_in f0_newEquations n0_newRight)
          (L_X8_readLine_233 f0_n f0_tapeSize n0_tape h0_tape n0_newSet n0_newRight n0_newYes n0_newNo f0_faultIs f0_faultAt f0_at (f0_newEquations + (1 : Int32)) f0_newClauses f0_lineYes f0_lineNo (vp_updL h0_newSet f0_newEquations.toNatClampNeg f0_lineYes) (upd h0_newRight f0_newEquations.toNatClampNeg f0_lineNo.toInt32) h0_newYes h0_newNo)
          (none))
        (none))
      (cif (x2 = true)
        (L_X8_readLine_233 f0_n f0_tapeSize n0_tape h0_tape n0_newSet n0_newRight n0_newYes n0_newNo f0_faultIs f0_faultAt f0_at f0_newEquations f0_newClauses f0_lineYes f0_lineNo h0_newSet h0_newRight h0_newYes h0_newNo)
        (cif (vp_in f0_newClauses n0_newYes)
          (cif (vp_in f0_newClauses n0_newNo)
            (L_X8_readLine_233 f0_n f0_tapeSize n0_tape h0_tape n0_newSet n0_newRight n0_newYes n0_newNo f0_faultIs f0_faultAt f0_at f0_newEquations (f0_newClauses + (1 : Int32)) f0_lineYes f0_lineNo h0_newSet h0_newRight (vp_updL h0_newYes f0_newClauses.toNatClampNeg f0_lineYes) (vp_updL h0_newNo f0_newClauses.toNatClampNeg f0_lineNo))
            (none))
          (none))) := by
  show runw (st_X8_readLine f0_n f0_tapeSize n0_tape h0_tape n0_newSet n0_newRight n0_newYes n0_newNo) (.inr (.inr (.inl (x1, x2, f0_faultIs, f0_faultAt, f0_at, f0_newEquations, f0_newClauses, f0_lineYes, f0_lineNo, h0_newSet, h0_newRight, h0_newYes, h0_newNo)))) = _
  rw [runw_eq]
  show run1 _ (b_X8_readLine_149 f0_n f0_tapeSize n0_tape h0_tape n0_newSet n0_newRight n0_newYes n0_newNo x1 x2 f0_faultIs f0_faultAt f0_at f0_newEquations f0_newClauses f0_lineYes f0_lineNo h0_newSet h0_newRight h0_newYes h0_newNo) = _
  simp only [b_X8_readLine_149, run1_cif, run1_sbd, run1_inl, run1_inr]
  try rfl
theorem E_X8_readLine_233 (f0_n : Int32) (f0_tapeSize : Int32) (n0_tape : Nat) (h0_tape : Nat → Int32) (n0_newSet : Nat) (n0_newRight : Nat) (n0_newYes : Nat) (n0_newNo : Nat) (f0_faultIs : Int32) (f0_faultAt : Int32) (f0_at : Int32) (f0_newEquations : Int32) (f0_newClauses : Int32) (f0_lineYes : Int64) (f0_lineNo : Int64) (h0_newSet : Nat → Int64) (h0_newRight : Nat → Int32) (h0_newYes : Nat → Int64) (h0_newNo : Nat → Int64) : L_X8_readLine_233 f0_n f0_tapeSize n0_tape h0_tape n0_newSet n0_newRight n0_newYes n0_newNo f0_faultIs f0_faultAt f0_at f0_newEquations f0_newClauses f0_lineYes f0_lineNo h0_newSet h0_newRight h0_newYes h0_newNo =
    Option.bind (D_X8_parted f0_tapeSize f0_faultIs f0_faultAt (f0_at + (1 : Int32)) n0_tape h0_tape) (fun u_50 =>
      Option.bind (D_X8_skip f0_tapeSize (f0_at + (1 : Int32)) n0_tape h0_tape) (fun u_52 =>
        some (u_50.1, u_50.2, u_52, f0_newEquations, f0_newClauses, f0_lineYes, f0_lineNo, h0_newSet, h0_newRight, h0_newYes, h0_newNo))) := by
  show runw (st_X8_readLine f0_n f0_tapeSize n0_tape h0_tape n0_newSet n0_newRight n0_newYes n0_newNo) (.inr (.inr (.inr (f0_faultIs, f0_faultAt, f0_at, f0_newEquations, f0_newClauses, f0_lineYes, f0_lineNo, h0_newSet, h0_newRight, h0_newYes, h0_newNo)))) = _
  rw [runw_eq]
  show run1 _ (b_X8_readLine_233 f0_n f0_tapeSize n0_tape h0_tape n0_newSet n0_newRight n0_newYes n0_newNo f0_faultIs f0_faultAt f0_at f0_newEquations f0_newClauses f0_lineYes f0_lineNo h0_newSet h0_newRight h0_newYes h0_newNo) = _
  simp only [b_X8_readLine_233, run1_cif, run1_sbd, run1_inl, run1_inr]
  try rfl
noncomputable def D_X8_readLine (f0_n : Int32) (f0_tapeSize : Int32) (f0_faultIs : Int32) (f0_faultAt : Int32) (f0_at : Int32) (f0_newEquations : Int32) (f0_newClauses : Int32) (f0_lineYes : Int64) (f0_lineNo : Int64) (n0_tape : Nat) (h0_tape : Nat → Int32) (n0_newSet : Nat) (h0_newSet : Nat → Int64) (n0_newRight : Nat) (h0_newRight : Nat → Int32) (n0_newYes : Nat) (h0_newYes : Nat → Int64) (n0_newNo : Nat) (h0_newNo : Nat → Int64) : Option (Int32 × Int32 × Int32 × Int32 × Int32 × Int64 × Int64 × (Nat → Int64) × (Nat → Int32) × (Nat → Int64) × (Nat → Int64)) :=
  Option.bind (D_X8_here f0_tapeSize f0_at n0_tape h0_tape) (fun u_1 =>
    cif (u_1 = (120 : Int32))
      (Option.bind (D_X8_parted f0_tapeSize f0_faultIs f0_faultAt (f0_at + (1 : Int32)) n0_tape h0_tape) (fun u_9 =>
        Option.bind (D_X8_skip f0_tapeSize (f0_at + (1 : Int32)) n0_tape h0_tape) (fun u_11 =>
          L_X8_readLine_55 f0_n f0_tapeSize n0_tape h0_tape n0_newSet n0_newRight n0_newYes n0_newNo true u_9.1 u_9.2 u_11 f0_newEquations f0_newClauses (0 : Int64) (1 : Int64) h0_newSet h0_newRight h0_newYes h0_newNo)))
      (L_X8_readLine_55 f0_n f0_tapeSize n0_tape h0_tape n0_newSet n0_newRight n0_newYes n0_newNo false f0_faultIs f0_faultAt f0_at f0_newEquations f0_newClauses (0 : Int64) (0 : Int64) h0_newSet h0_newRight h0_newYes h0_newNo))
abbrev S_X8_read : Type := (Int32 × Int32 × Int32 × Int32 × Int32 × Int32 × Int32 × Int32 × Int32 × Int32 × Int64 × Int64 × (Nat → Int64) × (Nat → Int32) × (Nat → Int64) × (Nat → Int64) × (Nat → Int64) × (Nat → Int32) × (Nat → Int64) × (Nat → Int64)) ⊕ (Int32 × Int32 × Int32 × Int32 × Int32 × Int32 × Int32 × Int32 × Int32 × Int32 × Int32 × Int64 × Int64 × (Nat → Int64) × (Nat → Int32) × (Nat → Int64) × (Nat → Int64) × (Nat → Int64) × (Nat → Int32) × (Nat → Int64) × (Nat → Int64)) ⊕ (Int32 × Int32 × Int32 × Int32 × Int32 × Int32 × Int32 × Int32 × Int32 × Int32 × Int32 × Int64 × Int64 × (Nat → Int64) × (Nat → Int32) × (Nat → Int64) × (Nat → Int64) × (Nat → Int64) × (Nat → Int32) × (Nat → Int64) × (Nat → Int64))
noncomputable def b_X8_read_37 (f0_n : Int32) (n0_eSet : Nat) (n0_eRight : Nat) (n0_cYes : Nat) (n0_cNo : Nat) (n0_tape : Nat) (h0_tape : Nat → Int32) (n0_newSet : Nat) (n0_newRight : Nat) (n0_newYes : Nat) (n0_newNo : Nat) (x1 : Int32) (f0_thrown : Int32) (f0_equations : Int32) (f0_clauses : Int32) (f0_tapeSize : Int32) (f0_faultIs : Int32) (f0_faultAt : Int32) (f0_at : Int32) (f0_newEquations : Int32) (f0_newClauses : Int32) (f0_lineYes : Int64) (f0_lineNo : Int64) (h0_eSet : Nat → Int64) (h0_eRight : Nat → Int32) (h0_cYes : Nat → Int64) (h0_cNo : Nat → Int64) (h0_newSet : Nat → Int64) (h0_newRight : Nat → Int32) (h0_newYes : Nat → Int64) (h0_newNo : Nat → Int64) : Option (Int32 × Int32 × Int32 × Int32 × Int32 × Int32 × Int32 × Int32 × Int32 × Int32 × Int64 × Int64 × (Nat → Int64) × (Nat → Int32) × (Nat → Int64) × (Nat → Int64) × (Nat → Int64) × (Nat → Int32) × (Nat → Int64) × (Nat → Int64)) ⊕ S_X8_read :=
  cif (f0_faultIs = 0)
    (cif (f0_tapeSize ≤ f0_at)
      (cif (f0_faultIs ≤ 0)
        (.inr (.inr (.inl (x1, f0_equations, f0_thrown, f0_equations, f0_clauses, (0 : Int32), f0_faultIs, f0_faultAt, f0_at, f0_newEquations, f0_newClauses, f0_lineYes, f0_lineNo, h0_eSet, h0_eRight, h0_cYes, h0_cNo, h0_newSet, h0_newRight, h0_newYes, h0_newNo))))
        (.inl (some ((-1 : Int32) - f0_faultAt, f0_thrown, f0_equations, f0_clauses, (0 : Int32), f0_faultIs, f0_faultAt, f0_at, f0_newEquations, f0_newClauses, f0_lineYes, f0_lineNo, h0_eSet, h0_eRight, h0_cYes, h0_cNo, h0_newSet, h0_newRight, h0_newYes, h0_newNo))))
      (sbd (D_X8_readLine f0_n f0_tapeSize f0_faultIs f0_faultAt f0_at f0_newEquations f0_newClauses f0_lineYes f0_lineNo n0_tape h0_tape n0_newSet h0_newSet n0_newRight h0_newRight n0_newYes h0_newYes n0_newNo h0_newNo) (fun u_11 =>
        .inr (.inl (x1 + (1 : Int32), f0_thrown, f0_equations, f0_clauses, f0_tapeSize, u_11.1, u_11.2.1, u_11.2.2.1, u_11.2.2.2.1, u_11.2.2.2.2.1, u_11.2.2.2.2.2.1, u_11.2.2.2.2.2.2.1, h0_eSet, h0_eRight, h0_cYes, h0_cNo, u_11.2.2.2.2.2.2.2.1, u_11.2.2.2.2.2.2.2.2.1, u_11.2.2.2.2.2.2.2.2.2.1, u_11.2.2.2.2.2.2.2.2.2.2)))))
    (cif (f0_faultIs ≤ 0)
      (.inr (.inr (.inl (x1, f0_equations, f0_thrown, f0_equations, f0_clauses, (0 : Int32), f0_faultIs, f0_faultAt, f0_at, f0_newEquations, f0_newClauses, f0_lineYes, f0_lineNo, h0_eSet, h0_eRight, h0_cYes, h0_cNo, h0_newSet, h0_newRight, h0_newYes, h0_newNo))))
      (.inl (some ((-1 : Int32) - f0_faultAt, f0_thrown, f0_equations, f0_clauses, (0 : Int32), f0_faultIs, f0_faultAt, f0_at, f0_newEquations, f0_newClauses, f0_lineYes, f0_lineNo, h0_eSet, h0_eRight, h0_cYes, h0_cNo, h0_newSet, h0_newRight, h0_newYes, h0_newNo))))
noncomputable def b_X8_read_89 (f0_n : Int32) (n0_eSet : Nat) (n0_eRight : Nat) (n0_cYes : Nat) (n0_cNo : Nat) (n0_tape : Nat) (h0_tape : Nat → Int32) (n0_newSet : Nat) (n0_newRight : Nat) (n0_newYes : Nat) (n0_newNo : Nat) (x1 : Int32) (x2 : Int32) (f0_thrown : Int32) (f0_equations : Int32) (f0_clauses : Int32) (f0_tapeSize : Int32) (f0_faultIs : Int32) (f0_faultAt : Int32) (f0_at : Int32) (f0_newEquations : Int32) (f0_newClauses : Int32) (f0_lineYes : Int64) (f0_lineNo : Int64) (h0_eSet : Nat → Int64) (h0_eRight : Nat → Int32) (h0_cYes : Nat → Int64) (h0_cNo : Nat → Int64) (h0_newSet : Nat → Int64) (h0_newRight : Nat → Int32) (h0_newYes : Nat → Int64) (h0_newNo : Nat → Int64) : Option (Int32 × Int32 × Int32 × Int32 × Int32 × Int32 × Int32 × Int32 × Int32 × Int32 × Int64 × Int64 × (Nat → Int64) × (Nat → Int32) × (Nat → Int64) × (Nat → Int64) × (Nat → Int64) × (Nat → Int32) × (Nat → Int64) × (Nat → Int64)) ⊕ S_X8_read :=
  cif (f0_newEquations ≤ x2)
    (.inr (.inr (.inr (x1, f0_clauses, f0_thrown, f0_equations, f0_clauses, f0_tapeSize, f0_faultIs, f0_faultAt, f0_at, f0_newEquations, f0_newClauses, f0_lineYes, f0_lineNo, h0_eSet, h0_eRight, h0_cYes, h0_cNo, h0_newSet, h0_newRight, h0_newYes, h0_newNo))))
    (cif (vp_in x2 n0_newSet)
      (cif (vp_in x2 n0_eSet)
        (cif (vp_in x2 n0_newRight)
          (cif (vp_in x2 n0_eRight)
            (.inr (.inr (.inl (x1, x2 + (1 : Int32), f0_thrown, f0_equations, f0_clauses, f0_tapeSize, f0_faultIs, f0_faultAt, f0_at, f0_newEquations, f0_newClauses, f0_lineYes, f0_lineNo, vp_updL h0_eSet x2.toNatClampNeg (h0_newSet x2.toNatClampNeg), upd h0_eRight x2.toNatClampNeg (h0_newRight x2.toNatClampNeg), h0_cYes, h0_cNo, h0_newSet, h0_newRight, h0_newYes, h0_newNo))))
            (.inl none))
          (.inl none))
        (.inl none))
      (.inl none))
noncomputable def b_X8_read_132 (f0_n : Int32) (n0_eSet : Nat) (n0_eRight : Nat) (n0_cYes : Nat) (n0_cNo : Nat) (n0_tape : Nat) (h0_tape : Nat → Int32) (n0_newSet : Nat) (n0_newRight : Nat) (n0_newYes : Nat) (n0_newNo : Nat) (x1 : Int32) (x2 : Int32) (f0_thrown : Int32) (f0_equations : Int32) (f0_clauses : Int32) (f0_tapeSize : Int32) (f0_faultIs : Int32) (f0_faultAt : Int32) (f0_at : Int32) (f0_newEquations : Int32) (f0_newClauses : Int32) (f0_lineYes : Int64) (f0_lineNo : Int64) (h0_eSet : Nat → Int64) (h0_eRight : Nat → Int32) (h0_cYes : Nat → Int64) (h0_cNo : Nat → Int64) (h0_newSet : Nat → Int64) (h0_newRight : Nat → Int32) (h0_newYes : Nat → Int64) (h0_newNo : Nat → Int64) : Option (Int32 × Int32 × Int32 × Int32 × Int32 × Int32 × Int32 × Int32 × Int32 × Int32 × Int64 × Int64 × (Nat → Int64) × (Nat → Int32) × (Nat → Int64) × (Nat → Int64) × (Nat → Int64) × (Nat → Int32) × (Nat → Int64) × (Nat → Int64)) ⊕ S_X8_read :=
  cif (f0_newClauses ≤ x2)
    (.inl (some (x1, f0_thrown, f0_newEquations, f0_newClauses, f0_tapeSize, f0_faultIs, f0_faultAt, f0_at, f0_newEquations, f0_newClauses, f0_lineYes, f0_lineNo, h0_eSet, h0_eRight, h0_cYes, h0_cNo, h0_newSet, h0_newRight, h0_newYes, h0_newNo)))
    (cif (vp_in x2 n0_newYes)
      (cif (vp_in x2 n0_cYes)
        (cif (vp_in x2 n0_newNo)
          (cif (vp_in x2 n0_cNo)
            (.inr (.inr (.inr (x1, x2 + (1 : Int32), f0_thrown, f0_equations, f0_clauses, f0_tapeSize, f0_faultIs, f0_faultAt, f0_at, f0_newEquations, f0_newClauses, f0_lineYes, f0_lineNo, h0_eSet, h0_eRight, vp_updL h0_cYes x2.toNatClampNeg (h0_newYes x2.toNatClampNeg), vp_updL h0_cNo x2.toNatClampNeg (h0_newNo x2.toNatClampNeg), h0_newSet, h0_newRight, h0_newYes, h0_newNo))))
            (.inl none))
          (.inl none))
        (.inl none))
      (.inl none))
noncomputable def st_X8_read (f0_n : Int32) (n0_eSet : Nat) (n0_eRight : Nat) (n0_cYes : Nat) (n0_cNo : Nat) (n0_tape : Nat) (h0_tape : Nat → Int32) (n0_newSet : Nat) (n0_newRight : Nat) (n0_newYes : Nat) (n0_newNo : Nat) : S_X8_read → Option (Int32 × Int32 × Int32 × Int32 × Int32 × Int32 × Int32 × Int32 × Int32 × Int32 × Int64 × Int64 × (Nat → Int64) × (Nat → Int32) × (Nat → Int64) × (Nat → Int64) × (Nat → Int64) × (Nat → Int32) × (Nat → Int64) × (Nat → Int64)) ⊕ S_X8_read := fun x => match x with
  | .inl (x1, f0_thrown, f0_equations, f0_clauses, f0_tapeSize, f0_faultIs, f0_faultAt, f0_at, f0_newEquations, f0_newClauses, f0_lineYes, f0_lineNo, h0_eSet, h0_eRight, h0_cYes, h0_cNo, h0_newSet, h0_newRight, h0_newYes, h0_newNo) => b_X8_read_37 f0_n n0_eSet n0_eRight n0_cYes n0_cNo n0_tape h0_tape n0_newSet n0_newRight n0_newYes n0_newNo x1 f0_thrown f0_equations f0_clauses f0_tapeSize f0_faultIs f0_faultAt f0_at f0_newEquations f0_newClauses f0_lineYes f0_lineNo h0_eSet h0_eRight h0_cYes h0_cNo h0_newSet h0_newRight h0_newYes h0_newNo
  | .inr (.inl (x1, x2, f0_thrown, f0_equations, f0_clauses, f0_tapeSize, f0_faultIs, f0_faultAt, f0_at, f0_newEquations, f0_newClauses, f0_lineYes, f0_lineNo, h0_eSet, h0_eRight, h0_cYes, h0_cNo, h0_newSet, h0_newRight, h0_newYes, h0_newNo)) => b_X8_read_89 f0_n n0_eSet n0_eRight n0_cYes n0_cNo n0_tape h0_tape n0_newSet n0_newRight n0_newYes n0_newNo x1 x2 f0_thrown f0_equations f0_clauses f0_tapeSize f0_faultIs f0_faultAt f0_at f0_newEquations f0_newClauses f0_lineYes f0_lineNo h0_eSet h0_eRight h0_cYes h0_cNo h0_newSet h0_newRight h0_newYes h0_newNo
  | .inr (.inr (x1, x2, f0_thrown, f0_equations, f0_clauses, f0_tapeSize, f0_faultIs, f0_faultAt, f0_at, f0_newEquations, f0_newClauses, f0_lineYes, f0_lineNo, h0_eSet, h0_eRight, h0_cYes, h0_cNo, h0_newSet, h0_newRight, h0_newYes, h0_newNo)) => b_X8_read_132 f0_n n0_eSet n0_eRight n0_cYes n0_cNo n0_tape h0_tape n0_newSet n0_newRight n0_newYes n0_newNo x1 x2 f0_thrown f0_equations f0_clauses f0_tapeSize f0_faultIs f0_faultAt f0_at f0_newEquations f0_newClauses f0_lineYes f0_lineNo h0_eSet h0_eRight h0_cYes h0_cNo h0_newSet h0_newRight h0_newYes h0_newNo
noncomputable def L_X8_read_37 (f0_n : Int32) (n0_eSet : Nat) (n0_eRight : Nat) (n0_cYes : Nat) (n0_cNo : Nat) (n0_tape : Nat) (h0_tape : Nat → Int32) (n0_newSet : Nat) (n0_newRight : Nat) (n0_newYes : Nat) (n0_newNo : Nat) (x1 : Int32) (f0_thrown : Int32) (f0_equations : Int32) (f0_clauses : Int32) (f0_tapeSize : Int32) (f0_faultIs : Int32) (f0_faultAt : Int32) (f0_at : Int32) (f0_newEquations : Int32) (f0_newClauses : Int32) (f0_lineYes : Int64) (f0_lineNo : Int64) (h0_eSet : Nat → Int64) (h0_eRight : Nat → Int32) (h0_cYes : Nat → Int64) (h0_cNo : Nat → Int64) (h0_newSet : Nat → Int64) (h0_newRight : Nat → Int32) (h0_newYes : Nat → Int64) (h0_newNo : Nat → Int64) : Option (Int32 × Int32 × Int32 × Int32 × Int32 × Int32 × Int32 × Int32 × Int32 × Int32 × Int64 × Int64 × (Nat → Int64) × (Nat → Int32) × (Nat → Int64) × (Nat → Int64) × (Nat → Int64) × (Nat → Int32) × (Nat → Int64) × (Nat → Int64)) := runw (st_X8_read f0_n n0_eSet n0_eRight n0_cYes n0_cNo n0_tape h0_tape n0_newSet n0_newRight n0_newYes n0_newNo) (.inl (x1, f0_thrown, f0_equations, f0_clauses, f0_tapeSize, f0_faultIs, f0_faultAt, f0_at, f0_newEquations, f0_newClauses, f0_lineYes, f0_lineNo, h0_eSet, h0_eRight, h0_cYes, h0_cNo, h0_newSet, h0_newRight, h0_newYes, h0_newNo))
noncomputable def L_X8_read_89 (f0_n : Int32) (n0_eSet : Nat) (n0_eRight : Nat) (n0_cYes : Nat) (n0_cNo : Nat) (n0_tape : Nat) (h0_tape : Nat → Int32) (n0_newSet : Nat) (n0_newRight : Nat) (n0_newYes : Nat) (n0_newNo : Nat) (x1 : Int32) (x2 : Int32) (f0_thrown : Int32) (f0_equations : Int32) (f0_clauses : Int32) (f0_tapeSize : Int32) (f0_faultIs : Int32) (f0_faultAt : Int32) (f0_at : Int32) (f0_newEquations : Int32) (f0_newClauses : Int32) (f0_lineYes : Int64) (f0_lineNo : Int64) (h0_eSet : Nat → Int64) (h0_eRight : Nat → Int32) (h0_cYes : Nat → Int64) (h0_cNo : Nat → Int64) (h0_newSet : Nat → Int64) (h0_newRight : Nat → Int32) (h0_newYes : Nat → Int64) (h0_newNo : Nat → Int64) : Option (Int32 × Int32 × Int32 × Int32 × Int32 × Int32 × Int32 × Int32 × Int32 × Int32 × Int64 × Int64 × (Nat → Int64) × (Nat → Int32) × (Nat → Int64) × (Nat → Int64) × (Nat → Int64) × (Nat → Int32) × (Nat → Int64) × (Nat → Int64)) := runw (st_X8_read f0_n n0_eSet n0_eRight n0_cYes n0_cNo n0_tape h0_tape n0_newSet n0_newRight n0_newYes n0_newNo) (.inr (.inl (x1, x2, f0_thrown, f0_equations, f0_clauses, f0_tapeSize, f0_faultIs, f0_faultAt, f0_at, f0_newEquations, f0_newClauses, f0_lineYes, f0_lineNo, h0_eSet, h0_eRight, h0_cYes, h0_cNo, h0_newSet, h0_newRight, h0_newYes, h0_newNo)))
noncomputable def L_X8_read_132 (f0_n : Int32) (n0_eSet : Nat) (n0_eRight : Nat) (n0_cYes : Nat) (n0_cNo : Nat) (n0_tape : Nat) (h0_tape : Nat → Int32) (n0_newSet : Nat) (n0_newRight : Nat) (n0_newYes : Nat) (n0_newNo : Nat) (x1 : Int32) (x2 : Int32) (f0_thrown : Int32) (f0_equations : Int32) (f0_clauses : Int32) (f0_tapeSize : Int32) (f0_faultIs : Int32) (f0_faultAt : Int32) (f0_at : Int32) (f0_newEquations : Int32) (f0_newClauses : Int32) (f0_lineYes : Int64) (f0_lineNo : Int64) (h0_eSet : Nat → Int64) (h0_eRight : Nat → Int32) (h0_cYes : Nat → Int64) (h0_cNo : Nat → Int64) (h0_newSet : Nat → Int64) (h0_newRight : Nat → Int32) (h0_newYes : Nat → Int64) (h0_newNo : Nat → Int64) : Option (Int32 × Int32 × Int32 × Int32 × Int32 × Int32 × Int32 × Int32 × Int32 × Int32 × Int64 × Int64 × (Nat → Int64) × (Nat → Int32) × (Nat → Int64) × (Nat → Int64) × (Nat → Int64) × (Nat → Int32) × (Nat → Int64) × (Nat → Int64)) := runw (st_X8_read f0_n n0_eSet n0_eRight n0_cYes n0_cNo n0_tape h0_tape n0_newSet n0_newRight n0_newYes n0_newNo) (.inr (.inr (x1, x2, f0_thrown, f0_equations, f0_clauses, f0_tapeSize, f0_faultIs, f0_faultAt, f0_at, f0_newEquations, f0_newClauses, f0_lineYes, f0_lineNo, h0_eSet, h0_eRight, h0_cYes, h0_cNo, h0_newSet, h0_newRight, h0_newYes, h0_newNo)))
theorem E_X8_read_37 (f0_n : Int32) (n0_eSet : Nat) (n0_eRight : Nat) (n0_cYes : Nat) (n0_cNo : Nat) (n0_tape : Nat) (h0_tape : Nat → Int32) (n0_newSet : Nat) (n0_newRight : Nat) (n0_newYes : Nat) (n0_newNo : Nat) (x1 : Int32) (f0_thrown : Int32) (f0_equations : Int32) (f0_clauses : Int32) (f0_tapeSize : Int32) (f0_faultIs : Int32) (f0_faultAt : Int32) (f0_at : Int32) (f0_newEquations : Int32) (f0_newClauses : Int32) (f0_lineYes : Int64) (f0_lineNo : Int64) (h0_eSet : Nat → Int64) (h0_eRight : Nat → Int32) (h0_cYes : Nat → Int64) (h0_cNo : Nat → Int64) (h0_newSet : Nat → Int64) (h0_newRight : Nat → Int32) (h0_newYes : Nat → Int64) (h0_newNo : Nat → Int64) : L_X8_read_37 f0_n n0_eSet n0_eRight n0_cYes n0_cNo n0_tape h0_tape n0_newSet n0_newRight n0_newYes n0_newNo x1 f0_thrown f0_equations f0_clauses f0_tapeSize f0_faultIs f0_faultAt f0_at f0_newEquations f0_newClauses f0_lineYes f0_lineNo h0_eSet h0_eRight h0_cYes h0_cNo h0_newSet h0_newRight h0_newYes h0_newNo =
    cif (f0_faultIs = 0)
      (cif (f0_tapeSize ≤ f0_at)
        (cif (f0_faultIs ≤ 0)
          (L_X8_read_89 f0_n n0_eSet n0_eRight n0_cYes n0_cNo n0_tape h0_tape n0_newSet n0_newRight n0_newYes n0_newNo x1 f0_equations f0_thrown f0_equations f0_clauses (0 : Int32) f0_faultIs f0_faultAt f0_at f0_newEquations f0_newClauses f0_lineYes f0_lineNo h0_eSet h0_eRight h0_cYes h0_cNo h0_newSet h0_newRight h0_newYes h0_newNo)
          (some ((-1 : Int32) - f0_faultAt, f0_thrown, f0_equations, f0_clauses, (0 : Int32), f0_faultIs, f0_faultAt, f0_at, f0_newEquations, f0_newClauses, f0_lineYes, f0_lineNo, h0_eSet, h0_eRight, h0_cYes, h0_cNo, h0_newSet, h0_newRight, h0_newYes, h0_newNo)))
        (Option.bind (D_X8_readLine f0_n f0_tapeSize f0_faultIs f0_faultAt f0_at f0_newEquations f0_newClauses f0_lineYes f0_lineNo n0_tape h0_tape n0_newSet h0_newSet n0_newRight h0_newRight n0_newYes h0_newYes n0_newNo h0_newNo) (fun u_11 =>
          L_X8_read_37 f0_n n0_eSet n0_eRight n0_cYes n0_cNo n0_tape h0_tape n0_newSet n0_newRight n0_newYes n0_newNo (x1 + (1 : Int32)) f0_thrown f0_equations f0_clauses f0_tapeSize u_11.1 u_11.2.1 u_11.2.2.1 u_11.2.2.2.1 u_11.2.2.2.2.1 u_11.2.2.2.2.2.1 u_11.2.2.2.2.2.2.1 h0_eSet h0_eRight h0_cYes h0_cNo u_11.2.2.2.2.2.2.2.1 u_11.2.2.2.2.2.2.2.2.1 u_11.2.2.2.2.2.2.2.2.2.1 u_11.2.2.2.2.2.2.2.2.2.2)))
      (cif (f0_faultIs ≤ 0)
        (L_X8_read_89 f0_n n0_eSet n0_eRight n0_cYes n0_cNo n0_tape h0_tape n0_newSet n0_newRight n0_newYes n0_newNo x1 f0_equations f0_thrown f0_equations f0_clauses (0 : Int32) f0_faultIs f0_faultAt f0_at f0_newEquations f0_newClauses f0_lineYes f0_lineNo h0_eSet h0_eRight h0_cYes h0_cNo h0_newSet h0_newRight h0_newYes h0_newNo)
        (some ((-1 : Int32) - f0_faultAt, f0_thrown, f0_equations, f0_clauses, (0 : Int32), f0_faultIs, f0_faultAt, f0_at, f0_newEquations, f0_newClauses, f0_lineYes, f0_lineNo, h0_eSet, h0_eRight, h0_cYes, h0_cNo, h0_newSet, h0_newRight, h0_newYes, h0_newNo))) := by
  show runw (st_X8_read f0_n n0_eSet n0_eRight n0_cYes n0_cNo n0_tape h0_tape n0_newSet n0_newRight n0_newYes n0_newNo) (.inl (x1, f0_thrown, f0_equations, f0_clauses, f0_tapeSize, f0_faultIs, f0_faultAt, f0_at, f0_newEquations, f0_newClauses, f0_lineYes, f0_lineNo, h0_eSet, h0_eRight, h0_cYes, h0_cNo, h0_newSet, h0_newRight, h0_newYes, h0_newNo)) = _
  rw [runw_eq]
  show run1 _ (b_X8_read_37 f0_n n0_eSet n0_eRight n0_cYes n0_cNo n0_tape h0_tape n0_newSet n0_newRight n0_newYes n0_newNo x1 f0_thrown f0_equations f0_clauses f0_tapeSize f0_faultIs f0_faultAt f0_at f0_newEquations f0_newClauses f0_lineYes f0_lineNo h0_eSet h0_eRight h0_cYes h0_cNo h0_newSet h0_newRight h0_newYes h0_newNo) = _
  simp only [b_X8_read_37, run1_cif, run1_sbd, run1_inl, run1_inr]
  try rfl
theorem E_X8_read_89 (f0_n : Int32) (n0_eSet : Nat) (n0_eRight : Nat) (n0_cYes : Nat) (n0_cNo : Nat) (n0_tape : Nat) (h0_tape : Nat → Int32) (n0_newSet : Nat) (n0_newRight : Nat) (n0_newYes : Nat) (n0_newNo : Nat) (x1 : Int32) (x2 : Int32) (f0_thrown : Int32) (f0_equations : Int32) (f0_clauses : Int32) (f0_tapeSize : Int32) (f0_faultIs : Int32) (f0_faultAt : Int32) (f0_at : Int32) (f0_newEquations : Int32) (f0_newClauses : Int32) (f0_lineYes : Int64) (f0_lineNo : Int64) (h0_eSet : Nat → Int64) (h0_eRight : Nat → Int32) (h0_cYes : Nat → Int64) (h0_cNo : Nat → Int64) (h0_newSet : Nat → Int64) (h0_newRight : Nat → Int32) (h0_newYes : Nat → Int64) (h0_newNo : Nat → Int64) : L_X8_read_89 f0_n n0_eSet n0_eRight n0_cYes n0_cNo n0_tape h0_tape n0_newSet n0_newRight n0_newYes n0_newNo x1 x2 f0_thrown f0_equations f0_clauses f0_tapeSize f0_faultIs f0_faultAt f0_at f0_newEquations f0_newClauses f0_lineYes f0_lineNo h0_eSet h0_eRight h0_cYes h0_cNo h0_newSet h0_newRight h0_newYes h0_newNo =
    cif (f0_newEquations ≤ x2)
      (L_X8_read_132 f0_n n0_eSet n0_eRight n0_cYes n0_cNo n0_tape h0_tape n0_newSet n0_newRight n0_newYes n0_newNo x1 f0_clauses f0_thrown f0_equations f0_clauses f0_tapeSize f0_faultIs f0_faultAt f0_at f0_newEquations f0_newClauses f0_lineYes f0_lineNo h0_eSet h0_eRight h0_cYes h0_cNo h0_newSet h0_newRight h0_newYes h0_newNo)
      (cif (vp_in x2 n0_newSet)
        (cif (vp_in x2 n0_eSet)
          (cif (vp_in x2 n0_newRight)
            (cif (vp_in x2 n0_eRight)
              (L_X8_read_89 f0_n n0_eSet n0_eRight n0_cYes n0_cNo n0_tape h0_tape n0_newSet n0_newRight n0_newYes n0_newNo x1 (x2 + (1 : Int32)) f0_thrown f0_equations f0_clauses f0_tapeSize f0_faultIs f0_faultAt f0_at f0_newEquations f0_newClauses f0_lineYes f0_lineNo (vp_updL h0_eSet x2.toNatClampNeg (h0_newSet x2.toNatClampNeg)) (upd h0_eRight x2.toNatClampNeg (h0_newRight x2.toNatClampNeg)) h0_cYes h0_cNo h0_newSet h0_newRight h0_newYes h0_newNo)
              (none))
            (none))
          (none))
        (none)) := by
  show runw (st_X8_read f0_n n0_eSet n0_eRight n0_cYes n0_cNo n0_tape h0_tape n0_newSet n0_newRight n0_newYes n0_newNo) (.inr (.inl (x1, x2, f0_thrown, f0_equations, f0_clauses, f0_tapeSize, f0_faultIs, f0_faultAt, f0_at, f0_newEquations, f0_newClauses, f0_lineYes, f0_lineNo, h0_eSet, h0_eRight, h0_cYes, h0_cNo, h0_newSet, h0_newRight, h0_newYes, h0_newNo))) = _
  rw [runw_eq]
  show run1 _ (b_X8_read_89 f0_n n0_eSet n0_eRight n0_cYes n0_cNo n0_tape h0_tape n0_newSet n0_newRight n0_newYes n0_newNo x1 x2 f0_thrown f0_equations f0_clauses f0_tapeSize f0_faultIs f0_faultAt f0_at f0_newEquations f0_newClauses f0_lineYes f0_lineNo h0_eSet h0_eRight h0_cYes h0_cNo h0_newSet h0_newRight h0_newYes h0_newNo) = _
  simp only [b_X8_read_89, run1_cif, run1_sbd, run1_inl, run1_inr]
  try rfl
theorem E_X8_read_132 (f0_n : Int32) (n0_eSet : Nat) (n0_eRight : Nat) (n0_cYes : Nat) (n0_cNo : Nat) (n0_tape : Nat) (h0_tape : Nat → Int32) (n0_newSet : Nat) (n0_newRight : Nat) (n0_newYes : Nat) (n0_newNo : Nat) (x1 : Int32) (x2 : Int32) (f0_thrown : Int32) (f0_equations : Int32) (f0_clauses : Int32) (f0_tapeSize : Int32) (f0_faultIs : Int32) (f0_faultAt : Int32) (f0_at : Int32) (f0_newEquations : Int32) (f0_newClauses : Int32) (f0_lineYes : Int64) (f0_lineNo : Int64) (h0_eSet : Nat → Int64) (h0_eRight : Nat → Int32) (h0_cYes : Nat → Int64) (h0_cNo : Nat → Int64) (h0_newSet : Nat → Int64) (h0_newRight : Nat → Int32) (h0_newYes : Nat → Int64) (h0_newNo : Nat → Int64) : L_X8_read_132 f0_n n0_eSet n0_eRight n0_cYes n0_cNo n0_tape h0_tape n0_newSet n0_newRight n0_newYes n0_newNo x1 x2 f0_thrown f0_equations f0_clauses f0_tapeSize f0_faultIs f0_faultAt f0_at f0_newEquations f0_newClauses f0_lineYes f0_lineNo h0_eSet h0_eRight h0_cYes h0_cNo h0_newSet h0_newRight h0_newYes h0_newNo =
    cif (f0_newClauses ≤ x2)
      (some (x1, f0_thrown, f0_newEquations, f0_newClauses, f0_tapeSize, f0_faultIs, f0_faultAt, f0_at, f0_newEquations, f0_newClauses, f0_lineYes, f0_lineNo, h0_eSet, h0_eRight, h0_cYes, h0_cNo, h0_newSet, h0_newRight, h0_newYes, h0_newNo))
      (cif (vp_in x2 n0_newYes)
        (cif (vp_in x2 n0_cYes)
          (cif (vp_in x2 n0_newNo)
            (cif (vp_in x2 n0_cNo)
              (L_X8_read_132 f0_n n0_eSet n0_eRight n0_cYes n0_cNo n0_tape h0_tape n0_newSet n0_newRight n0_newYes n0_newNo x1 (x2 + (1 : Int32)) f0_thrown f0_equations f0_clauses f0_tapeSize f0_faultIs f0_faultAt f0_at f0_newEquations f0_newClauses f0_lineYes f0_lineNo h0_eSet h0_eRight (vp_updL h0_cYes x2.toNatClampNeg (h0_newYes x2.toNatClampNeg)) (vp_updL h0_cNo x2.toNatClampNeg (h0_newNo x2.toNatClampNeg)) h0_newSet h0_newRight h0_newYes h0_newNo)
              (none))
            (none))
          (none))
        (none)) := by
  show runw (st_X8_read f0_n n0_eSet n0_eRight n0_cYes n0_cNo n0_tape h0_tape n0_newSet n0_newRight n0_newYes n0_newNo) (.inr (.inr (x1, x2, f0_thrown, f0_equations, f0_clauses, f0_tapeSize, f0_faultIs, f0_faultAt, f0_at, f0_newEquations, f0_newClauses, f0_lineYes, f0_lineNo, h0_eSet, h0_eRight, h0_cYes, h0_cNo, h0_newSet, h0_newRight, h0_newYes, h0_newNo))) = _
  rw [runw_eq]
  show run1 _ (b_X8_read_132 f0_n n0_eSet n0_eRight n0_cYes n0_cNo n0_tape h0_tape n0_newSet n0_newRight n0_newYes n0_newNo x1 x2 f0_thrown f0_equations f0_clauses f0_tapeSize f0_faultIs f0_faultAt f0_at f0_newEquations f0_newClauses f0_lineYes f0_lineNo h0_eSet h0_eRight h0_cYes h0_cNo h0_newSet h0_newRight h0_newYes h0_newNo) = _
  simp only [b_X8_read_132, run1_cif, run1_sbd, run1_inl, run1_inr]
  try rfl
noncomputable def D_X8_read (f0_thrown : Int32) (f0_n : Int32) (f0_equations : Int32) (f0_clauses : Int32) (f0_tapeSize : Int32) (f0_faultIs : Int32) (f0_faultAt : Int32) (f0_at : Int32) (f0_newEquations : Int32) (f0_newClauses : Int32) (f0_lineYes : Int64) (f0_lineNo : Int64) (n0_eSet : Nat) (h0_eSet : Nat → Int64) (n0_eRight : Nat) (h0_eRight : Nat → Int32) (n0_cYes : Nat) (h0_cYes : Nat → Int64) (n0_cNo : Nat) (h0_cNo : Nat → Int64) (n0_tape : Nat) (h0_tape : Nat → Int32) (n0_newSet : Nat) (h0_newSet : Nat → Int64) (n0_newRight : Nat) (h0_newRight : Nat → Int32) (n0_newYes : Nat) (h0_newYes : Nat → Int64) (n0_newNo : Nat) (h0_newNo : Nat → Int64) : Option (Int32 × Int32 × Int32 × Int32 × Int32 × Int32 × Int32 × Int32 × Int32 × Int32 × Int64 × Int64 × (Nat → Int64) × (Nat → Int32) × (Nat → Int64) × (Nat → Int64) × (Nat → Int64) × (Nat → Int32) × (Nat → Int64) × (Nat → Int64)) :=
  Option.bind (D_X8_skip f0_tapeSize (0 : Int32) n0_tape h0_tape) (fun u_1 =>
    L_X8_read_37 f0_n n0_eSet n0_eRight n0_cYes n0_cNo n0_tape h0_tape n0_newSet n0_newRight n0_newYes n0_newNo (0 : Int32) (0 : Int32) f0_equations f0_clauses f0_tapeSize (0 : Int32) f0_faultAt u_1 f0_equations f0_clauses f0_lineYes f0_lineNo h0_eSet h0_eRight h0_cYes h0_cNo h0_newSet h0_newRight h0_newYes h0_newNo)
noncomputable def D_X8_fault (f0_thrown : Int32) (f0_faultIs : Int32) : Option (Int32 × Int32) :=
  some (f0_faultIs, (0 : Int32))
noncomputable def D_X8_headOf (n0_rSet : Nat) (h0_rSet : Nat → Int64) (x1 : Int32) (x2 : Bool) : Option (Int64) :=
  cif (x2 = true)
    (cif (vp_in x1 n0_rSet)
      (Option.bind (D_X8_lowest (h0_rSet x1.toNatClampNeg)) (fun u_7 =>
        some u_7))
      (none))
    (cif (vp_in x1 n0_rSet)
      (Option.bind (D_X8_highest (h0_rSet x1.toNatClampNeg)) (fun u_4 =>
        some u_4))
      (none))
abbrev S_X8_putRow : Type := (Int64 × Int32 × Int32 × Int32 × (Nat → Int64) × (Nat → Int32)) ⊕ (Int32 × Int32 × Int32 × (Nat → Int64) × (Nat → Int32))
noncomputable def b_X8_putRow_24 (n0_rSet : Nat) (n0_rRight : Nat) (x1 : Int64) (x3 : Int32) (x4 : Bool) (x5 : Int64) (x7 : Int32) (x8 : Int32) (f0_rowCount : Int32) (h0_rSet : Nat → Int64) (h0_rRight : Nat → Int32) : Option (Int32 × (Nat → Int64) × (Nat → Int32)) ⊕ S_X8_putRow :=
  cif (f0_rowCount ≤ x8)
    (.inr (.inr (x7, f0_rowCount, f0_rowCount, h0_rSet, h0_rRight)))
    (cif (vp_in x8 n0_rSet)
      (cif (((h0_rSet x8.toNatClampNeg) &&& x5) = (0 : Int64))
        (sbd (D_X8_headOf n0_rSet h0_rSet x8 x4) (fun u_12 =>
          cif (x5 ≤ u_12)
            (.inr (.inl (x5, x7 + (0 : Int32), x8 + (1 : Int32), f0_rowCount, h0_rSet, h0_rRight)))
            (.inr (.inl (x5, x7 + (1 : Int32), x8 + (1 : Int32), f0_rowCount, h0_rSet, h0_rRight)))))
        (cif (vp_in x8 n0_rSet)
          (cif (vp_in x8 n0_rSet)
            (cif (vp_in x8 n0_rRight)
              (cif (vp_in x8 n0_rRight)
                (sbd (D_X8_headOf n0_rSet (vp_updL h0_rSet x8.toNatClampNeg ((h0_rSet x8.toNatClampNeg) ^^^ x1)) x8 x4) (fun u_20 =>
                  cif (x5 ≤ u_20)
                    (.inr (.inl (x5, x7 + (0 : Int32), x8 + (1 : Int32), f0_rowCount, vp_updL h0_rSet x8.toNatClampNeg ((h0_rSet x8.toNatClampNeg) ^^^ x1), upd h0_rRight x8.toNatClampNeg ((h0_rRight x8.toNatClampNeg) ^^^ x3))))
                    (.inr (.inl (x5, x7 + (1 : Int32), x8 + (1 : Int32), f0_rowCount, vp_updL h0_rSet x8.toNatClampNeg ((h0_rSet x8.toNatClampNeg) ^^^ x1), upd h0_rRight x8.toNatClampNeg ((h0_rRight x8.toNatClampNeg) ^^^ x3))))))
                (.inl none))
              (.inl none))
            (.inl none))
          (.inl none)))
      (.inl none))
noncomputable def b_X8_putRow_116 (n0_rSet : Nat) (n0_rRight : Nat) (x1 : Int64) (x3 : Int32) (x4 : Bool) (x7 : Int32) (x8 : Int32) (f0_rowCount : Int32) (h0_rSet : Nat → Int64) (h0_rRight : Nat → Int32) : Option (Int32 × (Nat → Int64) × (Nat → Int32)) ⊕ S_X8_putRow :=
  cif (x8 ≤ x7)
    (cif (vp_in x7 n0_rSet)
      (cif (vp_in x7 n0_rRight)
        (.inl (some (f0_rowCount + (1 : Int32), vp_updL h0_rSet x7.toNatClampNeg x1, upd h0_rRight x7.toNatClampNeg x3)))
        (.inl none))
      (.inl none))
    (cif (vp_in (x8 - (1 : Int32)) n0_rSet)
      (cif (vp_in x8 n0_rSet)
        (cif (vp_in (x8 - (1 : Int32)) n0_rRight)
          (cif (vp_in x8 n0_rRight)
            (.inr (.inr (x7, x8 + (-1 : Int32), f0_rowCount, vp_updL h0_rSet x8.toNatClampNeg (h0_rSet (x8 - (1 : Int32)).toNatClampNeg), upd h0_rRight x8.toNatClampNeg (h0_rRight (x8 - (1 : Int32)).toNatClampNeg))))
            (.inl none))
          (.inl none))
        (.inl none))
      (.inl none))
noncomputable def st_X8_putRow (n0_rSet : Nat) (n0_rRight : Nat) (x1 : Int64) (x3 : Int32) (x4 : Bool) : S_X8_putRow → Option (Int32 × (Nat → Int64) × (Nat → Int32)) ⊕ S_X8_putRow := fun x => match x with
  | .inl (x5, x7, x8, f0_rowCount, h0_rSet, h0_rRight) => b_X8_putRow_24 n0_rSet n0_rRight x1 x3 x4 x5 x7 x8 f0_rowCount h0_rSet h0_rRight
  | .inr (x7, x8, f0_rowCount, h0_rSet, h0_rRight) => b_X8_putRow_116 n0_rSet n0_rRight x1 x3 x4 x7 x8 f0_rowCount h0_rSet h0_rRight
noncomputable def L_X8_putRow_24 (n0_rSet : Nat) (n0_rRight : Nat) (x1 : Int64) (x3 : Int32) (x4 : Bool) (x5 : Int64) (x7 : Int32) (x8 : Int32) (f0_rowCount : Int32) (h0_rSet : Nat → Int64) (h0_rRight : Nat → Int32) : Option (Int32 × (Nat → Int64) × (Nat → Int32)) := runw (st_X8_putRow n0_rSet n0_rRight x1 x3 x4) (.inl (x5, x7, x8, f0_rowCount, h0_rSet, h0_rRight))
noncomputable def L_X8_putRow_116 (n0_rSet : Nat) (n0_rRight : Nat) (x1 : Int64) (x3 : Int32) (x4 : Bool) (x7 : Int32) (x8 : Int32) (f0_rowCount : Int32) (h0_rSet : Nat → Int64) (h0_rRight : Nat → Int32) : Option (Int32 × (Nat → Int64) × (Nat → Int32)) := runw (st_X8_putRow n0_rSet n0_rRight x1 x3 x4) (.inr (x7, x8, f0_rowCount, h0_rSet, h0_rRight))
theorem E_X8_putRow_24 (n0_rSet : Nat) (n0_rRight : Nat) (x1 : Int64) (x3 : Int32) (x4 : Bool) (x5 : Int64) (x7 : Int32) (x8 : Int32) (f0_rowCount : Int32) (h0_rSet : Nat → Int64) (h0_rRight : Nat → Int32) : L_X8_putRow_24 n0_rSet n0_rRight x1 x3 x4 x5 x7 x8 f0_rowCount h0_rSet h0_rRight =
    cif (f0_rowCount ≤ x8)
      (L_X8_putRow_116 n0_rSet n0_rRight x1 x3 x4 x7 f0_rowCount f0_rowCount h0_rSet h0_rRight)
      (cif (vp_in x8 n0_rSet)
        (cif (((h0_rSet x8.toNatClampNeg) &&& x5) = (0 : Int64))
          (Option.bind (D_X8_headOf n0_rSet h0_rSet x8 x4) (fun u_12 =>
            cif (x5 ≤ u_12)
              (L_X8_putRow_24 n0_rSet n0_rRight x1 x3 x4 x5 (x7 + (0 : Int32)) (x8 + (1 : Int32)) f0_rowCount h0_rSet h0_rRight)
              (L_X8_putRow_24 n0_rSet n0_rRight x1 x3 x4 x5 (x7 + (1 : Int32)) (x8 + (1 : Int32)) f0_rowCount h0_rSet h0_rRight)))
          (cif (vp_in x8 n0_rSet)
            (cif (vp_in x8 n0_rSet)
              (cif (vp_in x8 n0_rRight)
                (cif (vp_in x8 n0_rRight)
                  (Option.bind (D_X8_headOf n0_rSet (vp_updL h0_rSet x8.toNatClampNeg ((h0_rSet x8.toNatClampNeg) ^^^ x1)) x8 x4) (fun u_20 =>
                    cif (x5 ≤ u_20)
                      (L_X8_putRow_24 n0_rSet n0_rRight x1 x3 x4 x5 (x7 + (0 : Int32)) (x8 + (1 : Int32)) f0_rowCount (vp_updL h0_rSet x8.toNatClampNeg ((h0_rSet x8.toNatClampNeg) ^^^ x1)) (upd h0_rRight x8.toNatClampNeg ((h0_rRight x8.toNatClampNeg) ^^^ x3)))
                      (L_X8_putRow_24 n0_rSet n0_rRight x1 x3 x4 x5 (x7 + (1 : Int32)) (x8 + (1 : Int32)) f0_rowCount (vp_updL h0_rSet x8.toNatClampNeg ((h0_rSet x8.toNatClampNeg) ^^^ x1)) (upd h0_rRight x8.toNatClampNeg ((h0_rRight x8.toNatClampNeg) ^^^ x3)))))
                  (none))
                (none))
              (none))
            (none)))
        (none)) := by
  show runw (st_X8_putRow n0_rSet n0_rRight x1 x3 x4) (.inl (x5, x7, x8, f0_rowCount, h0_rSet, h0_rRight)) = _
  rw [runw_eq]
  show run1 _ (b_X8_putRow_24 n0_rSet n0_rRight x1 x3 x4 x5 x7 x8 f0_rowCount h0_rSet h0_rRight) = _
  simp only [b_X8_putRow_24, run1_cif, run1_sbd, run1_inl, run1_inr]
  try rfl
theorem E_X8_putRow_116 (n0_rSet : Nat) (n0_rRight : Nat) (x1 : Int64) (x3 : Int32) (x4 : Bool) (x7 : Int32) (x8 : Int32) (f0_rowCount : Int32) (h0_rSet : Nat → Int64) (h0_rRight : Nat → Int32) : L_X8_putRow_116 n0_rSet n0_rRight x1 x3 x4 x7 x8 f0_rowCount h0_rSet h0_rRight =
    cif (x8 ≤ x7)
      (cif (vp_in x7 n0_rSet)
        (cif (vp_in x7 n0_rRight)
          (some (f0_rowCount + (1 : Int32), vp_updL h0_rSet x7.toNatClampNeg x1, upd h0_rRight x7.toNatClampNeg x3))
          (none))
        (none))
      (cif (vp_in (x8 - (1 : Int32)) n0_rSet)
        (cif (vp_in x8 n0_rSet)
          (cif (vp_in (x8 - (1 : Int32)) n0_rRight)
            (cif (vp_in x8 n0_rRight)
              (L_X8_putRow_116 n0_rSet n0_rRight x1 x3 x4 x7 (x8 + (-1 : Int32)) f0_rowCount (vp_updL h0_rSet x8.toNatClampNeg (h0_rSet (x8 - (1 : Int32)).toNatClampNeg)) (upd h0_rRight x8.toNatClampNeg (h0_rRight (x8 - (1 : Int32)).toNatClampNeg)))
              (none))
            (none))
          (none))
        (none)) := by
  show runw (st_X8_putRow n0_rSet n0_rRight x1 x3 x4) (.inr (x7, x8, f0_rowCount, h0_rSet, h0_rRight)) = _
  rw [runw_eq]
  show run1 _ (b_X8_putRow_116 n0_rSet n0_rRight x1 x3 x4 x7 x8 f0_rowCount h0_rSet h0_rRight) = _
  simp only [b_X8_putRow_116, run1_cif, run1_sbd, run1_inl, run1_inr]
  try rfl
noncomputable def D_X8_putRow (f0_rowCount : Int32) (n0_rSet : Nat) (h0_rSet : Nat → Int64) (n0_rRight : Nat) (h0_rRight : Nat → Int32) (x1 : Int64) (x3 : Int32) (x4 : Bool) : Option (Int32 × (Nat → Int64) × (Nat → Int32)) :=
  cif (x4 = true)
    (Option.bind (D_X8_lowest x1) (fun u_5 =>
      L_X8_putRow_24 n0_rSet n0_rRight x1 x3 x4 u_5 (0 : Int32) (0 : Int32) f0_rowCount h0_rSet h0_rRight))
    (Option.bind (D_X8_highest x1) (fun u_3 =>
      L_X8_putRow_24 n0_rSet n0_rRight x1 x3 x4 u_3 (0 : Int32) (0 : Int32) f0_rowCount h0_rSet h0_rRight))
