abbrev S_X5_spread : Type := (Bool × Int32 × Int64 × Int64 × Bool × (Nat → Int64))
noncomputable def b_X5_spread_4 (f0_n : Int32) (f0_rows_n : Int32) (n0_rows_byHead : Nat) (f1_clauseCount : Int32) (n1_yes : Nat) (h1_yes : Nat → Int64) (n1_no : Nat) (h1_no : Nat → Int64) (x2 : Bool) (x3 : Int32) (f0_taken : Int64) (f0_ones : Int64) (f0_rows_impossible : Bool) (h0_rows_byHead : Nat → Int64) : Option (Bool × Int64 × Int64 × Bool × (Nat → Int64)) ⊕ S_X5_spread :=
  cif (x2 = true)
    (cif (f0_rows_impossible = true)
      (.inl (some (false, f0_taken, f0_ones, f0_rows_impossible, h0_rows_byHead)))
      (cif ((40 : Int32) < x3)
        (.inl (some (true, f0_taken, f0_ones, f0_rows_impossible, h0_rows_byHead)))
        (sbd (D_X5_takeFromRows f0_n f0_taken f0_ones f0_rows_n f0_rows_impossible n0_rows_byHead h0_rows_byHead) (fun u_11 =>
          sbd (D_X5_takeFromClauses u_11.1 u_11.2.1 f0_rows_n u_11.2.2.1 n0_rows_byHead u_11.2.2.2 f1_clauseCount n1_yes h1_yes n1_no h1_no) (fun u_13 =>
            cif (u_13.1 = true)
              (cif (u_13.2.1 = u_11.1)
                (.inr (false, x3 + (1 : Int32), u_13.2.1, u_13.2.2.1, u_13.2.2.2.1, u_13.2.2.2.2))
                (.inr (true, x3 + (1 : Int32), u_13.2.1, u_13.2.2.1, u_13.2.2.2.1, u_13.2.2.2.2)))
              (.inl (some (false, u_13.2.1, u_13.2.2.1, u_13.2.2.2.1, u_13.2.2.2.2))))))))
    (cif (f0_rows_impossible = true)
      (.inl (some (false, f0_taken, f0_ones, f0_rows_impossible, h0_rows_byHead)))
      (.inl (some (true, f0_taken, f0_ones, f0_rows_impossible, h0_rows_byHead))))
noncomputable def st_X5_spread (f0_n : Int32) (f0_rows_n : Int32) (n0_rows_byHead : Nat) (f1_clauseCount : Int32) (n1_yes : Nat) (h1_yes : Nat → Int64) (n1_no : Nat) (h1_no : Nat → Int64) : S_X5_spread → Option (Bool × Int64 × Int64 × Bool × (Nat → Int64)) ⊕ S_X5_spread := fun x => match x with
  | (x2, x3, f0_taken, f0_ones, f0_rows_impossible, h0_rows_byHead) => b_X5_spread_4 f0_n f0_rows_n n0_rows_byHead f1_clauseCount n1_yes h1_yes n1_no h1_no x2 x3 f0_taken f0_ones f0_rows_impossible h0_rows_byHead
noncomputable def L_X5_spread_4 (f0_n : Int32) (f0_rows_n : Int32) (n0_rows_byHead : Nat) (f1_clauseCount : Int32) (n1_yes : Nat) (h1_yes : Nat → Int64) (n1_no : Nat) (h1_no : Nat → Int64) (x2 : Bool) (x3 : Int32) (f0_taken : Int64) (f0_ones : Int64) (f0_rows_impossible : Bool) (h0_rows_byHead : Nat → Int64) : Option (Bool × Int64 × Int64 × Bool × (Nat → Int64)) := runw (st_X5_spread f0_n f0_rows_n n0_rows_byHead f1_clauseCount n1_yes h1_yes n1_no h1_no) (x2, x3, f0_taken, f0_ones, f0_rows_impossible, h0_rows_byHead)
theorem E_X5_spread_4 (f0_n : Int32) (f0_rows_n : Int32) (n0_rows_byHead : Nat) (f1_clauseCount : Int32) (n1_yes : Nat) (h1_yes : Nat → Int64) (n1_no : Nat) (h1_no : Nat → Int64) (x2 : Bool) (x3 : Int32) (f0_taken : Int64) (f0_ones : Int64) (f0_rows_impossible : Bool) (h0_rows_byHead : Nat → Int64) : L_X5_spread_4 f0_n f0_rows_n n0_rows_byHead f1_clauseCount n1_yes h1_yes n1_no h1_no x2 x3 f0_taken f0_ones f0_rows_impossible h0_rows_byHead =
    cif (x2 = true)
      (cif (f0_rows_impossible = true)
        (some (false, f0_taken, f0_ones, f0_rows_impossible, h0_rows_byHead))
        (cif ((40 : Int32) < x3)
          (some (true, f0_taken, f0_ones, f0_rows_impossible, h0_rows_byHead))
          (Option.bind (D_X5_takeFromRows f0_n f0_taken f0_ones f0_rows_n f0_rows_impossible n0_rows_byHead h0_rows_byHead) (fun u_11 =>
            Option.bind (D_X5_takeFromClauses u_11.1 u_11.2.1 f0_rows_n u_11.2.2.1 n0_rows_byHead u_11.2.2.2 f1_clauseCount n1_yes h1_yes n1_no h1_no) (fun u_13 =>
              cif (u_13.1 = true)
                (cif (u_13.2.1 = u_11.1)
                  (L_X5_spread_4 f0_n f0_rows_n n0_rows_byHead f1_clauseCount n1_yes h1_yes n1_no h1_no false (x3 + (1 : Int32)) u_13.2.1 u_13.2.2.1 u_13.2.2.2.1 u_13.2.2.2.2)
                  (L_X5_spread_4 f0_n f0_rows_n n0_rows_byHead f1_clauseCount n1_yes h1_yes n1_no h1_no true (x3 + (1 : Int32)) u_13.2.1 u_13.2.2.1 u_13.2.2.2.1 u_13.2.2.2.2))
                (some (false, u_13.2.1, u_13.2.2.1, u_13.2.2.2.1, u_13.2.2.2.2)))))))
      (cif (f0_rows_impossible = true)
        (some (false, f0_taken, f0_ones, f0_rows_impossible, h0_rows_byHead))
        (some (true, f0_taken, f0_ones, f0_rows_impossible, h0_rows_byHead))) := by
  show runw (st_X5_spread f0_n f0_rows_n n0_rows_byHead f1_clauseCount n1_yes h1_yes n1_no h1_no) (x2, x3, f0_taken, f0_ones, f0_rows_impossible, h0_rows_byHead) = _
  rw [runw_eq]
  show run1 _ (b_X5_spread_4 f0_n f0_rows_n n0_rows_byHead f1_clauseCount n1_yes h1_yes n1_no h1_no x2 x3 f0_taken f0_ones f0_rows_impossible h0_rows_byHead) = _
  simp only [b_X5_spread_4, run1_cif, run1_sbd, run1_inl, run1_inr]
  try rfl
noncomputable def D_X5_spread (f0_n : Int32) (f0_taken : Int64) (f0_ones : Int64) (f0_rows_n : Int32) (f0_rows_impossible : Bool) (n0_rows_byHead : Nat) (h0_rows_byHead : Nat → Int64) (f1_clauseCount : Int32) (n1_yes : Nat) (h1_yes : Nat → Int64) (n1_no : Nat) (h1_no : Nat → Int64) : Option (Bool × Int64 × Int64 × Bool × (Nat → Int64)) :=
  L_X5_spread_4 f0_n f0_rows_n n0_rows_byHead f1_clauseCount n1_yes h1_yes n1_no h1_no true (0 : Int32) f0_taken f0_ones f0_rows_impossible h0_rows_byHead
theorem in_X5_spread_X2 : ∀ w ∈ wsX20, w ∈ wsX5_spread := by decide +kernel
theorem in_X5_spread_X5 : ∀ w ∈ wsX50, w ∈ wsX5_spread := by decide +kernel
theorem lk_0_X5_spread : Cond.fieldLink RX5 20 "ParityClauses$Taking" "rows" "LParityClauses$Rows;" ∈ wsX5_spread := by decide +kernel
theorem lk_1_X5_spread : Cond.fieldLink RX5 50 "ParityClauses$Rows" "impossible" "Z" ∈ wsX5_spread := by decide +kernel
theorem lk_2_X5_spread : Cond.fieldLink RX5 28 "ParityClauses$Taking" "taken" "J" ∈ wsX5_spread := by decide +kernel
abbrev rm_X5_spread : Room := { frames := 6, cells := 0, slots := 0, locals := 145 }
set_option maxHeartbeats 4000000 in
set_option maxRecDepth 100000 in
theorem cm_X5_spread (l : Launch) (D : va_G) (cI cL : ClassId) (q0 q0_rows q0_rows_byHead q1 q1_yes q1_no : Nat) (n0_rows_byHead n1_yes n1_no : Nat) (f0_n : Int32) (f0_taken : Int64) (f0_ones : Int64) (f0_rows_n : Int32) (f0_rows_impossible : Bool) (h0_rows_byHead : Nat → Int64) (f1_clauseCount : Int32) (h1_yes : Nat → Int64) (h1_no : Nat → Int64) (v1_equations v1_equationCount v1_equationsBefore v1_clausesBefore v1_levelCount : Value) (r0 : Bool × Int64 × Int64 × Bool × (Nat → Int64)) (h0 : D_X5_spread f0_n f0_taken f0_ones f0_rows_n f0_rows_impossible n0_rows_byHead h0_rows_byHead f1_clauseCount n1_yes h1_yes n1_no h1_no = some r0) (sz : Nat) : Met l yX5_spread wsX5_spread rm_X5_spread (PcW D cI cL [.ref q0, .ref q1] [(q0, .inr (5, [.int f0_n, .ref q0_rows, .long f0_taken, .long f0_ones])), (q0_rows, .inr (2, [.int f0_rows_n, .ref q0_rows_byHead, .int (bI f0_rows_impossible)])), (q0_rows_byHead, .inl (cL, n0_rows_byHead, .inr (.inl h0_rows_byHead))), (q1, .inr (4, [v1_equations, .ref q1_yes, .ref q1_no, v1_equationCount, .int f1_clauseCount, v1_equationsBefore, v1_clausesBefore, v1_levelCount])), (q1_yes, .inl (cL, n1_yes, .inr (.inl h1_yes))), (q1_no, .inl (cL, n1_no, .inr (.inl h1_no)))] sz) (QiW D [(q0, .inr (5, [.int f0_n, .ref q0_rows, .long f0_taken, .long f0_ones])), (q0_rows, .inr (2, [.int f0_rows_n, .ref q0_rows_byHead, .int (bI f0_rows_impossible)])), (q0_rows_byHead, .inl (cL, n0_rows_byHead, .inr (.inl h0_rows_byHead))), (q1, .inr (4, [v1_equations, .ref q1_yes, .ref q1_no, v1_equationCount, .int f1_clauseCount, v1_equationsBefore, v1_clausesBefore, v1_levelCount])), (q1_yes, .inl (cL, n1_yes, .inr (.inl h1_yes))), (q1_no, .inl (cL, n1_no, .inr (.inl h1_no)))] (bI r0.1) (fun _ : Unit => [(q0, .inr (5, [.int f0_n, .ref q0_rows, .long r0.2.1, .long r0.2.2.1])), (q0_rows, .inr (2, [.int f0_rows_n, .ref q0_rows_byHead, .int (bI r0.2.2.2.1)])), (q0_rows_byHead, .inl (cL, n0_rows_byHead, .inr (.inl r0.2.2.2.2))), (q1, .inr (4, [v1_equations, .ref q1_yes, .ref q1_no, v1_equationCount, .int f1_clauseCount, v1_equationsBefore, v1_clausesBefore, v1_levelCount])), (q1_yes, .inl (cL, n1_yes, .inr (.inl h1_yes))), (q1_no, .inl (cL, n1_no, .inr (.inl h1_no)))]) tU sz) 0 0 (va_A [(q0, .inr (5, [.int f0_n, .ref q0_rows, .long f0_taken, .long f0_ones])), (q0_rows, .inr (2, [.int f0_rows_n, .ref q0_rows_byHead, .int (bI f0_rows_impossible)])), (q0_rows_byHead, .inl (cL, n0_rows_byHead, .inr (.inl h0_rows_byHead))), (q1, .inr (4, [v1_equations, .ref q1_yes, .ref q1_no, v1_equationCount, .int f1_clauseCount, v1_equationsBefore, v1_clausesBefore, v1_levelCount])), (q1_yes, .inl (cL, n1_yes, .inr (.inl h1_yes))), (q1_no, .inl (cL, n1_no, .inr (.inl h1_no)))] sz) := by
  refine Met.ofW (cc := cX5_spread) (maxL := 6) (ret := (some .boolean)) (by decide) rfl ?_
  intro p e s m args below meth c s₁ B hml hv
  obtain ⟨hargs, hsz, hP, hEV, hD0⟩ := hv
  have hx := B.exec
  have hb := B.bytes
  have hr := B.returns
  have hts := atoms_spec (ws := wsX5_spread) B.pre
  have hown : s.vm.findClass RX5 = some m.cls := findClass_of_methodNamed B.named
  have hlocks := B.notSynchronized
  have hK := hEV.K
  have lk_0 := hts _ lk_0_X5_spread
  have lk_1 := hts _ lk_1_X5_spread
  have lk_2 := hts _ lk_2_X5_spread
  subst hsz
  unfold QiW PoW
  have hD := hD0.self (sz := s.heap.size)
  generalize hAe : va_A [(q0, .inr (5, [.int f0_n, .ref q0_rows, .long f0_taken, .long f0_ones])), (q0_rows, .inr (2, [.int f0_rows_n, .ref q0_rows_byHead, .int (bI f0_rows_impossible)])), (q0_rows_byHead, .inl (cL, n0_rows_byHead, .inr (.inl h0_rows_byHead))), (q1, .inr (4, [v1_equations, .ref q1_yes, .ref q1_no, v1_equationCount, .int f1_clauseCount, v1_equationsBefore, v1_clausesBefore, v1_levelCount])), (q1_yes, .inl (cL, n1_yes, .inr (.inl h1_yes))), (q1_no, .inl (cL, n1_no, .inr (.inl h1_no)))] s.heap.size = A at hD ⊢
  have hA : ∀ q : Nat, s.heap.size ≤ q → A q := fun q h => by rw [← hAe]; exact Or.inr h
  have hS : va_S A s.heap s.heap [] := va_S.rf
  have hent : entryFrame m args 6 = entryFrame m ([.ref q0, .ref q1] : List Value).toArray 6 := by rw [hargs]
  rw [hent]
  refine kx_Q (fun Q hQ => ?_)
  have hl := lv_entry ([.ref q0, .ref q1]) (n := 6) (Nat.le_of_ble_eq_true rfl)
  rw [lg_entry_eq]
  generalize (lg_sl ([.ref q0, .ref q1]) ++ List.replicate (6 - (lg_sl ([.ref q0, .ref q1])).length) Slot.unset).toArray = ls at hl ⊢
  have hl : lv_has ls 6 [(0, .ref q0), (1, .ref q1)] := hl
  have hloop : ∀ n9 : Nat, (∀ (x2 : Bool) (x3 : Int32) (f0_taken : Int64) (f0_ones : Int64) (f0_rows_impossible : Bool) (h0_rows_byHead : Nat → Int64), iter (st_X5_spread f0_n f0_rows_n n0_rows_byHead f1_clauseCount n1_yes h1_yes n1_no h1_no) n9 (x2, x3, f0_taken, f0_ones, f0_rows_impossible, h0_rows_byHead) = some r0 → ∀ (H : Heap) (locs : List Loc) (ls : Array Slot), va_P D vwCl [(q0, .inr (5, [.int f0_n, .ref q0_rows, .long f0_taken, .long f0_ones])), (q0_rows, .inr (2, [.int f0_rows_n, .ref q0_rows_byHead, .int (bI f0_rows_impossible)])), (q0_rows_byHead, .inl (cL, n0_rows_byHead, .inr (.inl h0_rows_byHead))), (q1, .inr (4, [v1_equations, .ref q1_yes, .ref q1_no, v1_equationCount, .int f1_clauseCount, v1_equationsBefore, v1_clausesBefore, v1_levelCount])), (q1_yes, .inl (cL, n1_yes, .inr (.inl h1_yes))), (q1_no, .inl (cL, n1_no, .inr (.inl h1_no)))] H → va_D A [(q0, .inr (5, [.int f0_n, .ref q0_rows, .long f0_taken, .long f0_ones])), (q0_rows, .inr (2, [.int f0_rows_n, .ref q0_rows_byHead, .int (bI f0_rows_impossible)])), (q0_rows_byHead, .inl (cL, n0_rows_byHead, .inr (.inl h0_rows_byHead))), (q1, .inr (4, [v1_equations, .ref q1_yes, .ref q1_no, v1_equationCount, .int f1_clauseCount, v1_equationsBefore, v1_clausesBefore, v1_levelCount])), (q1_yes, .inl (cL, n1_yes, .inr (.inl h1_yes))), (q1_no, .inl (cL, n1_no, .inr (.inl h1_no)))] → va_S A s.heap H locs → lv_has ls 6 [(0, .ref q0), (1, .ref q1), (2, .int (bI x2)), (3, .int x3)] → W p l e (headSpec wsX5_spread rm_X5_spread).room s m args below meth c H locs 0 0 Q (F0 m 4 ls [])) := by
    intro n9
    induction n9 with
    | zero => exact fun _ _ _ _ _ _ h => nomatch h
    | succ n9 ih =>
      intro x2 x3 f0_taken f0_ones f0_rows_impossible h0_rows_byHead h H locs ls hP hD hS hl
      have h : run1 (iter (st_X5_spread f0_n f0_rows_n n0_rows_byHead f1_clauseCount n1_yes h1_yes n1_no h1_no) n9) (b_X5_spread_4 f0_n f0_rows_n n0_rows_byHead f1_clauseCount n1_yes h1_yes n1_no h1_no x2 x3 f0_taken f0_ones f0_rows_impossible h0_rows_byHead) = some r0 := h
      unfold b_X5_spread_4 at h
      refine lv_iload_n hx hb dX5_spread_4 rfl (lv_at hl 2 rfl) ?_
      refine lv_if_eq (tgt := 66) hx hb dX5_spread_5 (by decide) (fun c_1 => ?_) (fun c_1 => ?_)
      · have k_2 : ¬ (x2 = true) := (kx_z c_1)
        have h := cw_f k_2 h
        refine lv_aload_n hx hb dX5_spread_66 rfl (lv_at hl 0 rfl) ?_
        refine va_get (D := D) (ci := 5) (v := .ref q0_rows) (C := RX5) (T := TX5) (N := 4) hx hb hts in_X5_spread_X5 hown hK hP 0 rfl rfl 1 (by decide) lk_0 (fun _ h9 => h9) rfl dX5_spread_67 ?_
        refine va_get (D := D) (ci := 2) (v := .int (bI f0_rows_impossible)) (C := RX2) (T := TX2) (N := 3) hx hb hts in_X5_spread_X2 hown hK hP 1 rfl rfl 2 (by decide) lk_1 (fun _ h9 => h9) rfl dX5_spread_70 ?_
        refine lv_if_ne (tgt := 80) hx hb dX5_spread_73 (by decide) (fun c_3 => ?_) (fun c_3 => ?_)
        · have k_4 : f0_rows_impossible = true := (kx_nz c_3)
          have h := cw_t k_4 h
          refine lv_iconst (v := (0 : Int32)) hx hb dX5_spread_80 (by decide) ?_
          have h := Option.some.inj h
          subst h
          subst hQ
          exact W.zret (v := bI false) hx hb hr (bI_n false) (fun t ht hW => ⟨⟨bI false, (), rfl, ⟨rfl, trivial⟩, by rw [ht]; exact hP, hD⟩, hS.F ht⟩) hS.2.2 dX5_spread_81
        · have k_4 : ¬ (f0_rows_impossible = true) := (kx_z c_3)
          have h := cw_f k_4 h
          refine lv_iconst (v := (1 : Int32)) hx hb dX5_spread_76 (by decide) ?_
          refine lv_goto (tgt := 81) hx hb dX5_spread_77 (by decide) ?_
          have h := Option.some.inj h
          subst h
          subst hQ
          exact W.zret (v := bI true) hx hb hr (bI_n true) (fun t ht hW => ⟨⟨bI true, (), rfl, ⟨rfl, trivial⟩, by rw [ht]; exact hP, hD⟩, hS.F ht⟩) hS.2.2 dX5_spread_81
      · have k_2 : x2 = true := (kx_nz c_1)
        have h := cw_t k_2 h
        refine lv_aload_n hx hb dX5_spread_8 rfl (lv_at hl 0 rfl) ?_
        refine va_get (D := D) (ci := 5) (v := .ref q0_rows) (C := RX5) (T := TX5) (N := 4) hx hb hts in_X5_spread_X5 hown hK hP 0 rfl rfl 1 (by decide) lk_0 (fun _ h9 => h9) rfl dX5_spread_9 ?_
        refine va_get (D := D) (ci := 2) (v := .int (bI f0_rows_impossible)) (C := RX2) (T := TX2) (N := 3) hx hb hts in_X5_spread_X2 hown hK hP 1 rfl rfl 2 (by decide) lk_1 (fun _ h9 => h9) rfl dX5_spread_12 ?_
        refine lv_if_ne (tgt := 66) hx hb dX5_spread_15 (by decide) (fun c_5 => ?_) (fun c_5 => ?_)
        · have k_6 : f0_rows_impossible = true := (kx_nz c_5)
          have h := cw_t k_6 h
          refine lv_aload_n hx hb dX5_spread_66 rfl (lv_at hl 0 rfl) ?_
          refine va_get (D := D) (ci := 5) (v := .ref q0_rows) (C := RX5) (T := TX5) (N := 4) hx hb hts in_X5_spread_X5 hown hK hP 0 rfl rfl 1 (by decide) lk_0 (fun _ h9 => h9) rfl dX5_spread_67 ?_
          refine va_get (D := D) (ci := 2) (v := .int (bI f0_rows_impossible)) (C := RX2) (T := TX2) (N := 3) hx hb hts in_X5_spread_X2 hown hK hP 1 rfl rfl 2 (by decide) lk_1 (fun _ h9 => h9) rfl dX5_spread_70 ?_
          refine lv_if_ne (tgt := 80) hx hb dX5_spread_73 (by decide) (fun c_7 => ?_) (fun c_7 => ?_)
          · refine lv_iconst (v := (0 : Int32)) hx hb dX5_spread_80 (by decide) ?_
            have h := Option.some.inj h
            subst h
            subst hQ
            exact W.zret (v := bI false) hx hb hr (bI_n false) (fun t ht hW => ⟨⟨bI false, (), rfl, ⟨rfl, trivial⟩, by rw [ht]; exact hP, hD⟩, hS.F ht⟩) hS.2.2 dX5_spread_81
          · exact absurd k_6 (kx_z c_7)
        · have k_6 : ¬ (f0_rows_impossible = true) := (kx_z c_5)
          have h := cw_f k_6 h
          refine lv_iload_n hx hb dX5_spread_18 rfl (lv_at hl 3 rfl) ?_
          refine lv_bipush (v := (40 : Int32)) hx hb dX5_spread_19 (by decide) ?_
          refine lv_icmp_gt (tgt := 66) hx hb dX5_spread_21 (by decide) (fun c_8 => ?_) (fun c_8 => ?_)
          · have k_9 : (40 : Int32) < x3 := c_8
            have h := cw_t k_9 h
            refine lv_aload_n hx hb dX5_spread_66 rfl (lv_at hl 0 rfl) ?_
            refine va_get (D := D) (ci := 5) (v := .ref q0_rows) (C := RX5) (T := TX5) (N := 4) hx hb hts in_X5_spread_X5 hown hK hP 0 rfl rfl 1 (by decide) lk_0 (fun _ h9 => h9) rfl dX5_spread_67 ?_
            refine va_get (D := D) (ci := 2) (v := .int (bI f0_rows_impossible)) (C := RX2) (T := TX2) (N := 3) hx hb hts in_X5_spread_X2 hown hK hP 1 rfl rfl 2 (by decide) lk_1 (fun _ h9 => h9) rfl dX5_spread_70 ?_
            refine lv_if_ne (tgt := 80) hx hb dX5_spread_73 (by decide) (fun c_10 => ?_) (fun c_10 => ?_)
            · exact absurd (kx_nz c_10) k_6
            · refine lv_iconst (v := (1 : Int32)) hx hb dX5_spread_76 (by decide) ?_
              refine lv_goto (tgt := 81) hx hb dX5_spread_77 (by decide) ?_
              have h := Option.some.inj h
              subst h
              subst hQ
              exact W.zret (v := bI true) hx hb hr (bI_n true) (fun t ht hW => ⟨⟨bI true, (), rfl, ⟨rfl, trivial⟩, by rw [ht]; exact hP, hD⟩, hS.F ht⟩) hS.2.2 dX5_spread_81
          · have k_9 : ¬ ((40 : Int32) < x3) := c_8
            have h := cw_f k_9 h
            refine lv_aload_n hx hb dX5_spread_24 rfl (lv_at hl 0 rfl) ?_
            obtain ⟨u_11, hu_12, h⟩ := cw_b h
            refine kx_v (ws' := fun _ => [(q0, .inr (5, [.int f0_n, .ref q0_rows, .long u_11.1, .long u_11.2.1])), (q0_rows, .inr (2, [.int f0_rows_n, .ref q0_rows_byHead, .int (bI u_11.2.2.1)])), (q0_rows_byHead, .inl (cL, n0_rows_byHead, .inr (.inl u_11.2.2.2))), (q1, .inr (4, [v1_equations, .ref q1_yes, .ref q1_no, v1_equationCount, .int f1_clauseCount, v1_equationsBefore, v1_clausesBefore, v1_levelCount])), (q1_yes, .inl (cL, n1_yes, .inr (.inl h1_yes))), (q1_no, .inl (cL, n1_no, .inr (.inl h1_no)))]) hP hD hS hA [0, 1, 2] [3, 4, 5] [3, 4, 5, 0, 1, 2] rfl (by decide) (by decide) (by decide) (fun _ => rfl) (by decide) (va_runV (As := []) (rest := []) ⟨hx, hb, hml, hown, hts⟩ (cm_X5_takeFromRows l D cI cL (q0 := q0) (q0_rows := q0_rows) (q0_rows_byHead := q0_rows_byHead) (n0_rows_byHead := n0_rows_byHead) (f0_n := f0_n) (f0_taken := f0_taken) (f0_ones := f0_ones) (f0_rows_n := f0_rows_n) (f0_rows_impossible := f0_rows_impossible) (h0_rows_byHead := h0_rows_byHead) (r0 := u_11) (h0 := hu_12) (sz := H.size)) (cwV 0 hts gX5_spread_X5_takeFromRows rfl rfl rfl (by decide +kernel) ⟨Nat.le_of_ble_eq_true rfl, Nat.le_of_ble_eq_true rfl⟩) (kx_preV hEV hP hD [0, 1, 2] rfl (by decide) (k0 := 0) (ci := 5) rfl rfl rfl) rfl rfl hl.1 rfl (lv_room (Nat.le_of_ble_eq_true rfl)) dX5_spread_25 ⟨Nat.le_refl _, Nat.le_refl _⟩) (fun _ H locs _ hP hD hS => ?_)
            refine lv_aload_n hx hb dX5_spread_28 rfl (lv_at hl 0 rfl) ?_
            refine va_get (D := D) (ci := 5) (v := .long u_11.1) (C := RX5) (T := TX5) (N := 4) hx hb hts in_X5_spread_X5 hown hK hP 0 rfl rfl 2 (by decide) lk_2 (fun _ h9 => h9) rfl dX5_spread_29 ?_
            refine lv_lstore (lv' := [(4, .long u_11.1), (0, .ref q0), (1, .ref q1), (2, .int (bI x2)), (3, .int x3)]) hx hb dX5_spread_32 hl (by decide) rfl (fun ls hl => ?_)
            refine lv_aload_n hx hb dX5_spread_34 rfl (lv_at hl 1 rfl) ?_
            refine lv_aload_n hx hb dX5_spread_35 rfl (lv_at hl 2 rfl) ?_
            obtain ⟨u_13, hu_14, h⟩ := cw_b h
            refine kx_i (ws' := fun _ => [(q0, .inr (5, [.int f0_n, .ref q0_rows, .long u_13.2.1, .long u_13.2.2.1])), (q0_rows, .inr (2, [.int f0_rows_n, .ref q0_rows_byHead, .int (bI u_13.2.2.2.1)])), (q0_rows_byHead, .inl (cL, n0_rows_byHead, .inr (.inl u_13.2.2.2.2))), (q1, .inr (4, [v1_equations, .ref q1_yes, .ref q1_no, v1_equationCount, .int f1_clauseCount, v1_equationsBefore, v1_clausesBefore, v1_levelCount])), (q1_yes, .inl (cL, n1_yes, .inr (.inl h1_yes))), (q1_no, .inl (cL, n1_no, .inr (.inl h1_no)))]) hP hD hS hA [0, 1, 2, 3, 4, 5] [] [0, 1, 2, 3, 4, 5] rfl (by decide) (by decide) (by decide) (fun _ => rfl) (by decide) (va_runV (As := [.ref q1]) (rest := []) ⟨hx, hb, hml, hown, hts⟩ (cm_X5_takeFromClauses l D cI cL (q0 := q0) (q0_rows := q0_rows) (q0_rows_byHead := q0_rows_byHead) (q1 := q1) (q1_yes := q1_yes) (q1_no := q1_no) (n0_rows_byHead := n0_rows_byHead) (n1_yes := n1_yes) (n1_no := n1_no) (f0_taken := u_11.1) (f0_ones := u_11.2.1) (f0_rows_n := f0_rows_n) (f0_rows_impossible := u_11.2.2.1) (h0_rows_byHead := u_11.2.2.2) (f1_clauseCount := f1_clauseCount) (h1_yes := h1_yes) (h1_no := h1_no) (v0_n := .int f0_n) (v1_equations := v1_equations) (v1_equationCount := v1_equationCount) (v1_equationsBefore := v1_equationsBefore) (v1_clausesBefore := v1_clausesBefore) (v1_levelCount := v1_levelCount) (r0 := u_13) (h0 := hu_14) (sz := H.size)) (cwV 1 hts gX5_spread_X5_takeFromClauses rfl rfl rfl (by decide +kernel) ⟨Nat.le_of_ble_eq_true rfl, Nat.le_of_ble_eq_true rfl⟩) (kx_preV hEV hP hD [0, 1, 2, 3, 4, 5] rfl (by decide) (k0 := 0) (ci := 5) rfl rfl rfl) rfl rfl hl.1 rfl (lv_room (Nat.le_of_ble_eq_true rfl)) dX5_spread_36 ⟨Nat.le_refl _, Nat.le_refl _⟩) (fun _ H locs _ hP hD hS => ?_)
            refine lv_if_ne (tgt := 44) hx hb dX5_spread_39 (by decide) (fun c_15 => ?_) (fun c_15 => ?_)
            · have k_16 : u_13.1 = true := (kx_nz c_15)
              have h := cw_t k_16 h
              refine lv_aload_n hx hb dX5_spread_44 rfl (lv_at hl 1 rfl) ?_
              refine va_get (D := D) (ci := 5) (v := .long u_13.2.1) (C := RX5) (T := TX5) (N := 4) hx hb hts in_X5_spread_X5 hown hK hP 0 rfl rfl 2 (by decide) lk_2 (fun _ h9 => h9) rfl dX5_spread_45 ?_
              refine lv_lload hx hb dX5_spread_48 (lv_at hl 0 rfl) ?_
              refine W.lcmp hx hb dX5_spread_50 ?_
              refine lv_if_eq (tgt := 58) hx hb dX5_spread_51 (by decide) (fun c_17 => ?_) (fun c_17 => ?_)
              · have k_18 : u_13.2.1 = u_11.1 := ((lg_cmp_eq _ _).mp c_17)
                have h := cw_t k_18 h
                refine lv_iconst (v := (0 : Int32)) hx hb dX5_spread_58 (by decide) ?_
                refine lv_istore_n (lv' := [(2, .int (0 : Int32)), (4, .long u_11.1), (0, .ref q0), (1, .ref q1), (3, .int x3)]) hx hb dX5_spread_59 rfl hl (by decide) rfl (fun ls hl => ?_)
                refine lv_iinc (v := x3 + (1 : Int32)) (lv' := [(3, .int (x3 + (1 : Int32))), (2, .int (0 : Int32)), (4, .long u_11.1), (0, .ref q0), (1, .ref q1)]) hx hb dX5_spread_60 hl (k := 4) rfl rfl (by decide) rfl (fun ls hl => ?_)
                refine lv_goto (tgt := 4) hx hb dX5_spread_63 (by decide) ?_
                exact ih _ _ _ _ _ _ h _ _ _ hP hD hS (lv_sub hl [3, 4, 1, 0] rfl)
              · have k_18 : ¬ (u_13.2.1 = u_11.1) := (fun z9 => c_17 ((lg_cmp_eq _ _).mpr z9))
                have h := cw_f k_18 h
                refine lv_iconst (v := (1 : Int32)) hx hb dX5_spread_54 (by decide) ?_
                refine lv_goto (tgt := 59) hx hb dX5_spread_55 (by decide) ?_
                refine lv_istore_n (lv' := [(2, .int (1 : Int32)), (4, .long u_11.1), (0, .ref q0), (1, .ref q1), (3, .int x3)]) hx hb dX5_spread_59 rfl hl (by decide) rfl (fun ls hl => ?_)
                refine lv_iinc (v := x3 + (1 : Int32)) (lv' := [(3, .int (x3 + (1 : Int32))), (2, .int (1 : Int32)), (4, .long u_11.1), (0, .ref q0), (1, .ref q1)]) hx hb dX5_spread_60 hl (k := 4) rfl rfl (by decide) rfl (fun ls hl => ?_)
                refine lv_goto (tgt := 4) hx hb dX5_spread_63 (by decide) ?_
                exact ih _ _ _ _ _ _ h _ _ _ hP hD hS (lv_sub hl [3, 4, 1, 0] rfl)
            · have k_16 : ¬ (u_13.1 = true) := (kx_z c_15)
              have h := cw_f k_16 h
              refine lv_iconst (v := (0 : Int32)) hx hb dX5_spread_42 (by decide) ?_
              have h := Option.some.inj h
              subst h
              subst hQ
              exact W.zret (v := bI false) hx hb hr (bI_n false) (fun t ht hW => ⟨⟨bI false, (), rfl, ⟨rfl, trivial⟩, by rw [ht]; exact hP, hD⟩, hS.F ht⟩) hS.2.2 dX5_spread_43
  have h := h0
  unfold D_X5_spread at h
  refine lv_iconst (v := (1 : Int32)) hx hb dX5_spread_0 (by decide) ?_
  refine lv_istore_n (lv' := [(2, .int (1 : Int32)), (0, .ref q0), (1, .ref q1)]) hx hb dX5_spread_1 rfl hl (by decide) rfl (fun ls hl => ?_)
  refine lv_iconst (v := (0 : Int32)) hx hb dX5_spread_2 (by decide) ?_
  refine lv_istore_n (lv' := [(3, .int (0 : Int32)), (2, .int (1 : Int32)), (0, .ref q0), (1, .ref q1)]) hx hb dX5_spread_3 rfl hl (by decide) rfl (fun ls hl => ?_)
  obtain ⟨n9, hn9⟩ := runw_some h
  exact (hloop n9) _ _ _ _ _ _ hn9 _ _ _ hP hD hS (lv_sub hl [2, 3, 1, 0] rfl)
noncomputable def D_X5_leastOpen (f0_taken : Int64) : Option (Int32) :=
  Option.bind (D_X7_leastPlace (f0_taken ^^^ (-1 : Int64))) (fun u_1 =>
    some u_1)
theorem in_X5_leastOpen_X5 : ∀ w ∈ wsX50, w ∈ wsX5_leastOpen := by decide +kernel
theorem lk_0_X5_leastOpen : Cond.fieldLink RX5 28 "ParityClauses$Taking" "taken" "J" ∈ wsX5_leastOpen := by decide +kernel
theorem lk_1_X5_leastOpen : Cond.constantLong RX5 65 (-1) ∈ wsX5_leastOpen := by decide +kernel
theorem lk_2_X5_leastOpen : Cond.initialized RX7 ∈ wsX5_leastOpen := by decide +kernel
theorem lk_3_X5_leastOpen : Cond.static yX7_leastPlace ∈ wsX5_leastOpen := by decide +kernel
abbrev rm_X5_leastOpen : Room := { frames := 2, cells := 0, slots := 0, locals := 42 }
set_option maxHeartbeats 4000000 in
set_option maxRecDepth 100000 in
theorem cm_X5_leastOpen (l : Launch) (D : va_G) (cI cL : ClassId) (q0 : Nat) (f0_taken : Int64) (v0_n v0_rows v0_ones : Value) (r0 : Int32) (h0 : D_X5_leastOpen f0_taken = some r0) (sz : Nat) : Met l yX5_leastOpen wsX5_leastOpen rm_X5_leastOpen (PcW D cI cL [.ref q0] [(q0, .inr (5, [v0_n, v0_rows, .long f0_taken, v0_ones]))] sz) (QiW D [(q0, .inr (5, [v0_n, v0_rows, .long f0_taken, v0_ones]))] r0 (fun _ : Unit => [(q0, .inr (5, [v0_n, v0_rows, .long f0_taken, v0_ones]))]) tU sz) 0 0 (va_A [(q0, .inr (5, [v0_n, v0_rows, .long f0_taken, v0_ones]))] sz) := by
  refine Met.ofW (cc := cX5_leastOpen) (maxL := 1) (ret := (some .int)) (by decide) rfl ?_
  intro p e s m args below meth c s₁ B hml hv
  obtain ⟨hargs, hsz, hP, hEV, hD0⟩ := hv
  have hx := B.exec
  have hb := B.bytes
  have hr := B.returns
  have hts := atoms_spec (ws := wsX5_leastOpen) B.pre
  have hown : s.vm.findClass RX5 = some m.cls := findClass_of_methodNamed B.named
  have hlocks := B.notSynchronized
  have hK := hEV.K
  have lk_0 := hts _ lk_0_X5_leastOpen
  have lk_1 := hts _ lk_1_X5_leastOpen
  have lk_2 := hts _ lk_2_X5_leastOpen
  have lk_3 := hts _ lk_3_X5_leastOpen
  subst hsz
  unfold QiW PoW
  have hD := hD0.self (sz := s.heap.size)
  generalize hAe : va_A [(q0, .inr (5, [v0_n, v0_rows, .long f0_taken, v0_ones]))] s.heap.size = A at hD ⊢
  have hA : ∀ q : Nat, s.heap.size ≤ q → A q := fun q h => by rw [← hAe]; exact Or.inr h
  have hS : va_S A s.heap s.heap [] := va_S.rf
  have hent : entryFrame m args 1 = entryFrame m ([.ref q0] : List Value).toArray 1 := by rw [hargs]
  rw [hent]
  refine kx_Q (fun Q hQ => ?_)
  have hl := lv_entry ([.ref q0]) (n := 1) (Nat.le_of_ble_eq_true rfl)
  rw [lg_entry_eq]
  generalize (lg_sl ([.ref q0]) ++ List.replicate (1 - (lg_sl ([.ref q0])).length) Slot.unset).toArray = ls at hl ⊢
  have hl : lv_has ls 1 [(0, .ref q0)] := hl
  have h := h0
  unfold D_X5_leastOpen at h
  refine lv_aload_n hx hb dX5_leastOpen_0 rfl (lv_at hl 0 rfl) ?_
  refine va_get (D := D) (ci := 5) (v := .long f0_taken) (C := RX5) (T := TX5) (N := 4) hx hb hts in_X5_leastOpen_X5 hown hK hP 0 rfl rfl 2 (by decide) lk_0 (fun _ h9 => h9) rfl dX5_leastOpen_1 ?_
  refine lv_ldc2 hx hb hown lk_1 dX5_leastOpen_4 ?_
  refine lv_lxor hx hb dX5_leastOpen_7 ?_
  obtain ⟨u_1, hu_2, h⟩ := co_b h
  refine kx_i (ws' := fun _ => [(q0, .inr (5, [v0_n, v0_rows, .long f0_taken, v0_ones]))]) hP hD hS hA [] [0] [0] rfl (by decide) (by decide) (by decide) (fun _ => rfl) (by decide) (va_runSN (As := [.long (f0_taken ^^^ (-1 : Int64))]) (rest := []) ⟨hx, hb, hml, hown, hts⟩ (cm_X7_leastPlace l D cI cL (x0 := f0_taken ^^^ (-1 : Int64)) (r0 := u_1) (h0 := hu_2) (sz := H.size)) ⟨va_cnB 1 hts gX5_leastOpen_X7_leastPlace_n67 rfl rfl rfl hEV.2.2.2.2.2.2 lk_2 (by decide +kernel) ⟨Nat.le_of_ble_eq_true rfl, Nat.le_of_ble_eq_true rfl⟩, lk_3, trivial⟩ (kx_preS hEV hP hD [] rfl (by decide)) rfl rfl hl.1 rfl (lv_room (Nat.le_of_ble_eq_true rfl)) dX5_leastOpen_8 ⟨Nat.le_refl _, Nat.le_refl _⟩) (fun _ H locs _ hP hD hS => ?_)
  have h := Option.some.inj h
  subst h
  subst hQ
  exact W.iret (v := u_1) hx hb hr (fun t ht hW => ⟨⟨u_1, (), rfl, ⟨rfl, trivial⟩, by rw [ht]; exact hP, hD⟩, hS.F ht⟩) hS.2.2 dX5_leastOpen_11
noncomputable def D_X5_isFull (f0_n : Int32) (f0_taken : Int64) : Option (Bool) :=
  Option.bind (D_X5_leastOpen f0_taken) (fun u_1 =>
    cif (u_1 < f0_n)
      (some false)
      (some true))
theorem in_X5_isFull_X5 : ∀ w ∈ wsX50, w ∈ wsX5_isFull := by decide +kernel
theorem lk_0_X5_isFull : Cond.fieldLink RX5 9 "ParityClauses$Taking" "n" "I" ∈ wsX5_isFull := by decide +kernel
abbrev rm_X5_isFull : Room := { frames := 3, cells := 0, slots := 0, locals := 62 }
set_option maxHeartbeats 4000000 in
set_option maxRecDepth 100000 in
theorem cm_X5_isFull (l : Launch) (D : va_G) (cI cL : ClassId) (q0 : Nat) (f0_n : Int32) (f0_taken : Int64) (v0_rows v0_ones : Value) (r0 : Bool) (h0 : D_X5_isFull f0_n f0_taken = some r0) (sz : Nat) : Met l yX5_isFull wsX5_isFull rm_X5_isFull (PcW D cI cL [.ref q0] [(q0, .inr (5, [.int f0_n, v0_rows, .long f0_taken, v0_ones]))] sz) (QiW D [(q0, .inr (5, [.int f0_n, v0_rows, .long f0_taken, v0_ones]))] (bI r0) (fun _ : Unit => [(q0, .inr (5, [.int f0_n, v0_rows, .long f0_taken, v0_ones]))]) tU sz) 0 0 (va_A [(q0, .inr (5, [.int f0_n, v0_rows, .long f0_taken, v0_ones]))] sz) := by
  refine Met.ofW (cc := cX5_isFull) (maxL := 1) (ret := (some .boolean)) (by decide) rfl ?_
  intro p e s m args below meth c s₁ B hml hv
  obtain ⟨hargs, hsz, hP, hEV, hD0⟩ := hv
  have hx := B.exec
  have hb := B.bytes
  have hr := B.returns
  have hts := atoms_spec (ws := wsX5_isFull) B.pre
  have hown : s.vm.findClass RX5 = some m.cls := findClass_of_methodNamed B.named
  have hlocks := B.notSynchronized
  have hK := hEV.K
  have lk_0 := hts _ lk_0_X5_isFull
  subst hsz
  unfold QiW PoW
  have hD := hD0.self (sz := s.heap.size)
  generalize hAe : va_A [(q0, .inr (5, [.int f0_n, v0_rows, .long f0_taken, v0_ones]))] s.heap.size = A at hD ⊢
  have hA : ∀ q : Nat, s.heap.size ≤ q → A q := fun q h => by rw [← hAe]; exact Or.inr h
  have hS : va_S A s.heap s.heap [] := va_S.rf
  have hent : entryFrame m args 1 = entryFrame m ([.ref q0] : List Value).toArray 1 := by rw [hargs]
  rw [hent]
  refine kx_Q (fun Q hQ => ?_)
  have hl := lv_entry ([.ref q0]) (n := 1) (Nat.le_of_ble_eq_true rfl)
  rw [lg_entry_eq]
  generalize (lg_sl ([.ref q0]) ++ List.replicate (1 - (lg_sl ([.ref q0])).length) Slot.unset).toArray = ls at hl ⊢
  have hl : lv_has ls 1 [(0, .ref q0)] := hl
  have h := h0
  unfold D_X5_isFull at h
  refine lv_aload_n hx hb dX5_isFull_0 rfl (lv_at hl 0 rfl) ?_
  obtain ⟨u_1, hu_2, h⟩ := co_b h
  refine kx_i (ws' := fun _ => [(q0, .inr (5, [.int f0_n, v0_rows, .long f0_taken, v0_ones]))]) hP hD hS hA [0] [] [0] rfl (by decide) (by decide) (by decide) (fun _ => rfl) (by decide) (va_runV (As := []) (rest := []) ⟨hx, hb, hml, hown, hts⟩ (cm_X5_leastOpen l D cI cL (q0 := q0) (f0_taken := f0_taken) (v0_n := .int f0_n) (v0_rows := v0_rows) (v0_ones := v0_ones) (r0 := u_1) (h0 := hu_2) (sz := H.size)) (cwV 0 hts gX5_isFull_X5_leastOpen rfl rfl rfl (by decide +kernel) ⟨Nat.le_of_ble_eq_true rfl, Nat.le_of_ble_eq_true rfl⟩) (kx_preV hEV hP hD [0] rfl (by decide) (k0 := 0) (ci := 5) rfl rfl rfl) rfl rfl hl.1 rfl (lv_room (Nat.le_of_ble_eq_true rfl)) dX5_isFull_1 ⟨Nat.le_refl _, Nat.le_refl _⟩) (fun _ H locs _ hP hD hS => ?_)
  refine lv_aload_n hx hb dX5_isFull_4 rfl (lv_at hl 0 rfl) ?_
  refine va_get (D := D) (ci := 5) (v := .int f0_n) (C := RX5) (T := TX5) (N := 4) hx hb hts in_X5_isFull_X5 hown hK hP 0 rfl rfl 0 (by decide) lk_0 (fun _ h9 => h9) rfl dX5_isFull_5 ?_
  refine lv_icmp_lt (tgt := 15) hx hb dX5_isFull_8 (by decide) (fun c_3 => ?_) (fun c_3 => ?_)
  · have k_4 : u_1 < f0_n := c_3
    have h := co_t k_4 h
    refine lv_iconst (v := (0 : Int32)) hx hb dX5_isFull_15 (by decide) ?_
    have h := Option.some.inj h
    subst h
    subst hQ
    exact W.zret (v := bI false) hx hb hr (bI_n false) (fun t ht hW => ⟨⟨bI false, (), rfl, ⟨rfl, trivial⟩, by rw [ht]; exact hP, hD⟩, hS.F ht⟩) hS.2.2 dX5_isFull_16
  · have k_4 : ¬ (u_1 < f0_n) := c_3
    have h := co_f k_4 h
    refine lv_iconst (v := (1 : Int32)) hx hb dX5_isFull_11 (by decide) ?_
    refine lv_goto (tgt := 16) hx hb dX5_isFull_12 (by decide) ?_
    have h := Option.some.inj h
    subst h
    subst hQ
    exact W.zret (v := bI true) hx hb hr (bI_n true) (fun t ht hW => ⟨⟨bI true, (), rfl, ⟨rfl, trivial⟩, by rw [ht]; exact hP, hD⟩, hS.F ht⟩) hS.2.2 dX5_isFull_16
noncomputable def D_X3_pile (f0_n : Int32) (f0_pileSize : Int32) (f0_start_taken : Int64) (f0_start_ones : Int64) (n0_start_rows_byHead : Nat) (h0_start_rows_byHead : Nat → Int64) (n0_pileRows : Nat) (h0_pileRows : Nat → Int64) (n0_pileTaken : Nat) (h0_pileTaken : Nat → Int64) (n0_pileOnes : Nat) (h0_pileOnes : Nat → Int64) : Option (Int32 × (Nat → Int64) × (Nat → Int64) × (Nat → Int64)) :=
  cif (f0_n ≤ f0_pileSize)
    (some (f0_pileSize, h0_pileRows, h0_pileTaken, h0_pileOnes))
    (cif (¬ (0 : Int32) < 0 ∧ ¬ (f0_pileSize * f0_n) < 0 ∧ ¬ f0_n < 0 ∧ (0 : Int32).toNatClampNeg + f0_n.toNatClampNeg ≤ n0_start_rows_byHead ∧ (f0_pileSize * f0_n).toNatClampNeg + f0_n.toNatClampNeg ≤ n0_pileRows)
      (cif (vp_in f0_pileSize n0_pileTaken)
        (cif (vp_in f0_pileSize n0_pileOnes)
          (some (f0_pileSize + (1 : Int32), va_cpy h0_start_rows_byHead h0_pileRows (0 : Int32).toNatClampNeg (f0_pileSize * f0_n).toNatClampNeg f0_n.toNatClampNeg, vp_updL h0_pileTaken f0_pileSize.toNatClampNeg f0_start_taken, vp_updL h0_pileOnes f0_pileSize.toNatClampNeg f0_start_ones))
          (none))
        (none))
      (none))
theorem in_X3_pile_X2 : ∀ w ∈ wsX20, w ∈ wsX3_pile := by decide +kernel
theorem in_X3_pile_X3 : ∀ w ∈ wsX30, w ∈ wsX3_pile := by decide +kernel
theorem in_X3_pile_X5 : ∀ w ∈ wsX50, w ∈ wsX3_pile := by decide +kernel
theorem lk_0_X3_pile : Cond.fieldLink RX3 36 "ParityClauses$Search" "pileSize" "I" ∈ wsX3_pile := by decide +kernel
theorem lk_1_X3_pile : Cond.fieldLink RX3 7 "ParityClauses$Search" "n" "I" ∈ wsX3_pile := by decide +kernel
theorem lk_2_X3_pile : Cond.fieldLink RX3 18 "ParityClauses$Search" "start" "LParityClauses$Taking;" ∈ wsX3_pile := by decide +kernel
theorem lk_3_X3_pile : Cond.fieldLink RX3 82 "ParityClauses$Rows" "byHead" "[J" ∈ wsX3_pile := by decide +kernel
theorem lk_4_X3_pile : Cond.fieldLink RX3 22 "ParityClauses$Search" "pileRows" "[J" ∈ wsX3_pile := by decide +kernel
theorem lk_5_X3_pile : Cond.methodLink RX3 87 arraycopyName ∈ wsX3_pile := by decide +kernel
theorem lk_6_X3_pile : Cond.native arraycopyName ∈ wsX3_pile := by decide +kernel
theorem lk_7_X3_pile : Cond.static arraycopyName ∈ wsX3_pile := by decide +kernel
theorem lk_8_X3_pile : Cond.initialized "java/lang/System" ∈ wsX3_pile := by decide +kernel
theorem lk_9_X3_pile : Cond.fieldLink RX3 26 "ParityClauses$Search" "pileTaken" "[J" ∈ wsX3_pile := by decide +kernel
theorem lk_10_X3_pile : Cond.fieldLink RX3 93 "ParityClauses$Taking" "taken" "J" ∈ wsX3_pile := by decide +kernel
theorem lk_11_X3_pile : Cond.fieldLink RX3 29 "ParityClauses$Search" "pileOnes" "[J" ∈ wsX3_pile := by decide +kernel
theorem lk_12_X3_pile : Cond.fieldLink RX3 57 "ParityClauses$Taking" "ones" "J" ∈ wsX3_pile := by decide +kernel
abbrev rm_X3_pile : Room := { frames := 1, cells := 0, slots := 0, locals := 40 }
set_option maxHeartbeats 4000000 in
set_option maxRecDepth 100000 in
theorem cm_X3_pile (l : Launch) (D : va_G) (cI cL : ClassId) (q0 q0_start q0_start_rows q0_start_rows_byHead q0_pileRows q0_pileTaken q0_pileOnes : Nat) (n0_start_rows_byHead n0_pileRows n0_pileTaken n0_pileOnes : Nat) (f0_n : Int32) (f0_pileSize : Int32) (f0_start_taken : Int64) (f0_start_ones : Int64) (h0_start_rows_byHead : Nat → Int64) (h0_pileRows : Nat → Int64) (h0_pileTaken : Nat → Int64) (h0_pileOnes : Nat → Int64) (v0_nodeCount v0_modelCount v0_lastModel v0_cut v0_start_n v0_start_rows_n v0_start_rows_impossible : Value) (r0 : Int32 × (Nat → Int64) × (Nat → Int64) × (Nat → Int64)) (h0 : D_X3_pile f0_n f0_pileSize f0_start_taken f0_start_ones n0_start_rows_byHead h0_start_rows_byHead n0_pileRows h0_pileRows n0_pileTaken h0_pileTaken n0_pileOnes h0_pileOnes = some r0) (sz : Nat) : Met l yX3_pile wsX3_pile rm_X3_pile (PcW D cI cL [.ref q0] [(q0, .inr (3, [.int f0_n, .ref q0_start, .ref q0_pileRows, .ref q0_pileTaken, .ref q0_pileOnes, .int f0_pileSize, v0_nodeCount, v0_modelCount, v0_lastModel, v0_cut])), (q0_start, .inr (5, [v0_start_n, .ref q0_start_rows, .long f0_start_taken, .long f0_start_ones])), (q0_start_rows, .inr (2, [v0_start_rows_n, .ref q0_start_rows_byHead, v0_start_rows_impossible])), (q0_start_rows_byHead, .inl (cL, n0_start_rows_byHead, .inr (.inl h0_start_rows_byHead))), (q0_pileRows, .inl (cL, n0_pileRows, .inr (.inl h0_pileRows))), (q0_pileTaken, .inl (cL, n0_pileTaken, .inr (.inl h0_pileTaken))), (q0_pileOnes, .inl (cL, n0_pileOnes, .inr (.inl h0_pileOnes)))] sz) (QvW D [(q0, .inr (3, [.int f0_n, .ref q0_start, .ref q0_pileRows, .ref q0_pileTaken, .ref q0_pileOnes, .int f0_pileSize, v0_nodeCount, v0_modelCount, v0_lastModel, v0_cut])), (q0_start, .inr (5, [v0_start_n, .ref q0_start_rows, .long f0_start_taken, .long f0_start_ones])), (q0_start_rows, .inr (2, [v0_start_rows_n, .ref q0_start_rows_byHead, v0_start_rows_impossible])), (q0_start_rows_byHead, .inl (cL, n0_start_rows_byHead, .inr (.inl h0_start_rows_byHead))), (q0_pileRows, .inl (cL, n0_pileRows, .inr (.inl h0_pileRows))), (q0_pileTaken, .inl (cL, n0_pileTaken, .inr (.inl h0_pileTaken))), (q0_pileOnes, .inl (cL, n0_pileOnes, .inr (.inl h0_pileOnes)))] (fun _ : Unit => [(q0, .inr (3, [.int f0_n, .ref q0_start, .ref q0_pileRows, .ref q0_pileTaken, .ref q0_pileOnes, .int r0.1, v0_nodeCount, v0_modelCount, v0_lastModel, v0_cut])), (q0_start, .inr (5, [v0_start_n, .ref q0_start_rows, .long f0_start_taken, .long f0_start_ones])), (q0_start_rows, .inr (2, [v0_start_rows_n, .ref q0_start_rows_byHead, v0_start_rows_impossible])), (q0_start_rows_byHead, .inl (cL, n0_start_rows_byHead, .inr (.inl h0_start_rows_byHead))), (q0_pileRows, .inl (cL, n0_pileRows, .inr (.inl r0.2.1))), (q0_pileTaken, .inl (cL, n0_pileTaken, .inr (.inl r0.2.2.1))), (q0_pileOnes, .inl (cL, n0_pileOnes, .inr (.inl r0.2.2.2)))]) tU sz) 0 0 (va_A [(q0, .inr (3, [.int f0_n, .ref q0_start, .ref q0_pileRows, .ref q0_pileTaken, .ref q0_pileOnes, .int f0_pileSize, v0_nodeCount, v0_modelCount, v0_lastModel, v0_cut])), (q0_start, .inr (5, [v0_start_n, .ref q0_start_rows, .long f0_start_taken, .long f0_start_ones])), (q0_start_rows, .inr (2, [v0_start_rows_n, .ref q0_start_rows_byHead, v0_start_rows_impossible])), (q0_start_rows_byHead, .inl (cL, n0_start_rows_byHead, .inr (.inl h0_start_rows_byHead))), (q0_pileRows, .inl (cL, n0_pileRows, .inr (.inl h0_pileRows))), (q0_pileTaken, .inl (cL, n0_pileTaken, .inr (.inl h0_pileTaken))), (q0_pileOnes, .inl (cL, n0_pileOnes, .inr (.inl h0_pileOnes)))] sz) := by
  refine Met.ofW (cc := cX3_pile) (maxL := 1) (ret := none) (by decide) rfl ?_
  intro p e s m args below meth c s₁ B hml hv
  obtain ⟨hargs, hsz, hP, hEV, hD0⟩ := hv
  have hx := B.exec
  have hb := B.bytes
  have hr := B.returns
  have hts := atoms_spec (ws := wsX3_pile) B.pre
  have hown : s.vm.findClass RX3 = some m.cls := findClass_of_methodNamed B.named
  have hlocks := B.notSynchronized
  have hK := hEV.K
  have lk_0 := hts _ lk_0_X3_pile
  have lk_1 := hts _ lk_1_X3_pile
  have lk_2 := hts _ lk_2_X3_pile
  have lk_3 := hts _ lk_3_X3_pile
  have lk_4 := hts _ lk_4_X3_pile
  have lk_5 := hts _ lk_5_X3_pile
  have lk_6 := hts _ lk_6_X3_pile
  have lk_7 := hts _ lk_7_X3_pile
  have lk_8 := hts _ lk_8_X3_pile
  have lk_9 := hts _ lk_9_X3_pile
  have lk_10 := hts _ lk_10_X3_pile
  have lk_11 := hts _ lk_11_X3_pile
  have lk_12 := hts _ lk_12_X3_pile
  subst hsz
  unfold QvW PoW
  have hD := hD0.self (sz := s.heap.size)
  generalize hAe : va_A [(q0, .inr (3, [.int f0_n, .ref q0_start, .ref q0_pileRows, .ref q0_pileTaken, .ref q0_pileOnes, .int f0_pileSize, v0_nodeCount, v0_modelCount, v0_lastModel, v0_cut])), (q0_start, .inr (5, [v0_start_n, .ref q0_start_rows, .long f0_start_taken, .long f0_start_ones])), (q0_start_rows, .inr (2, [v0_start_rows_n, .ref q0_start_rows_byHead, v0_start_rows_impossible])), (q0_start_rows_byHead, .inl (cL, n0_start_rows_byHead, .inr (.inl h0_start_rows_byHead))), (q0_pileRows, .inl (cL, n0_pileRows, .inr (.inl h0_pileRows))), (q0_pileTaken, .inl (cL, n0_pileTaken, .inr (.inl h0_pileTaken))), (q0_pileOnes, .inl (cL, n0_pileOnes, .inr (.inl h0_pileOnes)))] s.heap.size = A at hD ⊢
  have hA : ∀ q : Nat, s.heap.size ≤ q → A q := fun q h => by rw [← hAe]; exact Or.inr h
  have hS : va_S A s.heap s.heap [] := va_S.rf
  have hent : entryFrame m args 1 = entryFrame m ([.ref q0] : List Value).toArray 1 := by rw [hargs]
  rw [hent]
  refine kx_Q (fun Q hQ => ?_)
  have hl := lv_entry ([.ref q0]) (n := 1) (Nat.le_of_ble_eq_true rfl)
  rw [lg_entry_eq]
  generalize (lg_sl ([.ref q0]) ++ List.replicate (1 - (lg_sl ([.ref q0])).length) Slot.unset).toArray = ls at hl ⊢
  have hl : lv_has ls 1 [(0, .ref q0)] := hl
  have h := h0
  unfold D_X3_pile at h
  refine lv_aload_n hx hb dX3_pile_0 rfl (lv_at hl 0 rfl) ?_
  refine va_get (D := D) (ci := 3) (v := .int f0_pileSize) (C := RX3) (T := TX3) (N := 10) hx hb hts in_X3_pile_X3 hown hK hP 0 rfl rfl 5 (by decide) lk_0 (fun _ h9 => h9) rfl dX3_pile_1 ?_
  refine lv_aload_n hx hb dX3_pile_4 rfl (lv_at hl 0 rfl) ?_
  refine va_get (D := D) (ci := 3) (v := .int f0_n) (C := RX3) (T := TX3) (N := 10) hx hb hts in_X3_pile_X3 hown hK hP 0 rfl rfl 0 (by decide) lk_1 (fun _ h9 => h9) rfl dX3_pile_5 ?_
  refine lv_icmp_ge (tgt := 84) hx hb dX3_pile_8 (by decide) (fun c_1 => ?_) (fun c_1 => ?_)
  · have k_2 : f0_n ≤ f0_pileSize := c_1
    have h := co_t k_2 h
    have h := Option.some.inj h
    subst h
    subst hQ
    exact W.vret hx hb hr (fun t ht hW => ⟨⟨(), rfl, trivial, by rw [ht]; exact hP, hD⟩, hS.F ht⟩) hS.2.2 dX3_pile_84
  · have k_2 : ¬ (f0_n ≤ f0_pileSize) := c_1
    have h := co_f k_2 h
    refine lv_aload_n hx hb dX3_pile_11 rfl (lv_at hl 0 rfl) ?_
    refine va_get (D := D) (ci := 3) (v := .ref q0_start) (C := RX3) (T := TX3) (N := 10) hx hb hts in_X3_pile_X3 hown hK hP 0 rfl rfl 1 (by decide) lk_2 (fun _ h9 => h9) rfl dX3_pile_12 ?_
    refine va_getN (D := D) (ci := 5) (v := .ref q0_start_rows) (C := RX5) (T := TX5) (N := 4) (host := "ParityClauses") hx hb hts in_X3_pile_X5 hown hK hP 1 rfl rfl 1 (by decide) (va_Nw.use rfl hEV.2.1) (fun _ h9 => h9) rfl dX3_pile_15 ?_
    refine va_get (D := D) (ci := 2) (v := .ref q0_start_rows_byHead) (C := RX2) (T := TX2) (N := 3) hx hb hts in_X3_pile_X2 hown hK hP 2 rfl rfl 1 (by decide) lk_3 (fun _ h9 => h9) rfl dX3_pile_18 ?_
    refine lv_iconst (v := (0 : Int32)) hx hb dX3_pile_21 (by decide) ?_
    refine lv_aload_n hx hb dX3_pile_22 rfl (lv_at hl 0 rfl) ?_
    refine va_get (D := D) (ci := 3) (v := .ref q0_pileRows) (C := RX3) (T := TX3) (N := 10) hx hb hts in_X3_pile_X3 hown hK hP 0 rfl rfl 2 (by decide) lk_4 (fun _ h9 => h9) rfl dX3_pile_23 ?_
    refine lv_aload_n hx hb dX3_pile_26 rfl (lv_at hl 0 rfl) ?_
    refine va_get (D := D) (ci := 3) (v := .int f0_pileSize) (C := RX3) (T := TX3) (N := 10) hx hb hts in_X3_pile_X3 hown hK hP 0 rfl rfl 5 (by decide) lk_0 (fun _ h9 => h9) rfl dX3_pile_27 ?_
    refine lv_aload_n hx hb dX3_pile_30 rfl (lv_at hl 0 rfl) ?_
    refine va_get (D := D) (ci := 3) (v := .int f0_n) (C := RX3) (T := TX3) (N := 10) hx hb hts in_X3_pile_X3 hown hK hP 0 rfl rfl 0 (by decide) lk_1 (fun _ h9 => h9) rfl dX3_pile_31 ?_
    refine lv_imul hx hb dX3_pile_34 ?_
    refine lv_aload_n hx hb dX3_pile_35 rfl (lv_at hl 0 rfl) ?_
    refine va_get (D := D) (ci := 3) (v := .int f0_n) (C := RX3) (T := TX3) (N := 10) hx hb hts in_X3_pile_X3 hown hK hP 0 rfl rfl 0 (by decide) lk_1 (fun _ h9 => h9) rfl dX3_pile_36 ?_
    obtain ⟨⟨b_31, b_32, b_33, b_34, b_35⟩, h⟩ := co_i h
    refine va_copyl (ty := .long) hx hb (by rw [hml]; exact hl.1.symm) hown lk_5 lk_6 lk_7 lk_8 hK hP hD hS 3 4 1 1 rfl rfl rfl rfl rfl b_31 b_32 b_33 b_34 b_35 (fun _ _ => rfl) (Nat.le_of_ble_eq_true rfl) (Nat.le_of_ble_eq_true rfl) dX3_pile_39 (fun H locs hP hD hS => ?_)
    have hP : va_P D vwCl [(q0, .inr (3, [.int f0_n, .ref q0_start, .ref q0_pileRows, .ref q0_pileTaken, .ref q0_pileOnes, .int f0_pileSize, v0_nodeCount, v0_modelCount, v0_lastModel, v0_cut])), (q0_start, .inr (5, [v0_start_n, .ref q0_start_rows, .long f0_start_taken, .long f0_start_ones])), (q0_start_rows, .inr (2, [v0_start_rows_n, .ref q0_start_rows_byHead, v0_start_rows_impossible])), (q0_start_rows_byHead, .inl (cL, n0_start_rows_byHead, .inr (.inl h0_start_rows_byHead))), (q0_pileRows, .inl (cL, n0_pileRows, .inr (.inl (va_cpy h0_start_rows_byHead h0_pileRows (0 : Int32).toNatClampNeg (f0_pileSize * f0_n).toNatClampNeg f0_n.toNatClampNeg)))), (q0_pileTaken, .inl (cL, n0_pileTaken, .inr (.inl h0_pileTaken))), (q0_pileOnes, .inl (cL, n0_pileOnes, .inr (.inl h0_pileOnes)))] H := hP
    have hD : va_D A [(q0, .inr (3, [.int f0_n, .ref q0_start, .ref q0_pileRows, .ref q0_pileTaken, .ref q0_pileOnes, .int f0_pileSize, v0_nodeCount, v0_modelCount, v0_lastModel, v0_cut])), (q0_start, .inr (5, [v0_start_n, .ref q0_start_rows, .long f0_start_taken, .long f0_start_ones])), (q0_start_rows, .inr (2, [v0_start_rows_n, .ref q0_start_rows_byHead, v0_start_rows_impossible])), (q0_start_rows_byHead, .inl (cL, n0_start_rows_byHead, .inr (.inl h0_start_rows_byHead))), (q0_pileRows, .inl (cL, n0_pileRows, .inr (.inl (va_cpy h0_start_rows_byHead h0_pileRows (0 : Int32).toNatClampNeg (f0_pileSize * f0_n).toNatClampNeg f0_n.toNatClampNeg)))), (q0_pileTaken, .inl (cL, n0_pileTaken, .inr (.inl h0_pileTaken))), (q0_pileOnes, .inl (cL, n0_pileOnes, .inr (.inl h0_pileOnes)))] := hD
    refine lv_aload_n hx hb dX3_pile_42 rfl (lv_at hl 0 rfl) ?_
    refine va_get (D := D) (ci := 3) (v := .ref q0_pileTaken) (C := RX3) (T := TX3) (N := 10) hx hb hts in_X3_pile_X3 hown hK hP 0 rfl rfl 3 (by decide) lk_9 (fun _ h9 => h9) rfl dX3_pile_43 ?_
    refine lv_aload_n hx hb dX3_pile_46 rfl (lv_at hl 0 rfl) ?_
    refine va_get (D := D) (ci := 3) (v := .int f0_pileSize) (C := RX3) (T := TX3) (N := 10) hx hb hts in_X3_pile_X3 hown hK hP 0 rfl rfl 5 (by decide) lk_0 (fun _ h9 => h9) rfl dX3_pile_47 ?_
    refine lv_aload_n hx hb dX3_pile_50 rfl (lv_at hl 0 rfl) ?_
    refine va_get (D := D) (ci := 3) (v := .ref q0_start) (C := RX3) (T := TX3) (N := 10) hx hb hts in_X3_pile_X3 hown hK hP 0 rfl rfl 1 (by decide) lk_2 (fun _ h9 => h9) rfl dX3_pile_51 ?_
    refine va_get (D := D) (ci := 5) (v := .long f0_start_taken) (C := RX5) (T := TX5) (N := 4) hx hb hts in_X3_pile_X5 hown hK hP 1 rfl rfl 2 (by decide) lk_10 (fun _ h9 => h9) rfl dX3_pile_54 ?_
    obtain ⟨b_4, h⟩ := co_i h
    refine va_last hx hb hK hP hD hS 5 1 rfl rfl b_4 dX3_pile_57 (fun H locs hP hD hS => ?_)
    have hP : va_P D vwCl [(q0, .inr (3, [.int f0_n, .ref q0_start, .ref q0_pileRows, .ref q0_pileTaken, .ref q0_pileOnes, .int f0_pileSize, v0_nodeCount, v0_modelCount, v0_lastModel, v0_cut])), (q0_start, .inr (5, [v0_start_n, .ref q0_start_rows, .long f0_start_taken, .long f0_start_ones])), (q0_start_rows, .inr (2, [v0_start_rows_n, .ref q0_start_rows_byHead, v0_start_rows_impossible])), (q0_start_rows_byHead, .inl (cL, n0_start_rows_byHead, .inr (.inl h0_start_rows_byHead))), (q0_pileRows, .inl (cL, n0_pileRows, .inr (.inl (va_cpy h0_start_rows_byHead h0_pileRows (0 : Int32).toNatClampNeg (f0_pileSize * f0_n).toNatClampNeg f0_n.toNatClampNeg)))), (q0_pileTaken, .inl (cL, n0_pileTaken, .inr (.inl (vp_updL h0_pileTaken f0_pileSize.toNatClampNeg f0_start_taken)))), (q0_pileOnes, .inl (cL, n0_pileOnes, .inr (.inl h0_pileOnes)))] H := hP
    have hD : va_D A [(q0, .inr (3, [.int f0_n, .ref q0_start, .ref q0_pileRows, .ref q0_pileTaken, .ref q0_pileOnes, .int f0_pileSize, v0_nodeCount, v0_modelCount, v0_lastModel, v0_cut])), (q0_start, .inr (5, [v0_start_n, .ref q0_start_rows, .long f0_start_taken, .long f0_start_ones])), (q0_start_rows, .inr (2, [v0_start_rows_n, .ref q0_start_rows_byHead, v0_start_rows_impossible])), (q0_start_rows_byHead, .inl (cL, n0_start_rows_byHead, .inr (.inl h0_start_rows_byHead))), (q0_pileRows, .inl (cL, n0_pileRows, .inr (.inl (va_cpy h0_start_rows_byHead h0_pileRows (0 : Int32).toNatClampNeg (f0_pileSize * f0_n).toNatClampNeg f0_n.toNatClampNeg)))), (q0_pileTaken, .inl (cL, n0_pileTaken, .inr (.inl (vp_updL h0_pileTaken f0_pileSize.toNatClampNeg f0_start_taken)))), (q0_pileOnes, .inl (cL, n0_pileOnes, .inr (.inl h0_pileOnes)))] := hD
    refine lv_aload_n hx hb dX3_pile_58 rfl (lv_at hl 0 rfl) ?_
    refine va_get (D := D) (ci := 3) (v := .ref q0_pileOnes) (C := RX3) (T := TX3) (N := 10) hx hb hts in_X3_pile_X3 hown hK hP 0 rfl rfl 4 (by decide) lk_11 (fun _ h9 => h9) rfl dX3_pile_59 ?_
    refine lv_aload_n hx hb dX3_pile_62 rfl (lv_at hl 0 rfl) ?_
    refine va_get (D := D) (ci := 3) (v := .int f0_pileSize) (C := RX3) (T := TX3) (N := 10) hx hb hts in_X3_pile_X3 hown hK hP 0 rfl rfl 5 (by decide) lk_0 (fun _ h9 => h9) rfl dX3_pile_63 ?_
    refine lv_aload_n hx hb dX3_pile_66 rfl (lv_at hl 0 rfl) ?_
    refine va_get (D := D) (ci := 3) (v := .ref q0_start) (C := RX3) (T := TX3) (N := 10) hx hb hts in_X3_pile_X3 hown hK hP 0 rfl rfl 1 (by decide) lk_2 (fun _ h9 => h9) rfl dX3_pile_67 ?_
    refine va_get (D := D) (ci := 5) (v := .long f0_start_ones) (C := RX5) (T := TX5) (N := 4) hx hb hts in_X3_pile_X5 hown hK hP 1 rfl rfl 3 (by decide) lk_12 (fun _ h9 => h9) rfl dX3_pile_70 ?_
    obtain ⟨b_5, h⟩ := co_i h
    refine va_last hx hb hK hP hD hS 6 1 rfl rfl b_5 dX3_pile_73 (fun H locs hP hD hS => ?_)
    have hP : va_P D vwCl [(q0, .inr (3, [.int f0_n, .ref q0_start, .ref q0_pileRows, .ref q0_pileTaken, .ref q0_pileOnes, .int f0_pileSize, v0_nodeCount, v0_modelCount, v0_lastModel, v0_cut])), (q0_start, .inr (5, [v0_start_n, .ref q0_start_rows, .long f0_start_taken, .long f0_start_ones])), (q0_start_rows, .inr (2, [v0_start_rows_n, .ref q0_start_rows_byHead, v0_start_rows_impossible])), (q0_start_rows_byHead, .inl (cL, n0_start_rows_byHead, .inr (.inl h0_start_rows_byHead))), (q0_pileRows, .inl (cL, n0_pileRows, .inr (.inl (va_cpy h0_start_rows_byHead h0_pileRows (0 : Int32).toNatClampNeg (f0_pileSize * f0_n).toNatClampNeg f0_n.toNatClampNeg)))), (q0_pileTaken, .inl (cL, n0_pileTaken, .inr (.inl (vp_updL h0_pileTaken f0_pileSize.toNatClampNeg f0_start_taken)))), (q0_pileOnes, .inl (cL, n0_pileOnes, .inr (.inl (vp_updL h0_pileOnes f0_pileSize.toNatClampNeg f0_start_ones))))] H := hP
    have hD : va_D A [(q0, .inr (3, [.int f0_n, .ref q0_start, .ref q0_pileRows, .ref q0_pileTaken, .ref q0_pileOnes, .int f0_pileSize, v0_nodeCount, v0_modelCount, v0_lastModel, v0_cut])), (q0_start, .inr (5, [v0_start_n, .ref q0_start_rows, .long f0_start_taken, .long f0_start_ones])), (q0_start_rows, .inr (2, [v0_start_rows_n, .ref q0_start_rows_byHead, v0_start_rows_impossible])), (q0_start_rows_byHead, .inl (cL, n0_start_rows_byHead, .inr (.inl h0_start_rows_byHead))), (q0_pileRows, .inl (cL, n0_pileRows, .inr (.inl (va_cpy h0_start_rows_byHead h0_pileRows (0 : Int32).toNatClampNeg (f0_pileSize * f0_n).toNatClampNeg f0_n.toNatClampNeg)))), (q0_pileTaken, .inl (cL, n0_pileTaken, .inr (.inl (vp_updL h0_pileTaken f0_pileSize.toNatClampNeg f0_start_taken)))), (q0_pileOnes, .inl (cL, n0_pileOnes, .inr (.inl (vp_updL h0_pileOnes f0_pileSize.toNatClampNeg f0_start_ones))))] := hD
    refine lv_aload_n hx hb dX3_pile_74 rfl (lv_at hl 0 rfl) ?_
    refine lv_dup hx hb dX3_pile_75 rfl ?_
    refine va_get (D := D) (ci := 3) (v := .int f0_pileSize) (C := RX3) (T := TX3) (N := 10) hx hb hts in_X3_pile_X3 hown hK hP 0 rfl rfl 5 (by decide) lk_0 (fun _ h9 => h9) rfl dX3_pile_76 ?_
    refine lv_iconst (v := (1 : Int32)) hx hb dX3_pile_79 (by decide) ?_
    refine lv_iadd hx hb dX3_pile_80 ?_
    refine va_put (D := D) (ci := 3) (v := .int (f0_pileSize + (1 : Int32))) (ty := .int) (C := RX3) (T := TX3) (N := 10) hx hb hts in_X3_pile_X3 tyX3 tyX3_ok nmX3 hown hK hP hD hS 0 rfl rfl 5 (by decide) lk_0 (fun _ h9 => h9) rfl (by decide +kernel) rfl rfl (Nat.le_of_ble_eq_true rfl) dX3_pile_81 (fun H locs hP hD hS => ?_)
    have hP : va_P D vwCl [(q0, .inr (3, [.int f0_n, .ref q0_start, .ref q0_pileRows, .ref q0_pileTaken, .ref q0_pileOnes, .int (f0_pileSize + (1 : Int32)), v0_nodeCount, v0_modelCount, v0_lastModel, v0_cut])), (q0_start, .inr (5, [v0_start_n, .ref q0_start_rows, .long f0_start_taken, .long f0_start_ones])), (q0_start_rows, .inr (2, [v0_start_rows_n, .ref q0_start_rows_byHead, v0_start_rows_impossible])), (q0_start_rows_byHead, .inl (cL, n0_start_rows_byHead, .inr (.inl h0_start_rows_byHead))), (q0_pileRows, .inl (cL, n0_pileRows, .inr (.inl (va_cpy h0_start_rows_byHead h0_pileRows (0 : Int32).toNatClampNeg (f0_pileSize * f0_n).toNatClampNeg f0_n.toNatClampNeg)))), (q0_pileTaken, .inl (cL, n0_pileTaken, .inr (.inl (vp_updL h0_pileTaken f0_pileSize.toNatClampNeg f0_start_taken)))), (q0_pileOnes, .inl (cL, n0_pileOnes, .inr (.inl (vp_updL h0_pileOnes f0_pileSize.toNatClampNeg f0_start_ones))))] H := hP
    have hD : va_D A [(q0, .inr (3, [.int f0_n, .ref q0_start, .ref q0_pileRows, .ref q0_pileTaken, .ref q0_pileOnes, .int (f0_pileSize + (1 : Int32)), v0_nodeCount, v0_modelCount, v0_lastModel, v0_cut])), (q0_start, .inr (5, [v0_start_n, .ref q0_start_rows, .long f0_start_taken, .long f0_start_ones])), (q0_start_rows, .inr (2, [v0_start_rows_n, .ref q0_start_rows_byHead, v0_start_rows_impossible])), (q0_start_rows_byHead, .inl (cL, n0_start_rows_byHead, .inr (.inl h0_start_rows_byHead))), (q0_pileRows, .inl (cL, n0_pileRows, .inr (.inl (va_cpy h0_start_rows_byHead h0_pileRows (0 : Int32).toNatClampNeg (f0_pileSize * f0_n).toNatClampNeg f0_n.toNatClampNeg)))), (q0_pileTaken, .inl (cL, n0_pileTaken, .inr (.inl (vp_updL h0_pileTaken f0_pileSize.toNatClampNeg f0_start_taken)))), (q0_pileOnes, .inl (cL, n0_pileOnes, .inr (.inl (vp_updL h0_pileOnes f0_pileSize.toNatClampNeg f0_start_ones))))] := hD
    have h := Option.some.inj h
    subst h
    subst hQ
    exact W.vret hx hb hr (fun t ht hW => ⟨⟨(), rfl, trivial, by rw [ht]; exact hP, hD⟩, hS.F ht⟩) hS.2.2 dX3_pile_84
noncomputable def D_X3_unpile (f0_n : Int32) (f0_pileSize : Int32) (f0_start_taken : Int64) (f0_start_ones : Int64) (f0_start_rows_impossible : Bool) (n0_start_rows_byHead : Nat) (h0_start_rows_byHead : Nat → Int64) (n0_pileRows : Nat) (h0_pileRows : Nat → Int64) (n0_pileTaken : Nat) (h0_pileTaken : Nat → Int64) (n0_pileOnes : Nat) (h0_pileOnes : Nat → Int64) : Option (Bool × Int32 × Int64 × Int64 × Bool × (Nat → Int64)) :=
  cif (0 < f0_pileSize)
    (cif (¬ ((f0_pileSize - (1 : Int32)) * f0_n) < 0 ∧ ¬ (0 : Int32) < 0 ∧ ¬ f0_n < 0 ∧ ((f0_pileSize - (1 : Int32)) * f0_n).toNatClampNeg + f0_n.toNatClampNeg ≤ n0_pileRows ∧ (0 : Int32).toNatClampNeg + f0_n.toNatClampNeg ≤ n0_start_rows_byHead)
      (cif (vp_in (f0_pileSize - (1 : Int32)) n0_pileTaken)
        (cif (vp_in (f0_pileSize - (1 : Int32)) n0_pileOnes)
          (some (true, f0_pileSize - (1 : Int32), h0_pileTaken (f0_pileSize - (1 : Int32)).toNatClampNeg, h0_pileOnes (f0_pileSize - (1 : Int32)).toNatClampNeg, false, va_cpy h0_pileRows h0_start_rows_byHead ((f0_pileSize - (1 : Int32)) * f0_n).toNatClampNeg (0 : Int32).toNatClampNeg f0_n.toNatClampNeg))
          (none))
        (none))
      (none))
    (some (false, f0_pileSize, f0_start_taken, f0_start_ones, f0_start_rows_impossible, h0_start_rows_byHead))
theorem in_X3_unpile_X2 : ∀ w ∈ wsX20, w ∈ wsX3_unpile := by decide +kernel
theorem in_X3_unpile_X3 : ∀ w ∈ wsX30, w ∈ wsX3_unpile := by decide +kernel
theorem in_X3_unpile_X5 : ∀ w ∈ wsX50, w ∈ wsX3_unpile := by decide +kernel
theorem lk_0_X3_unpile : Cond.fieldLink RX3 36 "ParityClauses$Search" "pileSize" "I" ∈ wsX3_unpile := by decide +kernel
theorem lk_1_X3_unpile : Cond.fieldLink RX3 22 "ParityClauses$Search" "pileRows" "[J" ∈ wsX3_unpile := by decide +kernel
theorem lk_2_X3_unpile : Cond.fieldLink RX3 7 "ParityClauses$Search" "n" "I" ∈ wsX3_unpile := by decide +kernel
theorem lk_3_X3_unpile : Cond.fieldLink RX3 18 "ParityClauses$Search" "start" "LParityClauses$Taking;" ∈ wsX3_unpile := by decide +kernel
theorem lk_4_X3_unpile : Cond.fieldLink RX3 82 "ParityClauses$Rows" "byHead" "[J" ∈ wsX3_unpile := by decide +kernel
theorem lk_5_X3_unpile : Cond.methodLink RX3 87 arraycopyName ∈ wsX3_unpile := by decide +kernel
theorem lk_6_X3_unpile : Cond.native arraycopyName ∈ wsX3_unpile := by decide +kernel
theorem lk_7_X3_unpile : Cond.static arraycopyName ∈ wsX3_unpile := by decide +kernel
theorem lk_8_X3_unpile : Cond.initialized "java/lang/System" ∈ wsX3_unpile := by decide +kernel
theorem lk_9_X3_unpile : Cond.fieldLink RX3 96 "ParityClauses$Rows" "impossible" "Z" ∈ wsX3_unpile := by decide +kernel
theorem lk_10_X3_unpile : Cond.fieldLink RX3 26 "ParityClauses$Search" "pileTaken" "[J" ∈ wsX3_unpile := by decide +kernel
theorem lk_11_X3_unpile : Cond.fieldLink RX3 93 "ParityClauses$Taking" "taken" "J" ∈ wsX3_unpile := by decide +kernel
theorem lk_12_X3_unpile : Cond.fieldLink RX3 29 "ParityClauses$Search" "pileOnes" "[J" ∈ wsX3_unpile := by decide +kernel
theorem lk_13_X3_unpile : Cond.fieldLink RX3 57 "ParityClauses$Taking" "ones" "J" ∈ wsX3_unpile := by decide +kernel
abbrev rm_X3_unpile : Room := { frames := 1, cells := 0, slots := 0, locals := 40 }
set_option maxHeartbeats 4000000 in
set_option maxRecDepth 100000 in
theorem cm_X3_unpile (l : Launch) (D : va_G) (cI cL : ClassId) (q0 q0_start q0_start_rows q0_start_rows_byHead q0_pileRows q0_pileTaken q0_pileOnes : Nat) (n0_start_rows_byHead n0_pileRows n0_pileTaken n0_pileOnes : Nat) (f0_n : Int32) (f0_pileSize : Int32) (f0_start_taken : Int64) (f0_start_ones : Int64) (f0_start_rows_impossible : Bool) (h0_start_rows_byHead : Nat → Int64) (h0_pileRows : Nat → Int64) (h0_pileTaken : Nat → Int64) (h0_pileOnes : Nat → Int64) (v0_nodeCount v0_modelCount v0_lastModel v0_cut v0_start_n v0_start_rows_n : Value) (r0 : Bool × Int32 × Int64 × Int64 × Bool × (Nat → Int64)) (h0 : D_X3_unpile f0_n f0_pileSize f0_start_taken f0_start_ones f0_start_rows_impossible n0_start_rows_byHead h0_start_rows_byHead n0_pileRows h0_pileRows n0_pileTaken h0_pileTaken n0_pileOnes h0_pileOnes = some r0) (sz : Nat) : Met l yX3_unpile wsX3_unpile rm_X3_unpile (PcW D cI cL [.ref q0] [(q0, .inr (3, [.int f0_n, .ref q0_start, .ref q0_pileRows, .ref q0_pileTaken, .ref q0_pileOnes, .int f0_pileSize, v0_nodeCount, v0_modelCount, v0_lastModel, v0_cut])), (q0_start, .inr (5, [v0_start_n, .ref q0_start_rows, .long f0_start_taken, .long f0_start_ones])), (q0_start_rows, .inr (2, [v0_start_rows_n, .ref q0_start_rows_byHead, .int (bI f0_start_rows_impossible)])), (q0_start_rows_byHead, .inl (cL, n0_start_rows_byHead, .inr (.inl h0_start_rows_byHead))), (q0_pileRows, .inl (cL, n0_pileRows, .inr (.inl h0_pileRows))), (q0_pileTaken, .inl (cL, n0_pileTaken, .inr (.inl h0_pileTaken))), (q0_pileOnes, .inl (cL, n0_pileOnes, .inr (.inl h0_pileOnes)))] sz) (QiW D [(q0, .inr (3, [.int f0_n, .ref q0_start, .ref q0_pileRows, .ref q0_pileTaken, .ref q0_pileOnes, .int f0_pileSize, v0_nodeCount, v0_modelCount, v0_lastModel, v0_cut])), (q0_start, .inr (5, [v0_start_n, .ref q0_start_rows, .long f0_start_taken, .long f0_start_ones])), (q0_start_rows, .inr (2, [v0_start_rows_n, .ref q0_start_rows_byHead, .int (bI f0_start_rows_impossible)])), (q0_start_rows_byHead, .inl (cL, n0_start_rows_byHead, .inr (.inl h0_start_rows_byHead))), (q0_pileRows, .inl (cL, n0_pileRows, .inr (.inl h0_pileRows))), (q0_pileTaken, .inl (cL, n0_pileTaken, .inr (.inl h0_pileTaken))), (q0_pileOnes, .inl (cL, n0_pileOnes, .inr (.inl h0_pileOnes)))] (bI r0.1) (fun _ : Unit => [(q0, .inr (3, [.int f0_n, .ref q0_start, .ref q0_pileRows, .ref q0_pileTaken, .ref q0_pileOnes, .int r0.2.1, v0_nodeCount, v0_modelCount, v0_lastModel, v0_cut])), (q0_start, .inr (5, [v0_start_n, .ref q0_start_rows, .long r0.2.2.1, .long r0.2.2.2.1])), (q0_start_rows, .inr (2, [v0_start_rows_n, .ref q0_start_rows_byHead, .int (bI r0.2.2.2.2.1)])), (q0_start_rows_byHead, .inl (cL, n0_start_rows_byHead, .inr (.inl r0.2.2.2.2.2))), (q0_pileRows, .inl (cL, n0_pileRows, .inr (.inl h0_pileRows))), (q0_pileTaken, .inl (cL, n0_pileTaken, .inr (.inl h0_pileTaken))), (q0_pileOnes, .inl (cL, n0_pileOnes, .inr (.inl h0_pileOnes)))]) tU sz) 0 0 (va_A [(q0, .inr (3, [.int f0_n, .ref q0_start, .ref q0_pileRows, .ref q0_pileTaken, .ref q0_pileOnes, .int f0_pileSize, v0_nodeCount, v0_modelCount, v0_lastModel, v0_cut])), (q0_start, .inr (5, [v0_start_n, .ref q0_start_rows, .long f0_start_taken, .long f0_start_ones])), (q0_start_rows, .inr (2, [v0_start_rows_n, .ref q0_start_rows_byHead, .int (bI f0_start_rows_impossible)])), (q0_start_rows_byHead, .inl (cL, n0_start_rows_byHead, .inr (.inl h0_start_rows_byHead))), (q0_pileRows, .inl (cL, n0_pileRows, .inr (.inl h0_pileRows))), (q0_pileTaken, .inl (cL, n0_pileTaken, .inr (.inl h0_pileTaken))), (q0_pileOnes, .inl (cL, n0_pileOnes, .inr (.inl h0_pileOnes)))] sz) := by
  refine Met.ofW (cc := cX3_unpile) (maxL := 1) (ret := (some .boolean)) (by decide) rfl ?_
  intro p e s m args below meth c s₁ B hml hv
  obtain ⟨hargs, hsz, hP, hEV, hD0⟩ := hv
  have hx := B.exec
  have hb := B.bytes
  have hr := B.returns
  have hts := atoms_spec (ws := wsX3_unpile) B.pre
  have hown : s.vm.findClass RX3 = some m.cls := findClass_of_methodNamed B.named
  have hlocks := B.notSynchronized
  have hK := hEV.K
  have lk_0 := hts _ lk_0_X3_unpile
  have lk_1 := hts _ lk_1_X3_unpile
  have lk_2 := hts _ lk_2_X3_unpile
  have lk_3 := hts _ lk_3_X3_unpile
  have lk_4 := hts _ lk_4_X3_unpile
  have lk_5 := hts _ lk_5_X3_unpile
  have lk_6 := hts _ lk_6_X3_unpile
  have lk_7 := hts _ lk_7_X3_unpile
  have lk_8 := hts _ lk_8_X3_unpile
  have lk_9 := hts _ lk_9_X3_unpile
  have lk_10 := hts _ lk_10_X3_unpile
  have lk_11 := hts _ lk_11_X3_unpile
  have lk_12 := hts _ lk_12_X3_unpile
  have lk_13 := hts _ lk_13_X3_unpile
  subst hsz
  unfold QiW PoW
  have hD := hD0.self (sz := s.heap.size)
  generalize hAe : va_A [(q0, .inr (3, [.int f0_n, .ref q0_start, .ref q0_pileRows, .ref q0_pileTaken, .ref q0_pileOnes, .int f0_pileSize, v0_nodeCount, v0_modelCount, v0_lastModel, v0_cut])), (q0_start, .inr (5, [v0_start_n, .ref q0_start_rows, .long f0_start_taken, .long f0_start_ones])), (q0_start_rows, .inr (2, [v0_start_rows_n, .ref q0_start_rows_byHead, .int (bI f0_start_rows_impossible)])), (q0_start_rows_byHead, .inl (cL, n0_start_rows_byHead, .inr (.inl h0_start_rows_byHead))), (q0_pileRows, .inl (cL, n0_pileRows, .inr (.inl h0_pileRows))), (q0_pileTaken, .inl (cL, n0_pileTaken, .inr (.inl h0_pileTaken))), (q0_pileOnes, .inl (cL, n0_pileOnes, .inr (.inl h0_pileOnes)))] s.heap.size = A at hD ⊢
  have hA : ∀ q : Nat, s.heap.size ≤ q → A q := fun q h => by rw [← hAe]; exact Or.inr h
  have hS : va_S A s.heap s.heap [] := va_S.rf
  have hent : entryFrame m args 1 = entryFrame m ([.ref q0] : List Value).toArray 1 := by rw [hargs]
  rw [hent]
  refine kx_Q (fun Q hQ => ?_)
  have hl := lv_entry ([.ref q0]) (n := 1) (Nat.le_of_ble_eq_true rfl)
  rw [lg_entry_eq]
  generalize (lg_sl ([.ref q0]) ++ List.replicate (1 - (lg_sl ([.ref q0])).length) Slot.unset).toArray = ls at hl ⊢
  have hl : lv_has ls 1 [(0, .ref q0)] := hl
  have h := h0
  unfold D_X3_unpile at h
  refine lv_aload_n hx hb dX3_unpile_0 rfl (lv_at hl 0 rfl) ?_
  refine va_get (D := D) (ci := 3) (v := .int f0_pileSize) (C := RX3) (T := TX3) (N := 10) hx hb hts in_X3_unpile_X3 hown hK hP 0 rfl rfl 5 (by decide) lk_0 (fun _ h9 => h9) rfl dX3_unpile_1 ?_
  refine lv_if_gt (tgt := 9) hx hb dX3_unpile_4 (by decide) (fun c_1 => ?_) (fun c_1 => ?_)
  · have k_2 : 0 < f0_pileSize := c_1
    have h := co_t k_2 h
    refine lv_aload_n hx hb dX3_unpile_9 rfl (lv_at hl 0 rfl) ?_
    refine lv_dup hx hb dX3_unpile_10 rfl ?_
    refine va_get (D := D) (ci := 3) (v := .int f0_pileSize) (C := RX3) (T := TX3) (N := 10) hx hb hts in_X3_unpile_X3 hown hK hP 0 rfl rfl 5 (by decide) lk_0 (fun _ h9 => h9) rfl dX3_unpile_11 ?_
    refine lv_iconst (v := (1 : Int32)) hx hb dX3_unpile_14 (by decide) ?_
    refine lv_isub hx hb dX3_unpile_15 ?_
    refine va_put (D := D) (ci := 3) (v := .int (f0_pileSize - (1 : Int32))) (ty := .int) (C := RX3) (T := TX3) (N := 10) hx hb hts in_X3_unpile_X3 tyX3 tyX3_ok nmX3 hown hK hP hD hS 0 rfl rfl 5 (by decide) lk_0 (fun _ h9 => h9) rfl (by decide +kernel) rfl rfl (Nat.le_of_ble_eq_true rfl) dX3_unpile_16 (fun H locs hP hD hS => ?_)
    have hP : va_P D vwCl [(q0, .inr (3, [.int f0_n, .ref q0_start, .ref q0_pileRows, .ref q0_pileTaken, .ref q0_pileOnes, .int (f0_pileSize - (1 : Int32)), v0_nodeCount, v0_modelCount, v0_lastModel, v0_cut])), (q0_start, .inr (5, [v0_start_n, .ref q0_start_rows, .long f0_start_taken, .long f0_start_ones])), (q0_start_rows, .inr (2, [v0_start_rows_n, .ref q0_start_rows_byHead, .int (bI f0_start_rows_impossible)])), (q0_start_rows_byHead, .inl (cL, n0_start_rows_byHead, .inr (.inl h0_start_rows_byHead))), (q0_pileRows, .inl (cL, n0_pileRows, .inr (.inl h0_pileRows))), (q0_pileTaken, .inl (cL, n0_pileTaken, .inr (.inl h0_pileTaken))), (q0_pileOnes, .inl (cL, n0_pileOnes, .inr (.inl h0_pileOnes)))] H := hP
    have hD : va_D A [(q0, .inr (3, [.int f0_n, .ref q0_start, .ref q0_pileRows, .ref q0_pileTaken, .ref q0_pileOnes, .int (f0_pileSize - (1 : Int32)), v0_nodeCount, v0_modelCount, v0_lastModel, v0_cut])), (q0_start, .inr (5, [v0_start_n, .ref q0_start_rows, .long f0_start_taken, .long f0_start_ones])), (q0_start_rows, .inr (2, [v0_start_rows_n, .ref q0_start_rows_byHead, .int (bI f0_start_rows_impossible)])), (q0_start_rows_byHead, .inl (cL, n0_start_rows_byHead, .inr (.inl h0_start_rows_byHead))), (q0_pileRows, .inl (cL, n0_pileRows, .inr (.inl h0_pileRows))), (q0_pileTaken, .inl (cL, n0_pileTaken, .inr (.inl h0_pileTaken))), (q0_pileOnes, .inl (cL, n0_pileOnes, .inr (.inl h0_pileOnes)))] := hD
    refine lv_aload_n hx hb dX3_unpile_19 rfl (lv_at hl 0 rfl) ?_
    refine va_get (D := D) (ci := 3) (v := .ref q0_pileRows) (C := RX3) (T := TX3) (N := 10) hx hb hts in_X3_unpile_X3 hown hK hP 0 rfl rfl 2 (by decide) lk_1 (fun _ h9 => h9) rfl dX3_unpile_20 ?_
    refine lv_aload_n hx hb dX3_unpile_23 rfl (lv_at hl 0 rfl) ?_
    refine va_get (D := D) (ci := 3) (v := .int (f0_pileSize - (1 : Int32))) (C := RX3) (T := TX3) (N := 10) hx hb hts in_X3_unpile_X3 hown hK hP 0 rfl rfl 5 (by decide) lk_0 (fun _ h9 => h9) rfl dX3_unpile_24 ?_
    refine lv_aload_n hx hb dX3_unpile_27 rfl (lv_at hl 0 rfl) ?_
    refine va_get (D := D) (ci := 3) (v := .int f0_n) (C := RX3) (T := TX3) (N := 10) hx hb hts in_X3_unpile_X3 hown hK hP 0 rfl rfl 0 (by decide) lk_2 (fun _ h9 => h9) rfl dX3_unpile_28 ?_
    refine lv_imul hx hb dX3_unpile_31 ?_
    refine lv_aload_n hx hb dX3_unpile_32 rfl (lv_at hl 0 rfl) ?_
    refine va_get (D := D) (ci := 3) (v := .ref q0_start) (C := RX3) (T := TX3) (N := 10) hx hb hts in_X3_unpile_X3 hown hK hP 0 rfl rfl 1 (by decide) lk_3 (fun _ h9 => h9) rfl dX3_unpile_33 ?_
    refine va_getN (D := D) (ci := 5) (v := .ref q0_start_rows) (C := RX5) (T := TX5) (N := 4) (host := "ParityClauses") hx hb hts in_X3_unpile_X5 hown hK hP 1 rfl rfl 1 (by decide) (va_Nw.use rfl hEV.2.1) (fun _ h9 => h9) rfl dX3_unpile_36 ?_
    refine va_get (D := D) (ci := 2) (v := .ref q0_start_rows_byHead) (C := RX2) (T := TX2) (N := 3) hx hb hts in_X3_unpile_X2 hown hK hP 2 rfl rfl 1 (by decide) lk_4 (fun _ h9 => h9) rfl dX3_unpile_39 ?_
    refine lv_iconst (v := (0 : Int32)) hx hb dX3_unpile_42 (by decide) ?_
    refine lv_aload_n hx hb dX3_unpile_43 rfl (lv_at hl 0 rfl) ?_
    refine va_get (D := D) (ci := 3) (v := .int f0_n) (C := RX3) (T := TX3) (N := 10) hx hb hts in_X3_unpile_X3 hown hK hP 0 rfl rfl 0 (by decide) lk_2 (fun _ h9 => h9) rfl dX3_unpile_44 ?_
    obtain ⟨⟨b_31, b_32, b_33, b_34, b_35⟩, h⟩ := co_i h
    refine va_copyl (ty := .long) hx hb (by rw [hml]; exact hl.1.symm) hown lk_5 lk_6 lk_7 lk_8 hK hP hD hS 4 3 1 1 rfl rfl rfl rfl rfl b_31 b_32 b_33 b_34 b_35 (fun _ _ => rfl) (Nat.le_of_ble_eq_true rfl) (Nat.le_of_ble_eq_true rfl) dX3_unpile_47 (fun H locs hP hD hS => ?_)
    have hP : va_P D vwCl [(q0, .inr (3, [.int f0_n, .ref q0_start, .ref q0_pileRows, .ref q0_pileTaken, .ref q0_pileOnes, .int (f0_pileSize - (1 : Int32)), v0_nodeCount, v0_modelCount, v0_lastModel, v0_cut])), (q0_start, .inr (5, [v0_start_n, .ref q0_start_rows, .long f0_start_taken, .long f0_start_ones])), (q0_start_rows, .inr (2, [v0_start_rows_n, .ref q0_start_rows_byHead, .int (bI f0_start_rows_impossible)])), (q0_start_rows_byHead, .inl (cL, n0_start_rows_byHead, .inr (.inl (va_cpy h0_pileRows h0_start_rows_byHead ((f0_pileSize - (1 : Int32)) * f0_n).toNatClampNeg (0 : Int32).toNatClampNeg f0_n.toNatClampNeg)))), (q0_pileRows, .inl (cL, n0_pileRows, .inr (.inl h0_pileRows))), (q0_pileTaken, .inl (cL, n0_pileTaken, .inr (.inl h0_pileTaken))), (q0_pileOnes, .inl (cL, n0_pileOnes, .inr (.inl h0_pileOnes)))] H := hP
    have hD : va_D A [(q0, .inr (3, [.int f0_n, .ref q0_start, .ref q0_pileRows, .ref q0_pileTaken, .ref q0_pileOnes, .int (f0_pileSize - (1 : Int32)), v0_nodeCount, v0_modelCount, v0_lastModel, v0_cut])), (q0_start, .inr (5, [v0_start_n, .ref q0_start_rows, .long f0_start_taken, .long f0_start_ones])), (q0_start_rows, .inr (2, [v0_start_rows_n, .ref q0_start_rows_byHead, .int (bI f0_start_rows_impossible)])), (q0_start_rows_byHead, .inl (cL, n0_start_rows_byHead, .inr (.inl (va_cpy h0_pileRows h0_start_rows_byHead ((f0_pileSize - (1 : Int32)) * f0_n).toNatClampNeg (0 : Int32).toNatClampNeg f0_n.toNatClampNeg)))), (q0_pileRows, .inl (cL, n0_pileRows, .inr (.inl h0_pileRows))), (q0_pileTaken, .inl (cL, n0_pileTaken, .inr (.inl h0_pileTaken))), (q0_pileOnes, .inl (cL, n0_pileOnes, .inr (.inl h0_pileOnes)))] := hD
    refine lv_aload_n hx hb dX3_unpile_50 rfl (lv_at hl 0 rfl) ?_
    refine va_get (D := D) (ci := 3) (v := .ref q0_start) (C := RX3) (T := TX3) (N := 10) hx hb hts in_X3_unpile_X3 hown hK hP 0 rfl rfl 1 (by decide) lk_3 (fun _ h9 => h9) rfl dX3_unpile_51 ?_
    refine va_getN (D := D) (ci := 5) (v := .ref q0_start_rows) (C := RX5) (T := TX5) (N := 4) (host := "ParityClauses") hx hb hts in_X3_unpile_X5 hown hK hP 1 rfl rfl 1 (by decide) (va_Nw.use rfl hEV.2.1) (fun _ h9 => h9) rfl dX3_unpile_54 ?_
    refine lv_iconst (v := (0 : Int32)) hx hb dX3_unpile_57 (by decide) ?_
    refine va_put (D := D) (ci := 2) (v := .int (bI false)) (ty := .boolean) (C := RX2) (T := TX2) (N := 3) hx hb hts in_X3_unpile_X2 tyX2 tyX2_ok nmX2 hown hK hP hD hS 2 rfl rfl 2 (by decide) lk_9 (fun _ h9 => h9) rfl (by decide +kernel) (bI_n false) (bI_fit false) (Nat.le_of_ble_eq_true rfl) dX3_unpile_58 (fun H locs hP hD hS => ?_)
    have hP : va_P D vwCl [(q0, .inr (3, [.int f0_n, .ref q0_start, .ref q0_pileRows, .ref q0_pileTaken, .ref q0_pileOnes, .int (f0_pileSize - (1 : Int32)), v0_nodeCount, v0_modelCount, v0_lastModel, v0_cut])), (q0_start, .inr (5, [v0_start_n, .ref q0_start_rows, .long f0_start_taken, .long f0_start_ones])), (q0_start_rows, .inr (2, [v0_start_rows_n, .ref q0_start_rows_byHead, .int (bI false)])), (q0_start_rows_byHead, .inl (cL, n0_start_rows_byHead, .inr (.inl (va_cpy h0_pileRows h0_start_rows_byHead ((f0_pileSize - (1 : Int32)) * f0_n).toNatClampNeg (0 : Int32).toNatClampNeg f0_n.toNatClampNeg)))), (q0_pileRows, .inl (cL, n0_pileRows, .inr (.inl h0_pileRows))), (q0_pileTaken, .inl (cL, n0_pileTaken, .inr (.inl h0_pileTaken))), (q0_pileOnes, .inl (cL, n0_pileOnes, .inr (.inl h0_pileOnes)))] H := hP
    have hD : va_D A [(q0, .inr (3, [.int f0_n, .ref q0_start, .ref q0_pileRows, .ref q0_pileTaken, .ref q0_pileOnes, .int (f0_pileSize - (1 : Int32)), v0_nodeCount, v0_modelCount, v0_lastModel, v0_cut])), (q0_start, .inr (5, [v0_start_n, .ref q0_start_rows, .long f0_start_taken, .long f0_start_ones])), (q0_start_rows, .inr (2, [v0_start_rows_n, .ref q0_start_rows_byHead, .int (bI false)])), (q0_start_rows_byHead, .inl (cL, n0_start_rows_byHead, .inr (.inl (va_cpy h0_pileRows h0_start_rows_byHead ((f0_pileSize - (1 : Int32)) * f0_n).toNatClampNeg (0 : Int32).toNatClampNeg f0_n.toNatClampNeg)))), (q0_pileRows, .inl (cL, n0_pileRows, .inr (.inl h0_pileRows))), (q0_pileTaken, .inl (cL, n0_pileTaken, .inr (.inl h0_pileTaken))), (q0_pileOnes, .inl (cL, n0_pileOnes, .inr (.inl h0_pileOnes)))] := hD
    refine lv_aload_n hx hb dX3_unpile_61 rfl (lv_at hl 0 rfl) ?_
    refine va_get (D := D) (ci := 3) (v := .ref q0_start) (C := RX3) (T := TX3) (N := 10) hx hb hts in_X3_unpile_X3 hown hK hP 0 rfl rfl 1 (by decide) lk_3 (fun _ h9 => h9) rfl dX3_unpile_62 ?_
    refine lv_aload_n hx hb dX3_unpile_65 rfl (lv_at hl 0 rfl) ?_
    refine va_get (D := D) (ci := 3) (v := .ref q0_pileTaken) (C := RX3) (T := TX3) (N := 10) hx hb hts in_X3_unpile_X3 hown hK hP 0 rfl rfl 3 (by decide) lk_10 (fun _ h9 => h9) rfl dX3_unpile_66 ?_
    refine lv_aload_n hx hb dX3_unpile_69 rfl (lv_at hl 0 rfl) ?_
    refine va_get (D := D) (ci := 3) (v := .int (f0_pileSize - (1 : Int32))) (C := RX3) (T := TX3) (N := 10) hx hb hts in_X3_unpile_X3 hown hK hP 0 rfl rfl 5 (by decide) lk_0 (fun _ h9 => h9) rfl dX3_unpile_70 ?_
    obtain ⟨b_4, h⟩ := co_i h
    refine va_lald hx hb hK hP 5 1 rfl rfl b_4 dX3_unpile_73 ?_
    refine va_put (D := D) (ci := 5) (v := .long (h0_pileTaken (f0_pileSize - (1 : Int32)).toNatClampNeg)) (ty := .long) (C := RX5) (T := TX5) (N := 4) hx hb hts in_X3_unpile_X5 tyX5 tyX5_ok nmX5 hown hK hP hD hS 1 rfl rfl 2 (by decide) lk_11 (fun _ h9 => h9) rfl (by decide +kernel) rfl rfl (Nat.le_of_ble_eq_true rfl) dX3_unpile_74 (fun H locs hP hD hS => ?_)
    have hP : va_P D vwCl [(q0, .inr (3, [.int f0_n, .ref q0_start, .ref q0_pileRows, .ref q0_pileTaken, .ref q0_pileOnes, .int (f0_pileSize - (1 : Int32)), v0_nodeCount, v0_modelCount, v0_lastModel, v0_cut])), (q0_start, .inr (5, [v0_start_n, .ref q0_start_rows, .long (h0_pileTaken (f0_pileSize - (1 : Int32)).toNatClampNeg), .long f0_start_ones])), (q0_start_rows, .inr (2, [v0_start_rows_n, .ref q0_start_rows_byHead, .int (bI false)])), (q0_start_rows_byHead, .inl (cL, n0_start_rows_byHead, .inr (.inl (va_cpy h0_pileRows h0_start_rows_byHead ((f0_pileSize - (1 : Int32)) * f0_n).toNatClampNeg (0 : Int32).toNatClampNeg f0_n.toNatClampNeg)))), (q0_pileRows, .inl (cL, n0_pileRows, .inr (.inl h0_pileRows))), (q0_pileTaken, .inl (cL, n0_pileTaken, .inr (.inl h0_pileTaken))), (q0_pileOnes, .inl (cL, n0_pileOnes, .inr (.inl h0_pileOnes)))] H := hP
    have hD : va_D A [(q0, .inr (3, [.int f0_n, .ref q0_start, .ref q0_pileRows, .ref q0_pileTaken, .ref q0_pileOnes, .int (f0_pileSize - (1 : Int32)), v0_nodeCount, v0_modelCount, v0_lastModel, v0_cut])), (q0_start, .inr (5, [v0_start_n, .ref q0_start_rows, .long (h0_pileTaken (f0_pileSize - (1 : Int32)).toNatClampNeg), .long f0_start_ones])), (q0_start_rows, .inr (2, [v0_start_rows_n, .ref q0_start_rows_byHead, .int (bI false)])), (q0_start_rows_byHead, .inl (cL, n0_start_rows_byHead, .inr (.inl (va_cpy h0_pileRows h0_start_rows_byHead ((f0_pileSize - (1 : Int32)) * f0_n).toNatClampNeg (0 : Int32).toNatClampNeg f0_n.toNatClampNeg)))), (q0_pileRows, .inl (cL, n0_pileRows, .inr (.inl h0_pileRows))), (q0_pileTaken, .inl (cL, n0_pileTaken, .inr (.inl h0_pileTaken))), (q0_pileOnes, .inl (cL, n0_pileOnes, .inr (.inl h0_pileOnes)))] := hD
    refine lv_aload_n hx hb dX3_unpile_77 rfl (lv_at hl 0 rfl) ?_
    refine va_get (D := D) (ci := 3) (v := .ref q0_start) (C := RX3) (T := TX3) (N := 10) hx hb hts in_X3_unpile_X3 hown hK hP 0 rfl rfl 1 (by decide) lk_3 (fun _ h9 => h9) rfl dX3_unpile_78 ?_
    refine lv_aload_n hx hb dX3_unpile_81 rfl (lv_at hl 0 rfl) ?_
    refine va_get (D := D) (ci := 3) (v := .ref q0_pileOnes) (C := RX3) (T := TX3) (N := 10) hx hb hts in_X3_unpile_X3 hown hK hP 0 rfl rfl 4 (by decide) lk_12 (fun _ h9 => h9) rfl dX3_unpile_82 ?_
    refine lv_aload_n hx hb dX3_unpile_85 rfl (lv_at hl 0 rfl) ?_
    refine va_get (D := D) (ci := 3) (v := .int (f0_pileSize - (1 : Int32))) (C := RX3) (T := TX3) (N := 10) hx hb hts in_X3_unpile_X3 hown hK hP 0 rfl rfl 5 (by decide) lk_0 (fun _ h9 => h9) rfl dX3_unpile_86 ?_
    obtain ⟨b_5, h⟩ := co_i h
    refine va_lald hx hb hK hP 6 1 rfl rfl b_5 dX3_unpile_89 ?_
    refine va_put (D := D) (ci := 5) (v := .long (h0_pileOnes (f0_pileSize - (1 : Int32)).toNatClampNeg)) (ty := .long) (C := RX5) (T := TX5) (N := 4) hx hb hts in_X3_unpile_X5 tyX5 tyX5_ok nmX5 hown hK hP hD hS 1 rfl rfl 3 (by decide) lk_13 (fun _ h9 => h9) rfl (by decide +kernel) rfl rfl (Nat.le_of_ble_eq_true rfl) dX3_unpile_90 (fun H locs hP hD hS => ?_)
    have hP : va_P D vwCl [(q0, .inr (3, [.int f0_n, .ref q0_start, .ref q0_pileRows, .ref q0_pileTaken, .ref q0_pileOnes, .int (f0_pileSize - (1 : Int32)), v0_nodeCount, v0_modelCount, v0_lastModel, v0_cut])), (q0_start, .inr (5, [v0_start_n, .ref q0_start_rows, .long (h0_pileTaken (f0_pileSize - (1 : Int32)).toNatClampNeg), .long (h0_pileOnes (f0_pileSize - (1 : Int32)).toNatClampNeg)])), (q0_start_rows, .inr (2, [v0_start_rows_n, .ref q0_start_rows_byHead, .int (bI false)])), (q0_start_rows_byHead, .inl (cL, n0_start_rows_byHead, .inr (.inl (va_cpy h0_pileRows h0_start_rows_byHead ((f0_pileSize - (1 : Int32)) * f0_n).toNatClampNeg (0 : Int32).toNatClampNeg f0_n.toNatClampNeg)))), (q0_pileRows, .inl (cL, n0_pileRows, .inr (.inl h0_pileRows))), (q0_pileTaken, .inl (cL, n0_pileTaken, .inr (.inl h0_pileTaken))), (q0_pileOnes, .inl (cL, n0_pileOnes, .inr (.inl h0_pileOnes)))] H := hP
    have hD : va_D A [(q0, .inr (3, [.int f0_n, .ref q0_start, .ref q0_pileRows, .ref q0_pileTaken, .ref q0_pileOnes, .int (f0_pileSize - (1 : Int32)), v0_nodeCount, v0_modelCount, v0_lastModel, v0_cut])), (q0_start, .inr (5, [v0_start_n, .ref q0_start_rows, .long (h0_pileTaken (f0_pileSize - (1 : Int32)).toNatClampNeg), .long (h0_pileOnes (f0_pileSize - (1 : Int32)).toNatClampNeg)])), (q0_start_rows, .inr (2, [v0_start_rows_n, .ref q0_start_rows_byHead, .int (bI false)])), (q0_start_rows_byHead, .inl (cL, n0_start_rows_byHead, .inr (.inl (va_cpy h0_pileRows h0_start_rows_byHead ((f0_pileSize - (1 : Int32)) * f0_n).toNatClampNeg (0 : Int32).toNatClampNeg f0_n.toNatClampNeg)))), (q0_pileRows, .inl (cL, n0_pileRows, .inr (.inl h0_pileRows))), (q0_pileTaken, .inl (cL, n0_pileTaken, .inr (.inl h0_pileTaken))), (q0_pileOnes, .inl (cL, n0_pileOnes, .inr (.inl h0_pileOnes)))] := hD
    refine lv_iconst (v := (1 : Int32)) hx hb dX3_unpile_93 (by decide) ?_
    have h := Option.some.inj h
    subst h
    subst hQ
    exact W.zret (v := bI true) hx hb hr (bI_n true) (fun t ht hW => ⟨⟨bI true, (), rfl, ⟨rfl, trivial⟩, by rw [ht]; exact hP, hD⟩, hS.F ht⟩) hS.2.2 dX3_unpile_94
  · have k_2 : ¬ (0 < f0_pileSize) := c_1
    have h := co_f k_2 h
    refine lv_iconst (v := (0 : Int32)) hx hb dX3_unpile_7 (by decide) ?_
    have h := Option.some.inj h
    subst h
    subst hQ
    exact W.zret (v := bI false) hx hb hr (bI_n false) (fun t ht hW => ⟨⟨bI false, (), rfl, ⟨rfl, trivial⟩, by rw [ht]; exact hP, hD⟩, hS.F ht⟩) hS.2.2 dX3_unpile_8
