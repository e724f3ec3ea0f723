theorem in_X4_takeBackTo_X4 : ∀ w ∈ wsX40, w ∈ wsX4_takeBackTo := by decide +kernel
theorem lk_0_X4_takeBackTo : Cond.fieldLink RX4 35 "ParityClauses$Store" "levelCount" "I" ∈ wsX4_takeBackTo := by decide +kernel
theorem lk_1_X4_takeBackTo : Cond.fieldLink RX4 21 "ParityClauses$Store" "equationsBefore" "[I" ∈ wsX4_takeBackTo := by decide +kernel
theorem lk_2_X4_takeBackTo : Cond.fieldLink RX4 25 "ParityClauses$Store" "clausesBefore" "[I" ∈ wsX4_takeBackTo := by decide +kernel
abbrev rm_X4_takeBackTo : Room := { frames := 1, cells := 0, slots := 0, locals := 22 }
set_option maxHeartbeats 4000000 in
set_option maxRecDepth 100000 in
theorem cm_X4_takeBackTo (l : Launch) (D : va_G) (cI cL : ClassId) (q0 q0_equationsBefore q0_clausesBefore : Nat) (n0_equationsBefore n0_clausesBefore : Nat) (f0_equationCount : Int32) (f0_clauseCount : Int32) (f0_levelCount : Int32) (h0_equationsBefore : Nat → Int32) (h0_clausesBefore : Nat → Int32) (v0_equations v0_yes v0_no : Value) (x1 : Int32) (r0 : Int32 × Int32 × Int32) (hr0 : D_X4_takeBackTo f0_equationCount f0_clauseCount f0_levelCount n0_equationsBefore h0_equationsBefore n0_clausesBefore h0_clausesBefore x1 = some r0) (sz : Nat) : Met l yX4_takeBackTo wsX4_takeBackTo rm_X4_takeBackTo (PcW D cI cL [.ref q0, .int x1] [(q0, .inr (4, [v0_equations, v0_yes, v0_no, .int f0_equationCount, .int f0_clauseCount, .ref q0_equationsBefore, .ref q0_clausesBefore, .int f0_levelCount])), (q0_equationsBefore, .inl (cI, n0_equationsBefore, .inl h0_equationsBefore)), (q0_clausesBefore, .inl (cI, n0_clausesBefore, .inl h0_clausesBefore))] sz) (QvW D [(q0, .inr (4, [v0_equations, v0_yes, v0_no, .int f0_equationCount, .int f0_clauseCount, .ref q0_equationsBefore, .ref q0_clausesBefore, .int f0_levelCount])), (q0_equationsBefore, .inl (cI, n0_equationsBefore, .inl h0_equationsBefore)), (q0_clausesBefore, .inl (cI, n0_clausesBefore, .inl h0_clausesBefore))] (fun _ : Unit => [(q0, .inr (4, [v0_equations, v0_yes, v0_no, .int r0.1, .int r0.2.1, .ref q0_equationsBefore, .ref q0_clausesBefore, .int r0.2.2])), (q0_equationsBefore, .inl (cI, n0_equationsBefore, .inl h0_equationsBefore)), (q0_clausesBefore, .inl (cI, n0_clausesBefore, .inl h0_clausesBefore))]) tU sz) 0 0 (va_A [(q0, .inr (4, [v0_equations, v0_yes, v0_no, .int f0_equationCount, .int f0_clauseCount, .ref q0_equationsBefore, .ref q0_clausesBefore, .int f0_levelCount])), (q0_equationsBefore, .inl (cI, n0_equationsBefore, .inl h0_equationsBefore)), (q0_clausesBefore, .inl (cI, n0_clausesBefore, .inl h0_clausesBefore))] sz) := by
  refine Met.ofW (cc := cX4_takeBackTo) (maxL := 2) (ret := none) (by decide) rfl ?_
  intro p e s m args below meth c s₁ B hml hv
  obtain ⟨hargs, hsz, hP, hEV, hD0⟩ := hv
  have hx := B.exec
  have hb := B.bytes
  have hr := B.returns
  have hts := atoms_spec (ws := wsX4_takeBackTo) B.pre
  have hown : s.vm.findClass RX4 = some m.cls := findClass_of_methodNamed B.named
  have hlocks := B.notSynchronized
  have hK := hEV.K
  have lk_0 := hts _ lk_0_X4_takeBackTo
  have lk_1 := hts _ lk_1_X4_takeBackTo
  have lk_2 := hts _ lk_2_X4_takeBackTo
  subst hsz
  unfold QvW PoW
  have hD := hD0.self (sz := s.heap.size)
  generalize hAe : va_A [(q0, .inr (4, [v0_equations, v0_yes, v0_no, .int f0_equationCount, .int f0_clauseCount, .ref q0_equationsBefore, .ref q0_clausesBefore, .int f0_levelCount])), (q0_equationsBefore, .inl (cI, n0_equationsBefore, .inl h0_equationsBefore)), (q0_clausesBefore, .inl (cI, n0_clausesBefore, .inl h0_clausesBefore))] s.heap.size = A at hD ⊢
  have hA : ∀ q : Nat, s.heap.size ≤ q → A q := fun q h => by rw [← hAe]; exact Or.inr h
  have hent : entryFrame m args 2 = entryFrame m ([.ref q0, .int x1] : List Value).toArray 2 := by rw [hargs]
  rw [hent]
  refine kx_Q (fun Q hQ => ?_)
  refine kx_H (fun H hH => ?_)
  have hP : va_P D vwCl [(q0, .inr (4, [v0_equations, v0_yes, v0_no, .int f0_equationCount, .int f0_clauseCount, .ref q0_equationsBefore, .ref q0_clausesBefore, .int f0_levelCount])), (q0_equationsBefore, .inl (cI, n0_equationsBefore, .inl h0_equationsBefore)), (q0_clausesBefore, .inl (cI, n0_clausesBefore, .inl h0_clausesBefore))] H := by rw [hH]; exact hP
  have hS : va_S A s.heap H [] := by rw [hH]; exact va_S.rf
  have hl := lv_entry ([.ref q0, .int x1]) (n := 2) (Nat.le_of_ble_eq_true rfl)
  rw [lg_entry_eq]
  generalize (lg_sl ([.ref q0, .int x1]) ++ List.replicate (2 - (lg_sl ([.ref q0, .int x1])).length) Slot.unset).toArray = ls at hl ⊢
  have hl : lv_has ls 2 [(0, .ref q0), (1, .int x1)] := hl
  have h := hr0
  unfold D_X4_takeBackTo at h
  refine lv_iload_n hx hb dX4_takeBackTo_0 rfl (lv_at hl 1 rfl) ?_
  refine lv_if_lt (tgt := 33) hx hb dX4_takeBackTo_1 (by decide) (fun c_1 => ?_) (fun c_1 => ?_)
  · have k_2 : x1 < 0 := c_1
    have h := co_t k_2 h
    have h := Option.some.inj h
    subst h
    subst hQ
    exact W.vret hx hb hr (fun t ht hW => ⟨⟨(), rfl, trivial, by rw [ht]; exact hP, hD⟩, hS.F ht⟩) hS.2.2 dX4_takeBackTo_33
  · have k_2 : ¬ (x1 < 0) := c_1
    have h := co_f k_2 h
    refine lv_iload_n hx hb dX4_takeBackTo_4 rfl (lv_at hl 1 rfl) ?_
    refine lv_aload_n hx hb dX4_takeBackTo_5 rfl (lv_at hl 0 rfl) ?_
    refine va_get (D := D) (ci := 4) (v := .int f0_levelCount) (C := RX4) (T := TX4) (N := 8) hx hb hts in_X4_takeBackTo_X4 hown hK hP 0 rfl rfl 7 (by decide) lk_0 (fun _ h9 => h9) rfl dX4_takeBackTo_6 ?_
    refine lv_icmp_ge (tgt := 33) hx hb dX4_takeBackTo_9 (by decide) (fun c_3 => ?_) (fun c_3 => ?_)
    · have k_4 : f0_levelCount ≤ x1 := c_3
      have h := co_t k_4 h
      have h := Option.some.inj h
      subst h
      subst hQ
      exact W.vret hx hb hr (fun t ht hW => ⟨⟨(), rfl, trivial, by rw [ht]; exact hP, hD⟩, hS.F ht⟩) hS.2.2 dX4_takeBackTo_33
    · have k_4 : ¬ (f0_levelCount ≤ x1) := c_3
      have h := co_f k_4 h
      refine lv_aload_n hx hb dX4_takeBackTo_12 rfl (lv_at hl 0 rfl) ?_
      refine lv_aload_n hx hb dX4_takeBackTo_13 rfl (lv_at hl 0 rfl) ?_
      refine va_get (D := D) (ci := 4) (v := .ref q0_equationsBefore) (C := RX4) (T := TX4) (N := 8) hx hb hts in_X4_takeBackTo_X4 hown hK hP 0 rfl rfl 5 (by decide) lk_1 (fun _ h9 => h9) rfl dX4_takeBackTo_14 ?_
      refine lv_iload_n hx hb dX4_takeBackTo_17 rfl (lv_at hl 1 rfl) ?_
      obtain ⟨b_5, h⟩ := co_i h
      refine va_iald hx hb hK hP 1 0 rfl rfl b_5 dX4_takeBackTo_18 ?_
      refine lv_aload_n hx hb dX4_takeBackTo_19 rfl (lv_at hl 0 rfl) ?_
      refine va_get (D := D) (ci := 4) (v := .ref q0_clausesBefore) (C := RX4) (T := TX4) (N := 8) hx hb hts in_X4_takeBackTo_X4 hown hK hP 0 rfl rfl 6 (by decide) lk_2 (fun _ h9 => h9) rfl dX4_takeBackTo_20 ?_
      refine lv_iload_n hx hb dX4_takeBackTo_23 rfl (lv_at hl 1 rfl) ?_
      obtain ⟨b_6, h⟩ := co_i h
      refine va_iald hx hb hK hP 2 0 rfl rfl b_6 dX4_takeBackTo_24 ?_
      obtain ⟨u_7, hu_8, h⟩ := co_b h
      refine kx_v (ws' := fun _ => [(q0, .inr (4, [v0_equations, v0_yes, v0_no, .int u_7.1, .int u_7.2, .ref q0_equationsBefore, .ref q0_clausesBefore, .int f0_levelCount])), (q0_equationsBefore, .inl (cI, n0_equationsBefore, .inl h0_equationsBefore)), (q0_clausesBefore, .inl (cI, n0_clausesBefore, .inl h0_clausesBefore))]) hP hD hS hA [0] [1, 2] [2, 0, 1] rfl rfl (by decide) (by decide) (fun _ => rfl) (by decide) (va_runV (As := [.int (h0_equationsBefore x1.toNatClampNeg), .int (h0_clausesBefore x1.toNatClampNeg)]) (rest := []) ⟨hx, hb, hml, hown, hts⟩ (cm_X4_cutTo l D cI cL (q0 := q0) (f0_equationCount := f0_equationCount) (f0_clauseCount := f0_clauseCount) (v0_equations := v0_equations) (v0_yes := v0_yes) (v0_no := v0_no) (v0_equationsBefore := .ref q0_equationsBefore) (v0_clausesBefore := .ref q0_clausesBefore) (v0_levelCount := .int f0_levelCount) (x1 := h0_equationsBefore x1.toNatClampNeg) (x2 := h0_clausesBefore x1.toNatClampNeg) (r0 := u_7) (hr0 := hu_8) (sz := H.size)) (cwV 2 hts gX4_takeBackTo_X4_cutTo rfl rfl rfl (by decide +kernel) ⟨Nat.le_of_ble_eq_true rfl, Nat.le_of_ble_eq_true rfl⟩) (kx_preV hEV hP hD [0] rfl (by decide) (k0 := 0) (ci := 4) rfl rfl rfl) rfl rfl hl.1 rfl (lv_room (Nat.le_of_ble_eq_true rfl)) dX4_takeBackTo_25 ⟨Nat.le_of_ble_eq_true rfl, Nat.le_of_ble_eq_true rfl⟩) (fun _ H locs _ hP hD hS => ?_)
      refine lv_aload_n hx hb dX4_takeBackTo_28 rfl (lv_at hl 0 rfl) ?_
      refine lv_iload_n hx hb dX4_takeBackTo_29 rfl (lv_at hl 1 rfl) ?_
      refine va_put (D := D) (ci := 4) (v := .int x1) (ty := .int) (C := RX4) (T := TX4) (N := 8) hx hb hts in_X4_takeBackTo_X4 tyX4 tyX4_ok nmX4 hown hK hP hD hS 0 rfl rfl 7 (by decide) lk_0 (fun _ h9 => h9) rfl (by decide +kernel) rfl rfl (Nat.le_of_ble_eq_true rfl) dX4_takeBackTo_30 (fun H locs hP hD hS => ?_)
      have hP : va_P D vwCl [(q0, .inr (4, [v0_equations, v0_yes, v0_no, .int u_7.1, .int u_7.2, .ref q0_equationsBefore, .ref q0_clausesBefore, .int x1])), (q0_equationsBefore, .inl (cI, n0_equationsBefore, .inl h0_equationsBefore)), (q0_clausesBefore, .inl (cI, n0_clausesBefore, .inl h0_clausesBefore))] H := hP
      have hD : va_D A [(q0, .inr (4, [v0_equations, v0_yes, v0_no, .int u_7.1, .int u_7.2, .ref q0_equationsBefore, .ref q0_clausesBefore, .int x1])), (q0_equationsBefore, .inl (cI, n0_equationsBefore, .inl h0_equationsBefore)), (q0_clausesBefore, .inl (cI, n0_clausesBefore, .inl h0_clausesBefore))] := hD
      have h := Option.some.inj h
      subst h
      subst hQ
      exact W.vret hx hb hr (fun t ht hW => ⟨⟨(), rfl, trivial, by rw [ht]; exact hP, hD⟩, hS.F ht⟩) hS.2.2 dX4_takeBackTo_33
theorem in_X5_takeAll_X5 : ∀ w ∈ wsX50, w ∈ wsX5_takeAll := by decide +kernel
theorem lk_0_X5_takeAll : Cond.fieldLink RX5 9 "ParityClauses$Taking" "n" "I" ∈ wsX5_takeAll := by decide +kernel
abbrev rm_X5_takeAll : Room := { frames := 4, cells := 0, slots := 0, locals := 98 }
set_option maxHeartbeats 4000000 in
set_option maxRecDepth 100000 in
theorem cm_X5_takeAll (l : Launch) (D : va_G) (cI cL : ClassId) (q0 q0_rows q0_rows_byHead : Nat) (n0_rows_byHead : Nat) (f0_n : Int32) (f0_taken : Int64) (f0_ones : Int64) (f0_rows_n : Int32) (f0_rows_impossible : Bool) (h0_rows_byHead : Nat → Int64) (x1 : Int64) (x3 : Int64) (r0 : Int64 × Int64 × Bool × (Nat → Int64)) (hr0 : D_X5_takeAll f0_n f0_taken f0_ones f0_rows_n f0_rows_impossible n0_rows_byHead h0_rows_byHead x1 x3 = some r0) (sz : Nat) : Met l yX5_takeAll wsX5_takeAll rm_X5_takeAll (PcW D cI cL [.ref q0, .long x1, .long x3] [(q0, .inr (5, [.int f0_n, .ref q0_rows, .long f0_taken, .long f0_ones])), (q0_rows, .inr (2, [.int f0_rows_n, .ref q0_rows_byHead, .int (bI f0_rows_impossible)])), (q0_rows_byHead, .inl (cL, n0_rows_byHead, .inr (.inl h0_rows_byHead)))] sz) (QvW D [(q0, .inr (5, [.int f0_n, .ref q0_rows, .long f0_taken, .long f0_ones])), (q0_rows, .inr (2, [.int f0_rows_n, .ref q0_rows_byHead, .int (bI f0_rows_impossible)])), (q0_rows_byHead, .inl (cL, n0_rows_byHead, .inr (.inl h0_rows_byHead)))] (fun _ : Unit => [(q0, .inr (5, [.int f0_n, .ref q0_rows, .long r0.1, .long r0.2.1])), (q0_rows, .inr (2, [.int f0_rows_n, .ref q0_rows_byHead, .int (bI r0.2.2.1)])), (q0_rows_byHead, .inl (cL, n0_rows_byHead, .inr (.inl r0.2.2.2)))]) tU sz) 0 0 (va_A [(q0, .inr (5, [.int f0_n, .ref q0_rows, .long f0_taken, .long f0_ones])), (q0_rows, .inr (2, [.int f0_rows_n, .ref q0_rows_byHead, .int (bI f0_rows_impossible)])), (q0_rows_byHead, .inl (cL, n0_rows_byHead, .inr (.inl h0_rows_byHead)))] sz) := by
  refine Met.ofW (cc := cX5_takeAll) (maxL := 6) (ret := none) (by decide) rfl ?_
  intro p e s m args below meth c s₁ B hml hv
  obtain ⟨hargs, hsz, hP, hEV, hD0⟩ := hv
  have hx := B.exec
  have hb := B.bytes
  have hr := B.returns
  have hts := atoms_spec (ws := wsX5_takeAll) B.pre
  have hown : s.vm.findClass RX5 = some m.cls := findClass_of_methodNamed B.named
  have hlocks := B.notSynchronized
  have hK := hEV.K
  have lk_0 := hts _ lk_0_X5_takeAll
  subst hsz
  unfold QvW PoW
  have hD := hD0.self (sz := s.heap.size)
  generalize hAe : va_A [(q0, .inr (5, [.int f0_n, .ref q0_rows, .long f0_taken, .long f0_ones])), (q0_rows, .inr (2, [.int f0_rows_n, .ref q0_rows_byHead, .int (bI f0_rows_impossible)])), (q0_rows_byHead, .inl (cL, n0_rows_byHead, .inr (.inl h0_rows_byHead)))] s.heap.size = A at hD ⊢
  have hA : ∀ q : Nat, s.heap.size ≤ q → A q := fun q h => by rw [← hAe]; exact Or.inr h
  have hent : entryFrame m args 6 = entryFrame m ([.ref q0, .long x1, .long x3] : List Value).toArray 6 := by rw [hargs]
  rw [hent]
  refine kx_Q (fun Q hQ => ?_)
  refine kx_H (fun H hH => ?_)
  have hP : va_P D vwCl [(q0, .inr (5, [.int f0_n, .ref q0_rows, .long f0_taken, .long f0_ones])), (q0_rows, .inr (2, [.int f0_rows_n, .ref q0_rows_byHead, .int (bI f0_rows_impossible)])), (q0_rows_byHead, .inl (cL, n0_rows_byHead, .inr (.inl h0_rows_byHead)))] H := by rw [hH]; exact hP
  have hS : va_S A s.heap H [] := by rw [hH]; exact va_S.rf
  have hl := lv_entry ([.ref q0, .long x1, .long x3]) (n := 6) (Nat.le_of_ble_eq_true rfl)
  rw [lg_entry_eq]
  generalize (lg_sl ([.ref q0, .long x1, .long x3]) ++ List.replicate (6 - (lg_sl ([.ref q0, .long x1, .long x3])).length) Slot.unset).toArray = ls at hl ⊢
  have hl : lv_has ls 6 [(0, .ref q0), (1, .long x1), (3, .long x3)] := hl
  have hloop : ∀ n9 : Nat, (∀ (x5 : Int32) (f0_taken : Int64) (f0_ones : Int64) (f0_rows_impossible : Bool) (h0_rows_byHead : Nat → Int64), iter (st_X5_takeAll f0_n f0_rows_n n0_rows_byHead x1 x3) n9 (x5, f0_taken, f0_ones, f0_rows_impossible, h0_rows_byHead) = some r0 → ∀ (H : Heap) (locs : List Loc) (ls : Array Slot), va_P D vwCl [(q0, .inr (5, [.int f0_n, .ref q0_rows, .long f0_taken, .long f0_ones])), (q0_rows, .inr (2, [.int f0_rows_n, .ref q0_rows_byHead, .int (bI f0_rows_impossible)])), (q0_rows_byHead, .inl (cL, n0_rows_byHead, .inr (.inl h0_rows_byHead)))] H → va_D A [(q0, .inr (5, [.int f0_n, .ref q0_rows, .long f0_taken, .long f0_ones])), (q0_rows, .inr (2, [.int f0_rows_n, .ref q0_rows_byHead, .int (bI f0_rows_impossible)])), (q0_rows_byHead, .inl (cL, n0_rows_byHead, .inr (.inl h0_rows_byHead)))] → va_S A s.heap H locs → lv_has ls 6 [(0, .ref q0), (1, .long x1), (3, .long x3), (5, .int x5)] → W p l e (headSpec wsX5_takeAll rm_X5_takeAll).room s m args below meth c H locs 0 0 Q (F0 m 3 ls [])) := by
    intro n9
    induction n9 with
    | zero => exact (fun _ _ _ _ _ h => nomatch h)
    | succ n9 ih =>
      intro x5 f0_taken f0_ones f0_rows_impossible h0_rows_byHead h H locs ls hP hD hS hl
      have h : run1 (iter (st_X5_takeAll f0_n f0_rows_n n0_rows_byHead x1 x3) n9) (b_X5_takeAll_3 f0_n f0_rows_n n0_rows_byHead x1 x3 x5 f0_taken f0_ones f0_rows_impossible h0_rows_byHead) = some r0 := h
      unfold b_X5_takeAll_3 at h
      refine lv_iload hx hb dX5_takeAll_3 (lv_at hl 3 rfl) ?_
      refine lv_aload_n hx hb dX5_takeAll_5 rfl (lv_at hl 0 rfl) ?_
      refine va_get (D := D) (ci := 5) (v := .int f0_n) (C := RX5) (T := TX5) (N := 4) hx hb hts in_X5_takeAll_X5 hown hK hP 0 rfl rfl 0 (by decide) lk_0 (fun _ h9 => h9) rfl dX5_takeAll_6 ?_
      refine lv_icmp_ge (tgt := 53) hx hb dX5_takeAll_9 (by decide) (fun c_1 => ?_) (fun c_1 => ?_)
      · have k_2 : f0_n ≤ x5 := c_1
        have h := cw_t k_2 h
        have h := Option.some.inj h
        subst h
        subst hQ
        exact W.vret hx hb hr (fun t ht hW => ⟨⟨(), rfl, trivial, by rw [ht]; exact hP, hD⟩, hS.F ht⟩) hS.2.2 dX5_takeAll_53
      · have k_2 : ¬ (f0_n ≤ x5) := c_1
        have h := cw_f k_2 h
        refine lv_lload_n hx hb dX5_takeAll_12 rfl (lv_at hl 1 rfl) ?_
        refine lv_lload_n hx hb dX5_takeAll_13 rfl (lv_at hl 2 rfl) ?_
        refine lv_lor hx hb dX5_takeAll_14 ?_
        refine lv_iload hx hb dX5_takeAll_15 (lv_at hl 3 rfl) ?_
        refine lv_lushr (v := jushr (x1 ||| x3) x5) hx hb dX5_takeAll_17 rfl ?_
        refine lv_lconst (v := (1 : Int64)) hx hb dX5_takeAll_18 (by decide) ?_
        refine lv_land hx hb dX5_takeAll_19 ?_
        refine lv_lconst (v := (0 : Int64)) hx hb dX5_takeAll_20 (by decide) ?_
        refine W.lcmp hx hb dX5_takeAll_21 ?_
        refine lv_if_eq (tgt := 47) hx hb dX5_takeAll_22 (by decide) (fun c_3 => ?_) (fun c_3 => ?_)
        · have k_4 : ((jushr (x1 ||| x3) x5) &&& (1 : Int64)) = (0 : Int64) := ((lg_cmp_eq _ _).mp c_3)
          have h := cw_t k_4 h
          refine lv_iinc (v := x5 + (1 : Int32)) (lv' := [(5, .int (x5 + (1 : Int32))), (0, .ref q0), (1, .long x1), (3, .long x3)]) hx hb dX5_takeAll_47 hl (k := 3) rfl rfl (by decide) rfl (fun ls hl => ?_)
          refine lv_goto (tgt := 3) hx hb dX5_takeAll_50 (by decide) ?_
          exact ih _ _ _ _ _ h _ _ _ hP hD hS (lv_sub hl [1, 2, 3, 0] rfl)
        · have k_4 : ¬ (((jushr (x1 ||| x3) x5) &&& (1 : Int64)) = (0 : Int64)) := (fun z9 => c_3 ((lg_cmp_eq _ _).mpr z9))
          have h := cw_f k_4 h
          refine lv_aload_n hx hb dX5_takeAll_25 rfl (lv_at hl 0 rfl) ?_
          refine lv_iload hx hb dX5_takeAll_26 (lv_at hl 3 rfl) ?_
          refine lv_lload_n hx hb dX5_takeAll_28 rfl (lv_at hl 1 rfl) ?_
          refine lv_iload hx hb dX5_takeAll_29 (lv_at hl 3 rfl) ?_
          refine lv_lushr (v := jushr x1 x5) hx hb dX5_takeAll_31 rfl ?_
          refine lv_lconst (v := (1 : Int64)) hx hb dX5_takeAll_32 (by decide) ?_
          refine lv_land hx hb dX5_takeAll_33 ?_
          refine lv_lconst (v := (0 : Int64)) hx hb dX5_takeAll_34 (by decide) ?_
          refine W.lcmp hx hb dX5_takeAll_35 ?_
          refine lv_if_eq (tgt := 43) hx hb dX5_takeAll_36 (by decide) (fun c_5 => ?_) (fun c_5 => ?_)
          · have k_6 : ((jushr x1 x5) &&& (1 : Int64)) = (0 : Int64) := ((lg_cmp_eq _ _).mp c_5)
            have h := cw_t k_6 h
            refine lv_iconst (v := (0 : Int32)) hx hb dX5_takeAll_43 (by decide) ?_
            obtain ⟨u_7, hu_8, h⟩ := cw_b h
            refine kx_v (ws' := fun _ => [(q0, .inr (5, [.int f0_n, .ref q0_rows, .long u_7.1, .long u_7.2.1])), (q0_rows, .inr (2, [.int f0_rows_n, .ref q0_rows_byHead, .int (bI u_7.2.2.1)])), (q0_rows_byHead, .inl (cL, n0_rows_byHead, .inr (.inl u_7.2.2.2)))]) hP hD hS hA [0, 1, 2] [] [0, 1, 2] rfl rfl (by decide) (by decide) (fun _ => rfl) (by decide) (va_runV (As := [.int x5, .int (bI false)]) (rest := []) ⟨hx, hb, hml, hown, hts⟩ (cm_X5_take l D cI cL (q0 := q0) (q0_rows := q0_rows) (q0_rows_byHead := q0_rows_byHead) (n0_rows_byHead := n0_rows_byHead) (f0_taken := f0_taken) (f0_ones := f0_ones) (f0_rows_n := f0_rows_n) (f0_rows_impossible := f0_rows_impossible) (h0_rows_byHead := h0_rows_byHead) (v0_n := .int f0_n) (x1 := x5) (x2 := false) (r0 := u_7) (hr0 := hu_8) (sz := H.size)) (cwV 2 hts gX5_takeAll_X5_take rfl rfl rfl (by decide +kernel) ⟨Nat.le_of_ble_eq_true rfl, Nat.le_of_ble_eq_true rfl⟩) (kx_preV hEV hP hD [0, 1, 2] rfl (by decide) (k0 := 0) (ci := 5) rfl rfl rfl) rfl rfl hl.1 rfl (lv_room (Nat.le_of_ble_eq_true rfl)) dX5_takeAll_44 ⟨Nat.le_of_ble_eq_true rfl, Nat.le_of_ble_eq_true rfl⟩) (fun _ H locs _ hP hD hS => ?_)
            refine lv_iinc (v := x5 + (1 : Int32)) (lv' := [(5, .int (x5 + (1 : Int32))), (0, .ref q0), (1, .long x1), (3, .long x3)]) hx hb dX5_takeAll_47 hl (k := 3) rfl rfl (by decide) rfl (fun ls hl => ?_)
            refine lv_goto (tgt := 3) hx hb dX5_takeAll_50 (by decide) ?_
            exact ih _ _ _ _ _ h _ _ _ hP hD hS (lv_sub hl [1, 2, 3, 0] rfl)
          · have k_6 : ¬ (((jushr x1 x5) &&& (1 : Int64)) = (0 : Int64)) := (fun z9 => c_5 ((lg_cmp_eq _ _).mpr z9))
            have h := cw_f k_6 h
            refine lv_iconst (v := (1 : Int32)) hx hb dX5_takeAll_39 (by decide) ?_
            refine lv_goto (tgt := 44) hx hb dX5_takeAll_40 (by decide) ?_
            obtain ⟨u_9, hu_10, h⟩ := cw_b h
            refine kx_v (ws' := fun _ => [(q0, .inr (5, [.int f0_n, .ref q0_rows, .long u_9.1, .long u_9.2.1])), (q0_rows, .inr (2, [.int f0_rows_n, .ref q0_rows_byHead, .int (bI u_9.2.2.1)])), (q0_rows_byHead, .inl (cL, n0_rows_byHead, .inr (.inl u_9.2.2.2)))]) hP hD hS hA [0, 1, 2] [] [0, 1, 2] rfl rfl (by decide) (by decide) (fun _ => rfl) (by decide) (va_runV (As := [.int x5, .int (bI true)]) (rest := []) ⟨hx, hb, hml, hown, hts⟩ (cm_X5_take l D cI cL (q0 := q0) (q0_rows := q0_rows) (q0_rows_byHead := q0_rows_byHead) (n0_rows_byHead := n0_rows_byHead) (f0_taken := f0_taken) (f0_ones := f0_ones) (f0_rows_n := f0_rows_n) (f0_rows_impossible := f0_rows_impossible) (h0_rows_byHead := h0_rows_byHead) (v0_n := .int f0_n) (x1 := x5) (x2 := true) (r0 := u_9) (hr0 := hu_10) (sz := H.size)) (cwV 2 hts gX5_takeAll_X5_take rfl rfl rfl (by decide +kernel) ⟨Nat.le_of_ble_eq_true rfl, Nat.le_of_ble_eq_true rfl⟩) (kx_preV hEV hP hD [0, 1, 2] rfl (by decide) (k0 := 0) (ci := 5) rfl rfl rfl) rfl rfl hl.1 rfl (lv_room (Nat.le_of_ble_eq_true rfl)) dX5_takeAll_44 ⟨Nat.le_of_ble_eq_true rfl, Nat.le_of_ble_eq_true rfl⟩) (fun _ H locs _ hP hD hS => ?_)
            refine lv_iinc (v := x5 + (1 : Int32)) (lv' := [(5, .int (x5 + (1 : Int32))), (0, .ref q0), (1, .long x1), (3, .long x3)]) hx hb dX5_takeAll_47 hl (k := 3) rfl rfl (by decide) rfl (fun ls hl => ?_)
            refine lv_goto (tgt := 3) hx hb dX5_takeAll_50 (by decide) ?_
            exact ih _ _ _ _ _ h _ _ _ hP hD hS (lv_sub hl [1, 2, 3, 0] rfl)
  have h := hr0
  unfold D_X5_takeAll at h
  refine lv_iconst (v := (0 : Int32)) hx hb dX5_takeAll_0 (by decide) ?_
  refine lv_istore (lv' := [(5, .int (0 : Int32)), (0, .ref q0), (1, .long x1), (3, .long x3)]) hx hb dX5_takeAll_1 hl (by decide) rfl (fun ls hl => ?_)
  obtain ⟨n9, hn9⟩ := runw_some h
  exact (hloop n9) _ _ _ _ _ hn9 _ _ _ hP hD hS (lv_sub hl [1, 2, 3, 0] rfl)
theorem in_X5_takeByNumber_X2 : ∀ w ∈ wsX20, w ∈ wsX5_takeByNumber := by decide +kernel
theorem in_X5_takeByNumber_X5 : ∀ w ∈ wsX50, w ∈ wsX5_takeByNumber := by decide +kernel
theorem lk_0_X5_takeByNumber : Cond.fieldLink RX5 9 "ParityClauses$Taking" "n" "I" ∈ wsX5_takeByNumber := by decide +kernel
theorem lk_1_X5_takeByNumber : Cond.fieldLink RX5 32 "ParityClauses$Taking" "ones" "J" ∈ wsX5_takeByNumber := by decide +kernel
theorem lk_2_X5_takeByNumber : Cond.fieldLink RX5 20 "ParityClauses$Taking" "rows" "LParityClauses$Rows;" ∈ wsX5_takeByNumber := by decide +kernel
theorem lk_3_X5_takeByNumber : Cond.fieldLink RX5 46 "ParityClauses$Rows" "byHead" "[J" ∈ wsX5_takeByNumber := by decide +kernel
abbrev rm_X5_takeByNumber : Room := { frames := 4, cells := 0, slots := 0, locals := 98 }
set_option maxHeartbeats 4000000 in
set_option maxRecDepth 100000 in
theorem cm_X5_takeByNumber (l : Launch) (D : va_G) (cI cL : ClassId) (q0 q0_rows q0_rows_byHead : Nat) (n0_rows_byHead : Nat) (f0_n : Int32) (f0_taken : Int64) (f0_ones : Int64) (f0_rows_n : Int32) (f0_rows_impossible : Bool) (h0_rows_byHead : Nat → Int64) (x1 : Int64) (x3 : Int32) (r0 : Int64 × Int64 × Int64 × Bool × (Nat → Int64)) (hr0 : D_X5_takeByNumber f0_n f0_taken f0_ones f0_rows_n f0_rows_impossible n0_rows_byHead h0_rows_byHead x1 x3 = some r0) (sz : Nat) : Met l yX5_takeByNumber wsX5_takeByNumber rm_X5_takeByNumber (PcW D cI cL [.ref q0, .long x1, .int x3] [(q0, .inr (5, [.int f0_n, .ref q0_rows, .long f0_taken, .long f0_ones])), (q0_rows, .inr (2, [.int f0_rows_n, .ref q0_rows_byHead, .int (bI f0_rows_impossible)])), (q0_rows_byHead, .inl (cL, n0_rows_byHead, .inr (.inl h0_rows_byHead)))] sz) (QlW D [(q0, .inr (5, [.int f0_n, .ref q0_rows, .long f0_taken, .long f0_ones])), (q0_rows, .inr (2, [.int f0_rows_n, .ref q0_rows_byHead, .int (bI f0_rows_impossible)])), (q0_rows_byHead, .inl (cL, n0_rows_byHead, .inr (.inl h0_rows_byHead)))] r0.1 (fun _ : Unit => [(q0, .inr (5, [.int f0_n, .ref q0_rows, .long r0.2.1, .long r0.2.2.1])), (q0_rows, .inr (2, [.int f0_rows_n, .ref q0_rows_byHead, .int (bI r0.2.2.2.1)])), (q0_rows_byHead, .inl (cL, n0_rows_byHead, .inr (.inl r0.2.2.2.2)))]) tU sz) 0 0 (va_A [(q0, .inr (5, [.int f0_n, .ref q0_rows, .long f0_taken, .long f0_ones])), (q0_rows, .inr (2, [.int f0_rows_n, .ref q0_rows_byHead, .int (bI f0_rows_impossible)])), (q0_rows_byHead, .inl (cL, n0_rows_byHead, .inr (.inl h0_rows_byHead)))] sz) := by
  refine Met.ofW (cc := cX5_takeByNumber) (maxL := 6) (ret := (some .long)) (by decide) rfl ?_
  intro p e s m args below meth c s₁ B hml hv
  obtain ⟨hargs, hsz, hP, hEV, hD0⟩ := hv
  have hx := B.exec
  have hb := B.bytes
  have hr := B.returns
  have hts := atoms_spec (ws := wsX5_takeByNumber) B.pre
  have hown : s.vm.findClass RX5 = some m.cls := findClass_of_methodNamed B.named
  have hlocks := B.notSynchronized
  have hK := hEV.K
  have lk_0 := hts _ lk_0_X5_takeByNumber
  have lk_1 := hts _ lk_1_X5_takeByNumber
  have lk_2 := hts _ lk_2_X5_takeByNumber
  have lk_3 := hts _ lk_3_X5_takeByNumber
  subst hsz
  unfold QlW PoW
  have hD := hD0.self (sz := s.heap.size)
  generalize hAe : va_A [(q0, .inr (5, [.int f0_n, .ref q0_rows, .long f0_taken, .long f0_ones])), (q0_rows, .inr (2, [.int f0_rows_n, .ref q0_rows_byHead, .int (bI f0_rows_impossible)])), (q0_rows_byHead, .inl (cL, n0_rows_byHead, .inr (.inl h0_rows_byHead)))] s.heap.size = A at hD ⊢
  have hA : ∀ q : Nat, s.heap.size ≤ q → A q := fun q h => by rw [← hAe]; exact Or.inr h
  have hent : entryFrame m args 6 = entryFrame m ([.ref q0, .long x1, .int x3] : List Value).toArray 6 := by rw [hargs]
  rw [hent]
  refine kx_Q (fun Q hQ => ?_)
  refine kx_H (fun H hH => ?_)
  have hP : va_P D vwCl [(q0, .inr (5, [.int f0_n, .ref q0_rows, .long f0_taken, .long f0_ones])), (q0_rows, .inr (2, [.int f0_rows_n, .ref q0_rows_byHead, .int (bI f0_rows_impossible)])), (q0_rows_byHead, .inl (cL, n0_rows_byHead, .inr (.inl h0_rows_byHead)))] H := by rw [hH]; exact hP
  have hS : va_S A s.heap H [] := by rw [hH]; exact va_S.rf
  have hl := lv_entry ([.ref q0, .long x1, .int x3]) (n := 6) (Nat.le_of_ble_eq_true rfl)
  rw [lg_entry_eq]
  generalize (lg_sl ([.ref q0, .long x1, .int x3]) ++ List.replicate (6 - (lg_sl ([.ref q0, .long x1, .int x3])).length) Slot.unset).toArray = ls at hl ⊢
  have hl : lv_has ls 6 [(0, .ref q0), (1, .long x1), (3, .int x3)] := hl
  have hloop : ∀ n9 : Nat, (∀ (x4 : Int32) (x5 : Int32) (f0_taken : Int64) (f0_ones : Int64) (f0_rows_impossible : Bool) (h0_rows_byHead : Nat → Int64), iter (st_X5_takeByNumber f0_n f0_rows_n n0_rows_byHead x1 x3) n9 (x4, x5, f0_taken, f0_ones, f0_rows_impossible, h0_rows_byHead) = some r0 → ∀ (H : Heap) (locs : List Loc) (ls : Array Slot), va_P D vwCl [(q0, .inr (5, [.int f0_n, .ref q0_rows, .long f0_taken, .long f0_ones])), (q0_rows, .inr (2, [.int f0_rows_n, .ref q0_rows_byHead, .int (bI f0_rows_impossible)])), (q0_rows_byHead, .inl (cL, n0_rows_byHead, .inr (.inl h0_rows_byHead)))] H → va_D A [(q0, .inr (5, [.int f0_n, .ref q0_rows, .long f0_taken, .long f0_ones])), (q0_rows, .inr (2, [.int f0_rows_n, .ref q0_rows_byHead, .int (bI f0_rows_impossible)])), (q0_rows_byHead, .inl (cL, n0_rows_byHead, .inr (.inl h0_rows_byHead)))] → va_S A s.heap H locs → lv_has ls 6 [(0, .ref q0), (1, .long x1), (4, .int x4), (5, .int x5)] → W p l e (headSpec wsX5_takeByNumber rm_X5_takeByNumber).room s m args below meth c H locs 0 0 Q (F0 m 6 ls [])) := by
    intro n9
    induction n9 with
    | zero => exact (fun _ _ _ _ _ _ h => nomatch h)
    | succ n9 ih =>
      intro x4 x5 f0_taken f0_ones f0_rows_impossible h0_rows_byHead h H locs ls hP hD hS hl
      have h : run1 (iter (st_X5_takeByNumber f0_n f0_rows_n n0_rows_byHead x1 x3) n9) (b_X5_takeByNumber_6 f0_n f0_rows_n n0_rows_byHead x1 x3 x4 x5 f0_taken f0_ones f0_rows_impossible h0_rows_byHead) = some r0 := h
      unfold b_X5_takeByNumber_6 at h
      refine lv_iload hx hb dX5_takeByNumber_6 (lv_at hl 3 rfl) ?_
      refine lv_aload_n hx hb dX5_takeByNumber_8 rfl (lv_at hl 0 rfl) ?_
      refine va_get (D := D) (ci := 5) (v := .int f0_n) (C := RX5) (T := TX5) (N := 4) hx hb hts in_X5_takeByNumber_X5 hown hK hP 0 rfl rfl 0 (by decide) lk_0 (fun _ h9 => h9) rfl dX5_takeByNumber_9 ?_
      refine lv_icmp_ge (tgt := 87) hx hb dX5_takeByNumber_12 (by decide) (fun c_1 => ?_) (fun c_1 => ?_)
      · have k_2 : f0_n ≤ x5 := c_1
        have h := cw_t k_2 h
        refine lv_aload_n hx hb dX5_takeByNumber_87 rfl (lv_at hl 0 rfl) ?_
        refine va_get (D := D) (ci := 5) (v := .long f0_ones) (C := RX5) (T := TX5) (N := 4) hx hb hts in_X5_takeByNumber_X5 hown hK hP 0 rfl rfl 3 (by decide) lk_1 (fun _ h9 => h9) rfl dX5_takeByNumber_88 ?_
        have h := Option.some.inj h
        subst h
        subst hQ
        exact W.lret (v := f0_ones) hx hb hr (fun t ht hW => ⟨⟨f0_ones, (), rfl, ⟨rfl, trivial⟩, by rw [ht]; exact hP, hD⟩, hS.F ht⟩) hS.2.2 dX5_takeByNumber_91
      · have k_2 : ¬ (f0_n ≤ x5) := c_1
        have h := cw_f k_2 h
        refine lv_aload_n hx hb dX5_takeByNumber_15 rfl (lv_at hl 0 rfl) ?_
        refine lv_iload hx hb dX5_takeByNumber_16 (lv_at hl 3 rfl) ?_
        obtain ⟨u_3, hu_4, h⟩ := cw_b h
        refine kx_i (ws' := fun _ => [(q0, .inr (5, [.int f0_n, .ref q0_rows, .long f0_taken, .long f0_ones])), (q0_rows, .inr (2, [.int f0_rows_n, .ref q0_rows_byHead, .int (bI f0_rows_impossible)])), (q0_rows_byHead, .inl (cL, n0_rows_byHead, .inr (.inl h0_rows_byHead)))]) hP hD hS hA [0, 1, 2] [] [0, 1, 2] rfl rfl (by decide) (by decide) (fun _ => rfl) (by decide) (va_runV (As := [.int x5]) (rest := []) ⟨hx, hb, hml, hown, hts⟩ (cm_X5_hasOneValue l D cI cL (q0 := q0) (q0_rows := q0_rows) (q0_rows_byHead := q0_rows_byHead) (n0_rows_byHead := n0_rows_byHead) (h0_rows_byHead := h0_rows_byHead) (v0_n := .int f0_n) (v0_taken := .long f0_taken) (v0_ones := .long f0_ones) (v0_rows_n := .int f0_rows_n) (v0_rows_impossible := .int (bI f0_rows_impossible)) (x1 := x5) (r0 := u_3) (hr0 := hu_4) (sz := H.size)) (cwV 1 hts gX5_takeByNumber_X5_hasOneValue rfl rfl rfl (by decide +kernel) ⟨Nat.le_of_ble_eq_true rfl, Nat.le_of_ble_eq_true rfl⟩) (kx_preV hEV hP hD [0, 1, 2] rfl (by decide) (k0 := 0) (ci := 5) rfl rfl rfl) rfl rfl hl.1 rfl (lv_room (Nat.le_of_ble_eq_true rfl)) dX5_takeByNumber_18 ⟨Nat.le_of_ble_eq_true rfl, Nat.le_of_ble_eq_true rfl⟩) (fun _ H locs _ hP hD hS => ?_)
        refine lv_if_eq (tgt := 56) hx hb dX5_takeByNumber_21 (by decide) (fun c_5 => ?_) (fun c_5 => ?_)
        · have k_6 : ¬ (u_3 = true) := (kx_z c_5)
          have h := cw_f k_6 h
          refine lv_iinc (v := x4 + (-1 : Int32)) (lv' := [(4, .int (x4 + (-1 : Int32))), (0, .ref q0), (1, .long x1), (5, .int x5)]) hx hb dX5_takeByNumber_56 hl (k := 2) rfl rfl (by decide) rfl (fun ls hl => ?_)
          refine lv_aload_n hx hb dX5_takeByNumber_59 rfl (lv_at hl 1 rfl) ?_
          refine lv_iload hx hb dX5_takeByNumber_60 (lv_at hl 3 rfl) ?_
          refine lv_lload_n hx hb dX5_takeByNumber_62 rfl (lv_at hl 2 rfl) ?_
          refine lv_iload hx hb dX5_takeByNumber_63 (lv_at hl 0 rfl) ?_
          refine lv_lushr (v := jushr x1 (x4 + (-1 : Int32))) hx hb dX5_takeByNumber_65 rfl ?_
          refine lv_lconst (v := (1 : Int64)) hx hb dX5_takeByNumber_66 (by decide) ?_
          refine lv_land hx hb dX5_takeByNumber_67 ?_
          refine lv_lconst (v := (0 : Int64)) hx hb dX5_takeByNumber_68 (by decide) ?_
          refine W.lcmp hx hb dX5_takeByNumber_69 ?_
          refine lv_if_eq (tgt := 77) hx hb dX5_takeByNumber_70 (by decide) (fun c_7 => ?_) (fun c_7 => ?_)
          · have k_8 : ((jushr x1 (x4 + (-1 : Int32))) &&& (1 : Int64)) = (0 : Int64) := ((lg_cmp_eq _ _).mp c_7)
            have h := cw_t k_8 h
            refine lv_iconst (v := (0 : Int32)) hx hb dX5_takeByNumber_77 (by decide) ?_
            obtain ⟨u_9, hu_10, h⟩ := cw_b h
            refine kx_v (ws' := fun _ => [(q0, .inr (5, [.int f0_n, .ref q0_rows, .long u_9.1, .long u_9.2.1])), (q0_rows, .inr (2, [.int f0_rows_n, .ref q0_rows_byHead, .int (bI u_9.2.2.1)])), (q0_rows_byHead, .inl (cL, n0_rows_byHead, .inr (.inl u_9.2.2.2)))]) hP hD hS hA [0, 1, 2] [] [0, 1, 2] rfl rfl (by decide) (by decide) (fun _ => rfl) (by decide) (va_runV (As := [.int x5, .int (bI false)]) (rest := []) ⟨hx, hb, hml, hown, hts⟩ (cm_X5_take l D cI cL (q0 := q0) (q0_rows := q0_rows) (q0_rows_byHead := q0_rows_byHead) (n0_rows_byHead := n0_rows_byHead) (f0_taken := f0_taken) (f0_ones := f0_ones) (f0_rows_n := f0_rows_n) (f0_rows_impossible := f0_rows_impossible) (h0_rows_byHead := h0_rows_byHead) (v0_n := .int f0_n) (x1 := x5) (x2 := false) (r0 := u_9) (hr0 := hu_10) (sz := H.size)) (cwV 2 hts gX5_takeByNumber_X5_take rfl rfl rfl (by decide +kernel) ⟨Nat.le_of_ble_eq_true rfl, Nat.le_of_ble_eq_true rfl⟩) (kx_preV hEV hP hD [0, 1, 2] rfl (by decide) (k0 := 0) (ci := 5) rfl rfl rfl) rfl rfl hl.1 rfl (lv_room (Nat.le_of_ble_eq_true rfl)) dX5_takeByNumber_78 ⟨Nat.le_of_ble_eq_true rfl, Nat.le_of_ble_eq_true rfl⟩) (fun _ H locs _ hP hD hS => ?_)
            refine lv_iinc (v := x5 + (1 : Int32)) (lv' := [(5, .int (x5 + (1 : Int32))), (4, .int (x4 + (-1 : Int32))), (0, .ref q0), (1, .long x1)]) hx hb dX5_takeByNumber_81 hl (k := 3) rfl rfl (by decide) rfl (fun ls hl => ?_)
            refine lv_goto (tgt := 6) hx hb dX5_takeByNumber_84 (by decide) ?_
            exact ih _ _ _ _ _ _ h _ _ _ hP hD hS (lv_sub hl [2, 3, 1, 0] rfl)
          · have k_8 : ¬ (((jushr x1 (x4 + (-1 : Int32))) &&& (1 : Int64)) = (0 : Int64)) := (fun z9 => c_7 ((lg_cmp_eq _ _).mpr z9))
            have h := cw_f k_8 h
            refine lv_iconst (v := (1 : Int32)) hx hb dX5_takeByNumber_73 (by decide) ?_
            refine lv_goto (tgt := 78) hx hb dX5_takeByNumber_74 (by decide) ?_
            obtain ⟨u_11, hu_12, h⟩ := cw_b h
            refine kx_v (ws' := fun _ => [(q0, .inr (5, [.int f0_n, .ref q0_rows, .long u_11.1, .long u_11.2.1])), (q0_rows, .inr (2, [.int f0_rows_n, .ref q0_rows_byHead, .int (bI u_11.2.2.1)])), (q0_rows_byHead, .inl (cL, n0_rows_byHead, .inr (.inl u_11.2.2.2)))]) hP hD hS hA [0, 1, 2] [] [0, 1, 2] rfl rfl (by decide) (by decide) (fun _ => rfl) (by decide) (va_runV (As := [.int x5, .int (bI true)]) (rest := []) ⟨hx, hb, hml, hown, hts⟩ (cm_X5_take l D cI cL (q0 := q0) (q0_rows := q0_rows) (q0_rows_byHead := q0_rows_byHead) (n0_rows_byHead := n0_rows_byHead) (f0_taken := f0_taken) (f0_ones := f0_ones) (f0_rows_n := f0_rows_n) (f0_rows_impossible := f0_rows_impossible) (h0_rows_byHead := h0_rows_byHead) (v0_n := .int f0_n) (x1 := x5) (x2 := true) (r0 := u_11) (hr0 := hu_12) (sz := H.size)) (cwV 2 hts gX5_takeByNumber_X5_take rfl rfl rfl (by decide +kernel) ⟨Nat.le_of_ble_eq_true rfl, Nat.le_of_ble_eq_true rfl⟩) (kx_preV hEV hP hD [0, 1, 2] rfl (by decide) (k0 := 0) (ci := 5) rfl rfl rfl) rfl rfl hl.1 rfl (lv_room (Nat.le_of_ble_eq_true rfl)) dX5_takeByNumber_78 ⟨Nat.le_of_ble_eq_true rfl, Nat.le_of_ble_eq_true rfl⟩) (fun _ H locs _ hP hD hS => ?_)
            refine lv_iinc (v := x5 + (1 : Int32)) (lv' := [(5, .int (x5 + (1 : Int32))), (4, .int (x4 + (-1 : Int32))), (0, .ref q0), (1, .long x1)]) hx hb dX5_takeByNumber_81 hl (k := 3) rfl rfl (by decide) rfl (fun ls hl => ?_)
            refine lv_goto (tgt := 6) hx hb dX5_takeByNumber_84 (by decide) ?_
            exact ih _ _ _ _ _ _ h _ _ _ hP hD hS (lv_sub hl [2, 3, 1, 0] rfl)
        · have k_6 : u_3 = true := (kx_nz c_5)
          have h := cw_t k_6 h
          refine lv_aload_n hx hb dX5_takeByNumber_24 rfl (lv_at hl 0 rfl) ?_
          refine lv_iload hx hb dX5_takeByNumber_25 (lv_at hl 3 rfl) ?_
          refine lv_aload_n hx hb dX5_takeByNumber_27 rfl (lv_at hl 0 rfl) ?_
          refine va_get (D := D) (ci := 5) (v := .ref q0_rows) (C := RX5) (T := TX5) (N := 4) hx hb hts in_X5_takeByNumber_X5 hown hK hP 0 rfl rfl 1 (by decide) lk_2 (fun _ h9 => h9) rfl dX5_takeByNumber_28 ?_
          refine va_get (D := D) (ci := 2) (v := .ref q0_rows_byHead) (C := RX2) (T := TX2) (N := 3) hx hb hts in_X5_takeByNumber_X2 hown hK hP 1 rfl rfl 1 (by decide) lk_3 (fun _ h9 => h9) rfl dX5_takeByNumber_31 ?_
          refine lv_iload hx hb dX5_takeByNumber_34 (lv_at hl 3 rfl) ?_
          obtain ⟨b_13, h⟩ := cw_i h
          refine va_lald hx hb hK hP 2 1 rfl rfl b_13 dX5_takeByNumber_36 ?_
          refine lv_lconst (v := (1 : Int64)) hx hb dX5_takeByNumber_37 (by decide) ?_
          refine lv_iload hx hb dX5_takeByNumber_38 (lv_at hl 3 rfl) ?_
          refine lv_lshl (v := jshl (1 : Int64) x5) hx hb dX5_takeByNumber_40 rfl ?_
          refine W.lcmp hx hb dX5_takeByNumber_41 ?_
          refine lv_if_eq (tgt := 49) hx hb dX5_takeByNumber_42 (by decide) (fun c_14 => ?_) (fun c_14 => ?_)
          · have k_15 : (h0_rows_byHead x5.toNatClampNeg) = (jshl (1 : Int64) x5) := ((lg_cmp_eq _ _).mp c_14)
            have h := cw_t k_15 h
            refine lv_iconst (v := (0 : Int32)) hx hb dX5_takeByNumber_49 (by decide) ?_
            obtain ⟨u_16, hu_17, h⟩ := cw_b h
            refine kx_v (ws' := fun _ => [(q0, .inr (5, [.int f0_n, .ref q0_rows, .long u_16.1, .long u_16.2.1])), (q0_rows, .inr (2, [.int f0_rows_n, .ref q0_rows_byHead, .int (bI u_16.2.2.1)])), (q0_rows_byHead, .inl (cL, n0_rows_byHead, .inr (.inl u_16.2.2.2)))]) hP hD hS hA [0, 1, 2] [] [0, 1, 2] rfl rfl (by decide) (by decide) (fun _ => rfl) (by decide) (va_runV (As := [.int x5, .int (bI false)]) (rest := []) ⟨hx, hb, hml, hown, hts⟩ (cm_X5_take l D cI cL (q0 := q0) (q0_rows := q0_rows) (q0_rows_byHead := q0_rows_byHead) (n0_rows_byHead := n0_rows_byHead) (f0_taken := f0_taken) (f0_ones := f0_ones) (f0_rows_n := f0_rows_n) (f0_rows_impossible := f0_rows_impossible) (h0_rows_byHead := h0_rows_byHead) (v0_n := .int f0_n) (x1 := x5) (x2 := false) (r0 := u_16) (hr0 := hu_17) (sz := H.size)) (cwV 2 hts gX5_takeByNumber_X5_take rfl rfl rfl (by decide +kernel) ⟨Nat.le_of_ble_eq_true rfl, Nat.le_of_ble_eq_true rfl⟩) (kx_preV hEV hP hD [0, 1, 2] rfl (by decide) (k0 := 0) (ci := 5) rfl rfl rfl) rfl rfl hl.1 rfl (lv_room (Nat.le_of_ble_eq_true rfl)) dX5_takeByNumber_50 ⟨Nat.le_of_ble_eq_true rfl, Nat.le_of_ble_eq_true rfl⟩) (fun _ H locs _ hP hD hS => ?_)
            refine lv_goto (tgt := 81) hx hb dX5_takeByNumber_53 (by decide) ?_
            refine lv_iinc (v := x5 + (1 : Int32)) (lv' := [(5, .int (x5 + (1 : Int32))), (0, .ref q0), (1, .long x1), (4, .int x4)]) hx hb dX5_takeByNumber_81 hl (k := 3) rfl rfl (by decide) rfl (fun ls hl => ?_)
            refine lv_goto (tgt := 6) hx hb dX5_takeByNumber_84 (by decide) ?_
            exact ih _ _ _ _ _ _ h _ _ _ hP hD hS (lv_sub hl [1, 2, 3, 0] rfl)
          · have k_15 : ¬ ((h0_rows_byHead x5.toNatClampNeg) = (jshl (1 : Int64) x5)) := (fun z9 => c_14 ((lg_cmp_eq _ _).mpr z9))
            have h := cw_f k_15 h
            refine lv_iconst (v := (1 : Int32)) hx hb dX5_takeByNumber_45 (by decide) ?_
            refine lv_goto (tgt := 50) hx hb dX5_takeByNumber_46 (by decide) ?_
            obtain ⟨u_18, hu_19, h⟩ := cw_b h
            refine kx_v (ws' := fun _ => [(q0, .inr (5, [.int f0_n, .ref q0_rows, .long u_18.1, .long u_18.2.1])), (q0_rows, .inr (2, [.int f0_rows_n, .ref q0_rows_byHead, .int (bI u_18.2.2.1)])), (q0_rows_byHead, .inl (cL, n0_rows_byHead, .inr (.inl u_18.2.2.2)))]) hP hD hS hA [0, 1, 2] [] [0, 1, 2] rfl rfl (by decide) (by decide) (fun _ => rfl) (by decide) (va_runV (As := [.int x5, .int (bI true)]) (rest := []) ⟨hx, hb, hml, hown, hts⟩ (cm_X5_take l D cI cL (q0 := q0) (q0_rows := q0_rows) (q0_rows_byHead := q0_rows_byHead) (n0_rows_byHead := n0_rows_byHead) (f0_taken := f0_taken) (f0_ones := f0_ones) (f0_rows_n := f0_rows_n) (f0_rows_impossible := f0_rows_impossible) (h0_rows_byHead := h0_rows_byHead) (v0_n := .int f0_n) (x1 := x5) (x2 := true) (r0 := u_18) (hr0 := hu_19) (sz := H.size)) (cwV 2 hts gX5_takeByNumber_X5_take rfl rfl rfl (by decide +kernel) ⟨Nat.le_of_ble_eq_true rfl, Nat.le_of_ble_eq_true rfl⟩) (kx_preV hEV hP hD [0, 1, 2] rfl (by decide) (k0 := 0) (ci := 5) rfl rfl rfl) rfl rfl hl.1 rfl (lv_room (Nat.le_of_ble_eq_true rfl)) dX5_takeByNumber_50 ⟨Nat.le_of_ble_eq_true rfl, Nat.le_of_ble_eq_true rfl⟩) (fun _ H locs _ hP hD hS => ?_)
            refine lv_goto (tgt := 81) hx hb dX5_takeByNumber_53 (by decide) ?_
            refine lv_iinc (v := x5 + (1 : Int32)) (lv' := [(5, .int (x5 + (1 : Int32))), (0, .ref q0), (1, .long x1), (4, .int x4)]) hx hb dX5_takeByNumber_81 hl (k := 3) rfl rfl (by decide) rfl (fun ls hl => ?_)
            refine lv_goto (tgt := 6) hx hb dX5_takeByNumber_84 (by decide) ?_
            exact ih _ _ _ _ _ _ h _ _ _ hP hD hS (lv_sub hl [1, 2, 3, 0] rfl)
  have h := hr0
  unfold D_X5_takeByNumber at h
  refine lv_iload_n hx hb dX5_takeByNumber_0 rfl (lv_at hl 2 rfl) ?_
  refine lv_istore (lv' := [(4, .int x3), (0, .ref q0), (1, .long x1), (3, .int x3)]) hx hb dX5_takeByNumber_1 hl (by decide) rfl (fun ls hl => ?_)
  refine lv_iconst (v := (0 : Int32)) hx hb dX5_takeByNumber_3 (by decide) ?_
  refine lv_istore (lv' := [(5, .int (0 : Int32)), (4, .int x3), (0, .ref q0), (1, .long x1), (3, .int x3)]) hx hb dX5_takeByNumber_4 hl (by decide) rfl (fun ls hl => ?_)
  obtain ⟨n9, hn9⟩ := runw_some h
  exact (hloop n9) _ _ _ _ _ _ hn9 _ _ _ hP hD hS (lv_sub hl [2, 3, 1, 0] rfl)
theorem in_X6_put_X6 : ∀ w ∈ wsX60, w ∈ wsX6_put := by decide +kernel
theorem lk_0_X6_put : Cond.fieldLink RX6 15 "ParityClauses$Tape" "length" "I" ∈ wsX6_put := by decide +kernel
theorem lk_1_X6_put : Cond.fieldLink RX6 9 "ParityClauses$Tape" "bytes" "[I" ∈ wsX6_put := by decide +kernel
abbrev rm_X6_put : Room := { frames := 0, cells := 0, slots := 0, locals := 0 }
set_option maxHeartbeats 4000000 in
set_option maxRecDepth 100000 in
theorem cm_X6_put (l : Launch) (D : va_G) (cI cL : ClassId) (q0 q0_bytes : Nat) (n0_bytes : Nat) (f0_length : Int32) (h0_bytes : Nat → Int32) (v0_fault v0_place v0_isEquation v0_first v0_second v0_rightIsOne : Value) (x1 : Int32) (r0 : Int32 × (Nat → Int32)) (hr0 : D_X6_put f0_length n0_bytes h0_bytes x1 = some r0) (sz : Nat) : Met l yX6_put wsX6_put rm_X6_put (PcW D cI cL [.ref q0, .int x1] [(q0, .inr (6, [.ref q0_bytes, .int f0_length, v0_fault, v0_place, v0_isEquation, v0_first, v0_second, v0_rightIsOne])), (q0_bytes, .inl (cI, n0_bytes, .inl h0_bytes))] sz) (QvW D [(q0, .inr (6, [.ref q0_bytes, .int f0_length, v0_fault, v0_place, v0_isEquation, v0_first, v0_second, v0_rightIsOne])), (q0_bytes, .inl (cI, n0_bytes, .inl h0_bytes))] (fun _ : Unit => [(q0, .inr (6, [.ref q0_bytes, .int r0.1, v0_fault, v0_place, v0_isEquation, v0_first, v0_second, v0_rightIsOne])), (q0_bytes, .inl (cI, n0_bytes, .inl r0.2))]) tU sz) 0 0 (va_A [(q0, .inr (6, [.ref q0_bytes, .int f0_length, v0_fault, v0_place, v0_isEquation, v0_first, v0_second, v0_rightIsOne])), (q0_bytes, .inl (cI, n0_bytes, .inl h0_bytes))] sz) := by
  refine Met.ofW (cc := cX6_put) (maxL := 2) (ret := none) (by decide) rfl ?_
  intro p e s m args below meth c s₁ B hml hv
  obtain ⟨hargs, hsz, hP, hEV, hD0⟩ := hv
  have hx := B.exec
  have hb := B.bytes
  have hr := B.returns
  have hts := atoms_spec (ws := wsX6_put) B.pre
  have hown : s.vm.findClass RX6 = some m.cls := findClass_of_methodNamed B.named
  have hlocks := B.notSynchronized
  have hK := hEV.K
  have lk_0 := hts _ lk_0_X6_put
  have lk_1 := hts _ lk_1_X6_put
  subst hsz
  unfold QvW PoW
  have hD := hD0.self (sz := s.heap.size)
  generalize hAe : va_A [(q0, .inr (6, [.ref q0_bytes, .int f0_length, v0_fault, v0_place, v0_isEquation, v0_first, v0_second, v0_rightIsOne])), (q0_bytes, .inl (cI, n0_bytes, .inl h0_bytes))] s.heap.size = A at hD ⊢
  have hA : ∀ q : Nat, s.heap.size ≤ q → A q := fun q h => by rw [← hAe]; exact Or.inr h
  have hent : entryFrame m args 2 = entryFrame m ([.ref q0, .int x1] : List Value).toArray 2 := by rw [hargs]
  rw [hent]
  refine kx_Q (fun Q hQ => ?_)
  refine kx_H (fun H hH => ?_)
  have hP : va_P D vwCl [(q0, .inr (6, [.ref q0_bytes, .int f0_length, v0_fault, v0_place, v0_isEquation, v0_first, v0_second, v0_rightIsOne])), (q0_bytes, .inl (cI, n0_bytes, .inl h0_bytes))] H := by rw [hH]; exact hP
  have hS : va_S A s.heap H [] := by rw [hH]; exact va_S.rf
  have hl := lv_entry ([.ref q0, .int x1]) (n := 2) (Nat.le_of_ble_eq_true rfl)
  rw [lg_entry_eq]
  generalize (lg_sl ([.ref q0, .int x1]) ++ List.replicate (2 - (lg_sl ([.ref q0, .int x1])).length) Slot.unset).toArray = ls at hl ⊢
  have hl : lv_has ls 2 [(0, .ref q0), (1, .int x1)] := hl
  have h := hr0
  unfold D_X6_put at h
  refine lv_aload_n hx hb dX6_put_0 rfl (lv_at hl 0 rfl) ?_
  refine va_get (D := D) (ci := 6) (v := .int f0_length) (C := RX6) (T := TX6) (N := 8) hx hb hts in_X6_put_X6 hown hK hP 0 rfl rfl 1 (by decide) lk_0 (fun _ h9 => h9) rfl dX6_put_1 ?_
  refine lv_sipush (v := (500 : Int32)) hx hb dX6_put_4 (by decide) ?_
  refine lv_icmp_ge (tgt := 30) hx hb dX6_put_7 (by decide) (fun c_1 => ?_) (fun c_1 => ?_)
  · have k_2 : (500 : Int32) ≤ f0_length := c_1
    have h := co_t k_2 h
    have h := Option.some.inj h
    subst h
    subst hQ
    exact W.vret hx hb hr (fun t ht hW => ⟨⟨(), rfl, trivial, by rw [ht]; exact hP, hD⟩, hS.F ht⟩) hS.2.2 dX6_put_30
  · have k_2 : ¬ ((500 : Int32) ≤ f0_length) := c_1
    have h := co_f k_2 h
    refine lv_aload_n hx hb dX6_put_10 rfl (lv_at hl 0 rfl) ?_
    refine va_get (D := D) (ci := 6) (v := .ref q0_bytes) (C := RX6) (T := TX6) (N := 8) hx hb hts in_X6_put_X6 hown hK hP 0 rfl rfl 0 (by decide) lk_1 (fun _ h9 => h9) rfl dX6_put_11 ?_
    refine lv_aload_n hx hb dX6_put_14 rfl (lv_at hl 0 rfl) ?_
    refine va_get (D := D) (ci := 6) (v := .int f0_length) (C := RX6) (T := TX6) (N := 8) hx hb hts in_X6_put_X6 hown hK hP 0 rfl rfl 1 (by decide) lk_0 (fun _ h9 => h9) rfl dX6_put_15 ?_
    refine lv_iload_n hx hb dX6_put_18 rfl (lv_at hl 1 rfl) ?_
    obtain ⟨b_3, h⟩ := co_i h
    refine va_iast hx hb hK hP hD hS 1 0 rfl rfl b_3 dX6_put_19 (fun H locs hP hD hS => ?_)
    have hP : va_P D vwCl [(q0, .inr (6, [.ref q0_bytes, .int f0_length, v0_fault, v0_place, v0_isEquation, v0_first, v0_second, v0_rightIsOne])), (q0_bytes, .inl (cI, n0_bytes, .inl (upd h0_bytes f0_length.toNatClampNeg x1)))] H := hP
    have hD : va_D A [(q0, .inr (6, [.ref q0_bytes, .int f0_length, v0_fault, v0_place, v0_isEquation, v0_first, v0_second, v0_rightIsOne])), (q0_bytes, .inl (cI, n0_bytes, .inl (upd h0_bytes f0_length.toNatClampNeg x1)))] := hD
    refine lv_aload_n hx hb dX6_put_20 rfl (lv_at hl 0 rfl) ?_
    refine lv_dup hx hb dX6_put_21 rfl ?_
    refine va_get (D := D) (ci := 6) (v := .int f0_length) (C := RX6) (T := TX6) (N := 8) hx hb hts in_X6_put_X6 hown hK hP 0 rfl rfl 1 (by decide) lk_0 (fun _ h9 => h9) rfl dX6_put_22 ?_
    refine lv_iconst (v := (1 : Int32)) hx hb dX6_put_25 (by decide) ?_
    refine lv_iadd hx hb dX6_put_26 ?_
    refine va_put (D := D) (ci := 6) (v := .int (f0_length + (1 : Int32))) (ty := .int) (C := RX6) (T := TX6) (N := 8) hx hb hts in_X6_put_X6 tyX6 tyX6_ok nmX6 hown hK hP hD hS 0 rfl rfl 1 (by decide) lk_0 (fun _ h9 => h9) rfl (by decide +kernel) rfl rfl (Nat.le_of_ble_eq_true rfl) dX6_put_27 (fun H locs hP hD hS => ?_)
    have hP : va_P D vwCl [(q0, .inr (6, [.ref q0_bytes, .int (f0_length + (1 : Int32)), v0_fault, v0_place, v0_isEquation, v0_first, v0_second, v0_rightIsOne])), (q0_bytes, .inl (cI, n0_bytes, .inl (upd h0_bytes f0_length.toNatClampNeg x1)))] H := hP
    have hD : va_D A [(q0, .inr (6, [.ref q0_bytes, .int (f0_length + (1 : Int32)), v0_fault, v0_place, v0_isEquation, v0_first, v0_second, v0_rightIsOne])), (q0_bytes, .inl (cI, n0_bytes, .inl (upd h0_bytes f0_length.toNatClampNeg x1)))] := hD
    have h := Option.some.inj h
    subst h
    subst hQ
    exact W.vret hx hb hr (fun t ht hW => ⟨⟨(), rfl, trivial, by rw [ht]; exact hP, hD⟩, hS.F ht⟩) hS.2.2 dX6_put_30
theorem in_X6_byteAt_X6 : ∀ w ∈ wsX60, w ∈ wsX6_byteAt := by decide +kernel
theorem lk_0_X6_byteAt : Cond.fieldLink RX6 15 "ParityClauses$Tape" "length" "I" ∈ wsX6_byteAt := by decide +kernel
theorem lk_1_X6_byteAt : Cond.fieldLink RX6 9 "ParityClauses$Tape" "bytes" "[I" ∈ wsX6_byteAt := by decide +kernel
abbrev rm_X6_byteAt : Room := { frames := 0, cells := 0, slots := 0, locals := 0 }
set_option maxHeartbeats 4000000 in
set_option maxRecDepth 100000 in
theorem cm_X6_byteAt (l : Launch) (D : va_G) (cI cL : ClassId) (q0 q0_bytes : Nat) (n0_bytes : Nat) (f0_length : Int32) (h0_bytes : Nat → Int32) (v0_fault v0_place v0_isEquation v0_first v0_second v0_rightIsOne : Value) (x1 : Int32) (r0 : Int32) (hr0 : D_X6_byteAt f0_length n0_bytes h0_bytes x1 = some r0) (sz : Nat) : Met l yX6_byteAt wsX6_byteAt rm_X6_byteAt (PcW D cI cL [.ref q0, .int x1] [(q0, .inr (6, [.ref q0_bytes, .int f0_length, v0_fault, v0_place, v0_isEquation, v0_first, v0_second, v0_rightIsOne])), (q0_bytes, .inl (cI, n0_bytes, .inl h0_bytes))] sz) (QiW D [(q0, .inr (6, [.ref q0_bytes, .int f0_length, v0_fault, v0_place, v0_isEquation, v0_first, v0_second, v0_rightIsOne])), (q0_bytes, .inl (cI, n0_bytes, .inl h0_bytes))] r0 (fun _ : Unit => [(q0, .inr (6, [.ref q0_bytes, .int f0_length, v0_fault, v0_place, v0_isEquation, v0_first, v0_second, v0_rightIsOne])), (q0_bytes, .inl (cI, n0_bytes, .inl h0_bytes))]) tU sz) 0 0 (va_A [(q0, .inr (6, [.ref q0_bytes, .int f0_length, v0_fault, v0_place, v0_isEquation, v0_first, v0_second, v0_rightIsOne])), (q0_bytes, .inl (cI, n0_bytes, .inl h0_bytes))] sz) := by
  refine Met.ofW (cc := cX6_byteAt) (maxL := 2) (ret := (some .int)) (by decide) rfl ?_
  intro p e s m args below meth c s₁ B hml hv
  obtain ⟨hargs, hsz, hP, hEV, hD0⟩ := hv
  have hx := B.exec
  have hb := B.bytes
  have hr := B.returns
  have hts := atoms_spec (ws := wsX6_byteAt) B.pre
  have hown : s.vm.findClass RX6 = some m.cls := findClass_of_methodNamed B.named
  have hlocks := B.notSynchronized
  have hK := hEV.K
  have lk_0 := hts _ lk_0_X6_byteAt
  have lk_1 := hts _ lk_1_X6_byteAt
  subst hsz
  unfold QiW PoW
  have hD := hD0.self (sz := s.heap.size)
  generalize hAe : va_A [(q0, .inr (6, [.ref q0_bytes, .int f0_length, v0_fault, v0_place, v0_isEquation, v0_first, v0_second, v0_rightIsOne])), (q0_bytes, .inl (cI, n0_bytes, .inl h0_bytes))] s.heap.size = A at hD ⊢
  have hA : ∀ q : Nat, s.heap.size ≤ q → A q := fun q h => by rw [← hAe]; exact Or.inr h
  have hent : entryFrame m args 2 = entryFrame m ([.ref q0, .int x1] : List Value).toArray 2 := by rw [hargs]
  rw [hent]
  refine kx_Q (fun Q hQ => ?_)
  refine kx_H (fun H hH => ?_)
  have hP : va_P D vwCl [(q0, .inr (6, [.ref q0_bytes, .int f0_length, v0_fault, v0_place, v0_isEquation, v0_first, v0_second, v0_rightIsOne])), (q0_bytes, .inl (cI, n0_bytes, .inl h0_bytes))] H := by rw [hH]; exact hP
  have hS : va_S A s.heap H [] := by rw [hH]; exact va_S.rf
  have hl := lv_entry ([.ref q0, .int x1]) (n := 2) (Nat.le_of_ble_eq_true rfl)
  rw [lg_entry_eq]
  generalize (lg_sl ([.ref q0, .int x1]) ++ List.replicate (2 - (lg_sl ([.ref q0, .int x1])).length) Slot.unset).toArray = ls at hl ⊢
  have hl : lv_has ls 2 [(0, .ref q0), (1, .int x1)] := hl
  have h := hr0
  unfold D_X6_byteAt at h
  refine lv_iload_n hx hb dX6_byteAt_0 rfl (lv_at hl 1 rfl) ?_
  refine lv_if_lt (tgt := 28) hx hb dX6_byteAt_1 (by decide) (fun c_1 => ?_) (fun c_1 => ?_)
  · have k_2 : x1 < 0 := c_1
    have h := co_t k_2 h
    refine lv_iconst (v := (-1 : Int32)) hx hb dX6_byteAt_28 (by decide) ?_
    have h := Option.some.inj h
    subst h
    subst hQ
    exact W.iret (v := (-1 : Int32)) hx hb hr (fun t ht hW => ⟨⟨(-1 : Int32), (), rfl, ⟨rfl, trivial⟩, by rw [ht]; exact hP, hD⟩, hS.F ht⟩) hS.2.2 dX6_byteAt_29
  · have k_2 : ¬ (x1 < 0) := c_1
    have h := co_f k_2 h
    refine lv_iload_n hx hb dX6_byteAt_4 rfl (lv_at hl 1 rfl) ?_
    refine lv_aload_n hx hb dX6_byteAt_5 rfl (lv_at hl 0 rfl) ?_
    refine va_get (D := D) (ci := 6) (v := .int f0_length) (C := RX6) (T := TX6) (N := 8) hx hb hts in_X6_byteAt_X6 hown hK hP 0 rfl rfl 1 (by decide) lk_0 (fun _ h9 => h9) rfl dX6_byteAt_6 ?_
    refine lv_icmp_ge (tgt := 28) hx hb dX6_byteAt_9 (by decide) (fun c_3 => ?_) (fun c_3 => ?_)
    · have k_4 : f0_length ≤ x1 := c_3
      have h := co_t k_4 h
      refine lv_iconst (v := (-1 : Int32)) hx hb dX6_byteAt_28 (by decide) ?_
      have h := Option.some.inj h
      subst h
      subst hQ
      exact W.iret (v := (-1 : Int32)) hx hb hr (fun t ht hW => ⟨⟨(-1 : Int32), (), rfl, ⟨rfl, trivial⟩, by rw [ht]; exact hP, hD⟩, hS.F ht⟩) hS.2.2 dX6_byteAt_29
    · have k_4 : ¬ (f0_length ≤ x1) := c_3
      have h := co_f k_4 h
      refine lv_iload_n hx hb dX6_byteAt_12 rfl (lv_at hl 1 rfl) ?_
      refine lv_sipush (v := (500 : Int32)) hx hb dX6_byteAt_13 (by decide) ?_
      refine lv_icmp_ge (tgt := 28) hx hb dX6_byteAt_16 (by decide) (fun c_5 => ?_) (fun c_5 => ?_)
      · have k_6 : (500 : Int32) ≤ x1 := c_5
        have h := co_t k_6 h
        refine lv_iconst (v := (-1 : Int32)) hx hb dX6_byteAt_28 (by decide) ?_
        have h := Option.some.inj h
        subst h
        subst hQ
        exact W.iret (v := (-1 : Int32)) hx hb hr (fun t ht hW => ⟨⟨(-1 : Int32), (), rfl, ⟨rfl, trivial⟩, by rw [ht]; exact hP, hD⟩, hS.F ht⟩) hS.2.2 dX6_byteAt_29
      · have k_6 : ¬ ((500 : Int32) ≤ x1) := c_5
        have h := co_f k_6 h
        refine lv_aload_n hx hb dX6_byteAt_19 rfl (lv_at hl 0 rfl) ?_
        refine va_get (D := D) (ci := 6) (v := .ref q0_bytes) (C := RX6) (T := TX6) (N := 8) hx hb hts in_X6_byteAt_X6 hown hK hP 0 rfl rfl 0 (by decide) lk_1 (fun _ h9 => h9) rfl dX6_byteAt_20 ?_
        refine lv_iload_n hx hb dX6_byteAt_23 rfl (lv_at hl 1 rfl) ?_
        obtain ⟨b_7, h⟩ := co_i h
        refine va_iald hx hb hK hP 1 0 rfl rfl b_7 dX6_byteAt_24 ?_
        refine lv_goto (tgt := 29) hx hb dX6_byteAt_25 (by decide) ?_
        have h := Option.some.inj h
        subst h
        subst hQ
        exact W.iret (v := h0_bytes x1.toNatClampNeg) hx hb hr (fun t ht hW => ⟨⟨h0_bytes x1.toNatClampNeg, (), rfl, ⟨rfl, trivial⟩, by rw [ht]; exact hP, hD⟩, hS.F ht⟩) hS.2.2 dX6_byteAt_29
abbrev rm_X6_isBlank : Room := { frames := 0, cells := 0, slots := 0, locals := 0 }
set_option maxHeartbeats 4000000 in
set_option maxRecDepth 100000 in
theorem cm_X6_isBlank (l : Launch) (D : va_G) (cI cL : ClassId) (x0 : Int32) (r0 : Bool) (hr0 : D_X6_isBlank x0 = some r0) (sz : Nat) : Met l yX6_isBlank wsX6_isBlank rm_X6_isBlank (PcW D cI cL [.int x0] [] sz) (QiW D [] (bI r0) (fun _ : Unit => []) tU sz) 0 0 (va_A [] sz) := by
  refine Met.ofW (cc := cX6_isBlank) (maxL := 1) (ret := (some .boolean)) (by decide) rfl ?_
  intro p e s m args below meth c s₁ B hml hv
  obtain ⟨hargs, hsz, hP, hEV, hD0⟩ := hv
  have hx := B.exec
  have hb := B.bytes
  have hr := B.returns
  have hts := atoms_spec (ws := wsX6_isBlank) B.pre
  have hown : s.vm.findClass RX6 = some m.cls := findClass_of_methodNamed B.named
  have hlocks := B.notSynchronized
  have hK := hEV.K
  subst hsz
  unfold QiW PoW
  have hD := hD0.self (sz := s.heap.size)
  generalize hAe : va_A [] s.heap.size = A at hD ⊢
  have hA : ∀ q : Nat, s.heap.size ≤ q → A q := fun q h => by rw [← hAe]; exact Or.inr h
  have hent : entryFrame m args 1 = entryFrame m ([.int x0] : List Value).toArray 1 := by rw [hargs]
  rw [hent]
  refine kx_Q (fun Q hQ => ?_)
  refine kx_H (fun H hH => ?_)
  have hP : va_P D vwCl [] H := by rw [hH]; exact hP
  have hS : va_S A s.heap H [] := by rw [hH]; exact va_S.rf
  have hl := lv_entry ([.int x0]) (n := 1) (Nat.le_of_ble_eq_true rfl)
  rw [lg_entry_eq]
  generalize (lg_sl ([.int x0]) ++ List.replicate (1 - (lg_sl ([.int x0])).length) Slot.unset).toArray = ls at hl ⊢
  have hl : lv_has ls 1 [(0, .int x0)] := hl
  have h := hr0
  unfold D_X6_isBlank at h
  refine lv_iload_n hx hb dX6_isBlank_0 rfl (lv_at hl 0 rfl) ?_
  refine lv_bipush (v := (32 : Int32)) hx hb dX6_isBlank_1 (by decide) ?_
  refine lv_icmp_eq (tgt := 12) hx hb dX6_isBlank_3 (by decide) (fun c_1 => ?_) (fun c_1 => ?_)
  · have k_2 : x0 = (32 : Int32) := c_1
    have h := co_t k_2 h
    refine lv_iconst (v := (1 : Int32)) hx hb dX6_isBlank_12 (by decide) ?_
    refine lv_goto (tgt := 17) hx hb dX6_isBlank_13 (by decide) ?_
    have h := Option.some.inj h
    subst h
    subst hQ
    exact W.zret (v := bI true) hx hb hr (bI_n true) (fun t ht hW => ⟨⟨bI true, (), rfl, ⟨rfl, trivial⟩, by rw [ht]; exact hP, hD⟩, hS.F ht⟩) hS.2.2 dX6_isBlank_17
  · have k_2 : ¬ (x0 = (32 : Int32)) := c_1
    have h := co_f k_2 h
    refine lv_iload_n hx hb dX6_isBlank_6 rfl (lv_at hl 0 rfl) ?_
    refine lv_bipush (v := (10 : Int32)) hx hb dX6_isBlank_7 (by decide) ?_
    refine lv_icmp_ne (tgt := 16) hx hb dX6_isBlank_9 (by decide) (fun c_3 => ?_) (fun c_3 => ?_)
    · have k_4 : ¬ (x0 = (10 : Int32)) := c_3
      have h := co_f k_4 h
      refine lv_iconst (v := (0 : Int32)) hx hb dX6_isBlank_16 (by decide) ?_
      have h := Option.some.inj h
      subst h
      subst hQ
      exact W.zret (v := bI false) hx hb hr (bI_n false) (fun t ht hW => ⟨⟨bI false, (), rfl, ⟨rfl, trivial⟩, by rw [ht]; exact hP, hD⟩, hS.F ht⟩) hS.2.2 dX6_isBlank_17
    · have k_4 : x0 = (10 : Int32) := c_3
      have h := co_t k_4 h
      refine lv_iconst (v := (1 : Int32)) hx hb dX6_isBlank_12 (by decide) ?_
      refine lv_goto (tgt := 17) hx hb dX6_isBlank_13 (by decide) ?_
      have h := Option.some.inj h
      subst h
      subst hQ
      exact W.zret (v := bI true) hx hb hr (bI_n true) (fun t ht hW => ⟨⟨bI true, (), rfl, ⟨rfl, trivial⟩, by rw [ht]; exact hP, hD⟩, hS.F ht⟩) hS.2.2 dX6_isBlank_17
theorem in_X6_skipBlanks_X6 : ∀ w ∈ wsX60, w ∈ wsX6_skipBlanks := by decide +kernel
theorem lk_0_X6_skipBlanks : Cond.fieldLink RX6 22 "ParityClauses$Tape" "place" "I" ∈ wsX6_skipBlanks := by decide +kernel
abbrev rm_X6_skipBlanks : Room := { frames := 1, cells := 0, slots := 0, locals := 21 }
set_option maxHeartbeats 4000000 in
set_option maxRecDepth 100000 in
theorem cm_X6_skipBlanks (l : Launch) (D : va_G) (cI cL : ClassId) (q0 q0_bytes : Nat) (n0_bytes : Nat) (f0_length : Int32) (f0_place : Int32) (h0_bytes : Nat → Int32) (v0_fault v0_isEquation v0_first v0_second v0_rightIsOne : Value) (r0 : Int32) (hr0 : D_X6_skipBlanks f0_length f0_place n0_bytes h0_bytes = some r0) (sz : Nat) : Met l yX6_skipBlanks wsX6_skipBlanks rm_X6_skipBlanks (PcW D cI cL [.ref q0] [(q0, .inr (6, [.ref q0_bytes, .int f0_length, v0_fault, .int f0_place, v0_isEquation, v0_first, v0_second, v0_rightIsOne])), (q0_bytes, .inl (cI, n0_bytes, .inl h0_bytes))] sz) (QvW D [(q0, .inr (6, [.ref q0_bytes, .int f0_length, v0_fault, .int f0_place, v0_isEquation, v0_first, v0_second, v0_rightIsOne])), (q0_bytes, .inl (cI, n0_bytes, .inl h0_bytes))] (fun _ : Unit => [(q0, .inr (6, [.ref q0_bytes, .int f0_length, v0_fault, .int r0, v0_isEquation, v0_first, v0_second, v0_rightIsOne])), (q0_bytes, .inl (cI, n0_bytes, .inl h0_bytes))]) tU sz) 0 0 (va_A [(q0, .inr (6, [.ref q0_bytes, .int f0_length, v0_fault, .int f0_place, v0_isEquation, v0_first, v0_second, v0_rightIsOne])), (q0_bytes, .inl (cI, n0_bytes, .inl h0_bytes))] sz) := by
  refine Met.ofW (cc := cX6_skipBlanks) (maxL := 2) (ret := none) (by decide) rfl ?_
  intro p e s m args below meth c s₁ B hml hv
  obtain ⟨hargs, hsz, hP, hEV, hD0⟩ := hv
  have hx := B.exec
  have hb := B.bytes
  have hr := B.returns
  have hts := atoms_spec (ws := wsX6_skipBlanks) B.pre
  have hown : s.vm.findClass RX6 = some m.cls := findClass_of_methodNamed B.named
  have hlocks := B.notSynchronized
  have hK := hEV.K
  have lk_0 := hts _ lk_0_X6_skipBlanks
  subst hsz
  unfold QvW PoW
  have hD := hD0.self (sz := s.heap.size)
  generalize hAe : va_A [(q0, .inr (6, [.ref q0_bytes, .int f0_length, v0_fault, .int f0_place, v0_isEquation, v0_first, v0_second, v0_rightIsOne])), (q0_bytes, .inl (cI, n0_bytes, .inl h0_bytes))] s.heap.size = A at hD ⊢
  have hA : ∀ q : Nat, s.heap.size ≤ q → A q := fun q h => by rw [← hAe]; exact Or.inr h
  have hent : entryFrame m args 2 = entryFrame m ([.ref q0] : List Value).toArray 2 := by rw [hargs]
  rw [hent]
  refine kx_Q (fun Q hQ => ?_)
  refine kx_H (fun H hH => ?_)
  have hP : va_P D vwCl [(q0, .inr (6, [.ref q0_bytes, .int f0_length, v0_fault, .int f0_place, v0_isEquation, v0_first, v0_second, v0_rightIsOne])), (q0_bytes, .inl (cI, n0_bytes, .inl h0_bytes))] H := by rw [hH]; exact hP
  have hS : va_S A s.heap H [] := by rw [hH]; exact va_S.rf
  have hl := lv_entry ([.ref q0]) (n := 2) (Nat.le_of_ble_eq_true rfl)
  rw [lg_entry_eq]
  generalize (lg_sl ([.ref q0]) ++ List.replicate (2 - (lg_sl ([.ref q0])).length) Slot.unset).toArray = ls at hl ⊢
  have hl : lv_has ls 2 [(0, .ref q0)] := hl
  have hloop : ∀ n9 : Nat, (∀ (x1 : Int32) (f0_place : Int32), iter (st_X6_skipBlanks f0_length n0_bytes h0_bytes) n9 (x1, f0_place) = some r0 → ∀ (H : Heap) (locs : List Loc) (ls : Array Slot), va_P D vwCl [(q0, .inr (6, [.ref q0_bytes, .int f0_length, v0_fault, .int f0_place, v0_isEquation, v0_first, v0_second, v0_rightIsOne])), (q0_bytes, .inl (cI, n0_bytes, .inl h0_bytes))] H → va_D A [(q0, .inr (6, [.ref q0_bytes, .int f0_length, v0_fault, .int f0_place, v0_isEquation, v0_first, v0_second, v0_rightIsOne])), (q0_bytes, .inl (cI, n0_bytes, .inl h0_bytes))] → va_S A s.heap H locs → lv_has ls 2 [(0, .ref q0), (1, .int x1)] → W p l e (headSpec wsX6_skipBlanks rm_X6_skipBlanks).room s m args below meth c H locs 0 0 Q (F0 m 2 ls [])) := by
    intro n9
    induction n9 with
    | zero => exact (fun _ _ h => nomatch h)
    | succ n9 ih =>
      intro x1 f0_place h H locs ls hP hD hS hl
      have h : run1 (iter (st_X6_skipBlanks f0_length n0_bytes h0_bytes) n9) (b_X6_skipBlanks_2 f0_length n0_bytes h0_bytes x1 f0_place) = some r0 := h
      unfold b_X6_skipBlanks_2 at h
      refine lv_iload_n hx hb dX6_skipBlanks_2 rfl (lv_at hl 1 rfl) ?_
      refine lv_sipush (v := (500 : Int32)) hx hb dX6_skipBlanks_3 (by decide) ?_
      refine lv_icmp_ge (tgt := 39) hx hb dX6_skipBlanks_6 (by decide) (fun c_1 => ?_) (fun c_1 => ?_)
      · have k_2 : (500 : Int32) ≤ x1 := c_1
        have h := cw_t k_2 h
        have h := Option.some.inj h
        subst h
        subst hQ
        exact W.vret hx hb hr (fun t ht hW => ⟨⟨(), rfl, trivial, by rw [ht]; exact hP, hD⟩, hS.F ht⟩) hS.2.2 dX6_skipBlanks_39
      · have k_2 : ¬ ((500 : Int32) ≤ x1) := c_1
        have h := cw_f k_2 h
        refine lv_aload_n hx hb dX6_skipBlanks_9 rfl (lv_at hl 0 rfl) ?_
        refine lv_aload_n hx hb dX6_skipBlanks_10 rfl (lv_at hl 0 rfl) ?_
        refine va_get (D := D) (ci := 6) (v := .int f0_place) (C := RX6) (T := TX6) (N := 8) hx hb hts in_X6_skipBlanks_X6 hown hK hP 0 rfl rfl 3 (by decide) lk_0 (fun _ h9 => h9) rfl dX6_skipBlanks_11 ?_
        obtain ⟨u_3, hu_4, h⟩ := cw_b h
        refine kx_i (ws' := fun _ => [(q0, .inr (6, [.ref q0_bytes, .int f0_length, v0_fault, .int f0_place, v0_isEquation, v0_first, v0_second, v0_rightIsOne])), (q0_bytes, .inl (cI, n0_bytes, .inl h0_bytes))]) hP hD hS hA [0, 1] [] [0, 1] rfl rfl (by decide) (by decide) (fun _ => rfl) (by decide) (va_runV (As := [.int f0_place]) (rest := []) ⟨hx, hb, hml, hown, hts⟩ (cm_X6_byteAt l D cI cL (q0 := q0) (q0_bytes := q0_bytes) (n0_bytes := n0_bytes) (f0_length := f0_length) (h0_bytes := h0_bytes) (v0_fault := v0_fault) (v0_place := .int f0_place) (v0_isEquation := v0_isEquation) (v0_first := v0_first) (v0_second := v0_second) (v0_rightIsOne := v0_rightIsOne) (x1 := f0_place) (r0 := u_3) (hr0 := hu_4) (sz := H.size)) (cwV 1 hts gX6_skipBlanks_X6_byteAt rfl rfl rfl (by decide +kernel) ⟨Nat.le_of_ble_eq_true rfl, Nat.le_of_ble_eq_true rfl⟩) (kx_preV hEV hP hD [0, 1] rfl (by decide) (k0 := 0) (ci := 6) rfl rfl rfl) rfl rfl hl.1 rfl (lv_room (Nat.le_of_ble_eq_true rfl)) dX6_skipBlanks_14 ⟨Nat.le_of_ble_eq_true rfl, Nat.le_of_ble_eq_true rfl⟩) (fun _ H locs _ hP hD hS => ?_)
        obtain ⟨u_5, hu_6, h⟩ := cw_b h
        refine kx_i (ws' := fun _ => [(q0, .inr (6, [.ref q0_bytes, .int f0_length, v0_fault, .int f0_place, v0_isEquation, v0_first, v0_second, v0_rightIsOne])), (q0_bytes, .inl (cI, n0_bytes, .inl h0_bytes))]) hP hD hS hA [] [0, 1] [0, 1] rfl rfl (by decide) (by decide) (fun _ => rfl) (by decide) (va_runS (As := [.int u_3]) (rest := []) ⟨hx, hb, hml, hown, hts⟩ (cm_X6_isBlank l D cI cL (x0 := u_3) (r0 := u_5) (hr0 := hu_6) (sz := H.size)) (va_cwS 1 hts gX6_skipBlanks_X6_isBlank rfl rfl rfl (by decide +kernel) ⟨Nat.le_of_ble_eq_true rfl, Nat.le_of_ble_eq_true rfl⟩) (kx_preS hEV hP hD [] rfl (by decide)) rfl rfl hl.1 rfl (lv_room (Nat.le_of_ble_eq_true rfl)) dX6_skipBlanks_17 ⟨Nat.le_of_ble_eq_true rfl, Nat.le_of_ble_eq_true rfl⟩) (fun _ H locs _ hP hD hS => ?_)
        refine lv_if_eq (tgt := 39) hx hb dX6_skipBlanks_20 (by decide) (fun c_7 => ?_) (fun c_7 => ?_)
        · have k_8 : ¬ (u_5 = true) := (kx_z c_7)
          have h := cw_f k_8 h
          have h := Option.some.inj h
          subst h
          subst hQ
          exact W.vret hx hb hr (fun t ht hW => ⟨⟨(), rfl, trivial, by rw [ht]; exact hP, hD⟩, hS.F ht⟩) hS.2.2 dX6_skipBlanks_39
        · have k_8 : u_5 = true := (kx_nz c_7)
          have h := cw_t k_8 h
          refine lv_aload_n hx hb dX6_skipBlanks_23 rfl (lv_at hl 0 rfl) ?_
          refine lv_dup hx hb dX6_skipBlanks_24 rfl ?_
          refine va_get (D := D) (ci := 6) (v := .int f0_place) (C := RX6) (T := TX6) (N := 8) hx hb hts in_X6_skipBlanks_X6 hown hK hP 0 rfl rfl 3 (by decide) lk_0 (fun _ h9 => h9) rfl dX6_skipBlanks_25 ?_
          refine lv_iconst (v := (1 : Int32)) hx hb dX6_skipBlanks_28 (by decide) ?_
          refine lv_iadd hx hb dX6_skipBlanks_29 ?_
          refine va_put (D := D) (ci := 6) (v := .int (f0_place + (1 : Int32))) (ty := .int) (C := RX6) (T := TX6) (N := 8) hx hb hts in_X6_skipBlanks_X6 tyX6 tyX6_ok nmX6 hown hK hP hD hS 0 rfl rfl 3 (by decide) lk_0 (fun _ h9 => h9) rfl (by decide +kernel) rfl rfl (Nat.le_of_ble_eq_true rfl) dX6_skipBlanks_30 (fun H locs hP hD hS => ?_)
          have hP : va_P D vwCl [(q0, .inr (6, [.ref q0_bytes, .int f0_length, v0_fault, .int (f0_place + (1 : Int32)), v0_isEquation, v0_first, v0_second, v0_rightIsOne])), (q0_bytes, .inl (cI, n0_bytes, .inl h0_bytes))] H := hP
          have hD : va_D A [(q0, .inr (6, [.ref q0_bytes, .int f0_length, v0_fault, .int (f0_place + (1 : Int32)), v0_isEquation, v0_first, v0_second, v0_rightIsOne])), (q0_bytes, .inl (cI, n0_bytes, .inl h0_bytes))] := hD
          refine lv_iinc (v := x1 + (1 : Int32)) (lv' := [(1, .int (x1 + (1 : Int32))), (0, .ref q0)]) hx hb dX6_skipBlanks_33 hl (k := 1) rfl rfl (by decide) rfl (fun ls hl => ?_)
          refine lv_goto (tgt := 2) hx hb dX6_skipBlanks_36 (by decide) ?_
          exact ih _ _ h _ _ _ hP hD hS (lv_sub hl [1, 0] rfl)
  have h := hr0
  unfold D_X6_skipBlanks at h
  refine lv_iconst (v := (0 : Int32)) hx hb dX6_skipBlanks_0 (by decide) ?_
  refine lv_istore_n (lv' := [(1, .int (0 : Int32)), (0, .ref q0)]) hx hb dX6_skipBlanks_1 rfl hl (by decide) rfl (fun ls hl => ?_)
  obtain ⟨n9, hn9⟩ := runw_some h
  exact (hloop n9) _ _ hn9 _ _ _ hP hD hS (lv_sub hl [1, 0] rfl)
theorem in_X6_fail_X6 : ∀ w ∈ wsX60, w ∈ wsX6_fail := by decide +kernel
theorem lk_0_X6_fail : Cond.fieldLink RX6 19 "ParityClauses$Tape" "fault" "I" ∈ wsX6_fail := by decide +kernel
theorem lk_1_X6_fail : Cond.fieldLink RX6 22 "ParityClauses$Tape" "place" "I" ∈ wsX6_fail := by decide +kernel
abbrev rm_X6_fail : Room := { frames := 0, cells := 0, slots := 0, locals := 0 }
set_option maxHeartbeats 4000000 in
set_option maxRecDepth 100000 in
theorem cm_X6_fail (l : Launch) (D : va_G) (cI cL : ClassId) (q0 : Nat) (f0_fault : Int32) (f0_place : Int32) (v0_bytes v0_length v0_isEquation v0_first v0_second v0_rightIsOne : Value) (x1 : Int32) (x2 : Int32) (r0 : Bool × Int32 × Int32) (hr0 : D_X6_fail f0_fault f0_place x1 x2 = some r0) (sz : Nat) : Met l yX6_fail wsX6_fail rm_X6_fail (PcW D cI cL [.ref q0, .int x1, .int x2] [(q0, .inr (6, [v0_bytes, v0_length, .int f0_fault, .int f0_place, v0_isEquation, v0_first, v0_second, v0_rightIsOne]))] sz) (QiW D [(q0, .inr (6, [v0_bytes, v0_length, .int f0_fault, .int f0_place, v0_isEquation, v0_first, v0_second, v0_rightIsOne]))] (bI r0.1) (fun _ : Unit => [(q0, .inr (6, [v0_bytes, v0_length, .int r0.2.1, .int r0.2.2, v0_isEquation, v0_first, v0_second, v0_rightIsOne]))]) tU sz) 0 0 (va_A [(q0, .inr (6, [v0_bytes, v0_length, .int f0_fault, .int f0_place, v0_isEquation, v0_first, v0_second, v0_rightIsOne]))] sz) := by
  refine Met.ofW (cc := cX6_fail) (maxL := 3) (ret := (some .boolean)) (by decide) rfl ?_
  intro p e s m args below meth c s₁ B hml hv
  obtain ⟨hargs, hsz, hP, hEV, hD0⟩ := hv
  have hx := B.exec
  have hb := B.bytes
  have hr := B.returns
  have hts := atoms_spec (ws := wsX6_fail) B.pre
  have hown : s.vm.findClass RX6 = some m.cls := findClass_of_methodNamed B.named
  have hlocks := B.notSynchronized
  have hK := hEV.K
  have lk_0 := hts _ lk_0_X6_fail
  have lk_1 := hts _ lk_1_X6_fail
  subst hsz
  unfold QiW PoW
  have hD := hD0.self (sz := s.heap.size)
  generalize hAe : va_A [(q0, .inr (6, [v0_bytes, v0_length, .int f0_fault, .int f0_place, v0_isEquation, v0_first, v0_second, v0_rightIsOne]))] s.heap.size = A at hD ⊢
  have hA : ∀ q : Nat, s.heap.size ≤ q → A q := fun q h => by rw [← hAe]; exact Or.inr h
  have hent : entryFrame m args 3 = entryFrame m ([.ref q0, .int x1, .int x2] : List Value).toArray 3 := by rw [hargs]
  rw [hent]
  refine kx_Q (fun Q hQ => ?_)
  refine kx_H (fun H hH => ?_)
  have hP : va_P D vwCl [(q0, .inr (6, [v0_bytes, v0_length, .int f0_fault, .int f0_place, v0_isEquation, v0_first, v0_second, v0_rightIsOne]))] H := by rw [hH]; exact hP
  have hS : va_S A s.heap H [] := by rw [hH]; exact va_S.rf
  have hl := lv_entry ([.ref q0, .int x1, .int x2]) (n := 3) (Nat.le_of_ble_eq_true rfl)
  rw [lg_entry_eq]
  generalize (lg_sl ([.ref q0, .int x1, .int x2]) ++ List.replicate (3 - (lg_sl ([.ref q0, .int x1, .int x2])).length) Slot.unset).toArray = ls at hl ⊢
  have hl : lv_has ls 3 [(0, .ref q0), (1, .int x1), (2, .int x2)] := hl
  have h := hr0
  unfold D_X6_fail at h
  refine lv_aload_n hx hb dX6_fail_0 rfl (lv_at hl 0 rfl) ?_
  refine lv_iload_n hx hb dX6_fail_1 rfl (lv_at hl 1 rfl) ?_
  refine va_put (D := D) (ci := 6) (v := .int x1) (ty := .int) (C := RX6) (T := TX6) (N := 8) hx hb hts in_X6_fail_X6 tyX6 tyX6_ok nmX6 hown hK hP hD hS 0 rfl rfl 2 (by decide) lk_0 (fun _ h9 => h9) rfl (by decide +kernel) rfl rfl (Nat.le_of_ble_eq_true rfl) dX6_fail_2 (fun H locs hP hD hS => ?_)
  have hP : va_P D vwCl [(q0, .inr (6, [v0_bytes, v0_length, .int x1, .int f0_place, v0_isEquation, v0_first, v0_second, v0_rightIsOne]))] H := hP
  have hD : va_D A [(q0, .inr (6, [v0_bytes, v0_length, .int x1, .int f0_place, v0_isEquation, v0_first, v0_second, v0_rightIsOne]))] := hD
  refine lv_aload_n hx hb dX6_fail_5 rfl (lv_at hl 0 rfl) ?_
  refine lv_iload_n hx hb dX6_fail_6 rfl (lv_at hl 2 rfl) ?_
  refine va_put (D := D) (ci := 6) (v := .int x2) (ty := .int) (C := RX6) (T := TX6) (N := 8) hx hb hts in_X6_fail_X6 tyX6 tyX6_ok nmX6 hown hK hP hD hS 0 rfl rfl 3 (by decide) lk_1 (fun _ h9 => h9) rfl (by decide +kernel) rfl rfl (Nat.le_of_ble_eq_true rfl) dX6_fail_7 (fun H locs hP hD hS => ?_)
  have hP : va_P D vwCl [(q0, .inr (6, [v0_bytes, v0_length, .int x1, .int x2, v0_isEquation, v0_first, v0_second, v0_rightIsOne]))] H := hP
  have hD : va_D A [(q0, .inr (6, [v0_bytes, v0_length, .int x1, .int x2, v0_isEquation, v0_first, v0_second, v0_rightIsOne]))] := hD
  refine lv_iconst (v := (0 : Int32)) hx hb dX6_fail_10 (by decide) ?_
  have h := Option.some.inj h
  subst h
  subst hQ
  exact W.zret (v := bI false) hx hb hr (bI_n false) (fun t ht hW => ⟨⟨bI false, (), rfl, ⟨rfl, trivial⟩, by rw [ht]; exact hP, hD⟩, hS.F ht⟩) hS.2.2 dX6_fail_11
abbrev rm_X6_isFigure : Room := { frames := 0, cells := 0, slots := 0, locals := 0 }
set_option maxHeartbeats 4000000 in
set_option maxRecDepth 100000 in
theorem cm_X6_isFigure (l : Launch) (D : va_G) (cI cL : ClassId) (x0 : Int32) (r0 : Bool) (hr0 : D_X6_isFigure x0 = some r0) (sz : Nat) : Met l yX6_isFigure wsX6_isFigure rm_X6_isFigure (PcW D cI cL [.int x0] [] sz) (QiW D [] (bI r0) (fun _ : Unit => []) tU sz) 0 0 (va_A [] sz) := by
  refine Met.ofW (cc := cX6_isFigure) (maxL := 1) (ret := (some .boolean)) (by decide) rfl ?_
  intro p e s m args below meth c s₁ B hml hv
  obtain ⟨hargs, hsz, hP, hEV, hD0⟩ := hv
  have hx := B.exec
  have hb := B.bytes
  have hr := B.returns
  have hts := atoms_spec (ws := wsX6_isFigure) B.pre
  have hown : s.vm.findClass RX6 = some m.cls := findClass_of_methodNamed B.named
  have hlocks := B.notSynchronized
  have hK := hEV.K
  subst hsz
  unfold QiW PoW
  have hD := hD0.self (sz := s.heap.size)
  generalize hAe : va_A [] s.heap.size = A at hD ⊢
  have hA : ∀ q : Nat, s.heap.size ≤ q → A q := fun q h => by rw [← hAe]; exact Or.inr h
  have hent : entryFrame m args 1 = entryFrame m ([.int x0] : List Value).toArray 1 := by rw [hargs]
  rw [hent]
  refine kx_Q (fun Q hQ => ?_)
  refine kx_H (fun H hH => ?_)
  have hP : va_P D vwCl [] H := by rw [hH]; exact hP
  have hS : va_S A s.heap H [] := by rw [hH]; exact va_S.rf
  have hl := lv_entry ([.int x0]) (n := 1) (Nat.le_of_ble_eq_true rfl)
  rw [lg_entry_eq]
  generalize (lg_sl ([.int x0]) ++ List.replicate (1 - (lg_sl ([.int x0])).length) Slot.unset).toArray = ls at hl ⊢
  have hl : lv_has ls 1 [(0, .int x0)] := hl
  have h := hr0
  unfold D_X6_isFigure at h
  refine lv_iload_n hx hb dX6_isFigure_0 rfl (lv_at hl 0 rfl) ?_
  refine lv_bipush (v := (48 : Int32)) hx hb dX6_isFigure_1 (by decide) ?_
  refine lv_icmp_lt (tgt := 16) hx hb dX6_isFigure_3 (by decide) (fun c_1 => ?_) (fun c_1 => ?_)
  · have k_2 : x0 < (48 : Int32) := c_1
    have h := co_t k_2 h
    refine lv_iconst (v := (0 : Int32)) hx hb dX6_isFigure_16 (by decide) ?_
    have h := Option.some.inj h
    subst h
    subst hQ
    exact W.zret (v := bI false) hx hb hr (bI_n false) (fun t ht hW => ⟨⟨bI false, (), rfl, ⟨rfl, trivial⟩, by rw [ht]; exact hP, hD⟩, hS.F ht⟩) hS.2.2 dX6_isFigure_17
  · have k_2 : ¬ (x0 < (48 : Int32)) := c_1
    have h := co_f k_2 h
    refine lv_iload_n hx hb dX6_isFigure_6 rfl (lv_at hl 0 rfl) ?_
    refine lv_bipush (v := (57 : Int32)) hx hb dX6_isFigure_7 (by decide) ?_
    refine lv_icmp_gt (tgt := 16) hx hb dX6_isFigure_9 (by decide) (fun c_3 => ?_) (fun c_3 => ?_)
    · have k_4 : (57 : Int32) < x0 := c_3
      have h := co_t k_4 h
      refine lv_iconst (v := (0 : Int32)) hx hb dX6_isFigure_16 (by decide) ?_
      have h := Option.some.inj h
      subst h
      subst hQ
      exact W.zret (v := bI false) hx hb hr (bI_n false) (fun t ht hW => ⟨⟨bI false, (), rfl, ⟨rfl, trivial⟩, by rw [ht]; exact hP, hD⟩, hS.F ht⟩) hS.2.2 dX6_isFigure_17
    · have k_4 : ¬ ((57 : Int32) < x0) := c_3
      have h := co_f k_4 h
      refine lv_iconst (v := (1 : Int32)) hx hb dX6_isFigure_12 (by decide) ?_
      refine lv_goto (tgt := 17) hx hb dX6_isFigure_13 (by decide) ?_
      have h := Option.some.inj h
      subst h
      subst hQ
      exact W.zret (v := bI true) hx hb hr (bI_n true) (fun t ht hW => ⟨⟨bI true, (), rfl, ⟨rfl, trivial⟩, by rw [ht]; exact hP, hD⟩, hS.F ht⟩) hS.2.2 dX6_isFigure_17
theorem in_X6_readNumber_X6 : ∀ w ∈ wsX60, w ∈ wsX6_readNumber := by decide +kernel
theorem lk_0_X6_readNumber : Cond.fieldLink RX6 22 "ParityClauses$Tape" "place" "I" ∈ wsX6_readNumber := by decide +kernel
theorem lk_1_X6_readNumber : Cond.methodLink RX6 79 Lib.Math.min.name ∈ wsX6_readNumber := by decide +kernel
theorem lk_2_X6_readNumber : Cond.static Lib.Math.min.name ∈ wsX6_readNumber := by decide +kernel
theorem lk_3_X6_readNumber : Cond.initialized "java/lang/Math" ∈ wsX6_readNumber := by decide +kernel
theorem lk_4_X6_readNumber : Cond.code Lib.Math.min.name Lib.Math.min.code 2 (some .int) ∈ wsX6_readNumber := by decide +kernel
abbrev rm_X6_readNumber : Room := { frames := 1, cells := 0, slots := 0, locals := 24 }
set_option maxHeartbeats 4000000 in
set_option maxRecDepth 100000 in
theorem cm_X6_readNumber (l : Launch) (D : va_G) (cI cL : ClassId) (q0 q0_bytes : Nat) (n0_bytes : Nat) (f0_length : Int32) (f0_place : Int32) (h0_bytes : Nat → Int32) (v0_fault v0_isEquation v0_first v0_second v0_rightIsOne : Value) (r0 : Int32 × Int32) (hr0 : D_X6_readNumber f0_length f0_place n0_bytes h0_bytes = some r0) (sz : Nat) : Met l yX6_readNumber wsX6_readNumber rm_X6_readNumber (PcW D cI cL [.ref q0] [(q0, .inr (6, [.ref q0_bytes, .int f0_length, v0_fault, .int f0_place, v0_isEquation, v0_first, v0_second, v0_rightIsOne])), (q0_bytes, .inl (cI, n0_bytes, .inl h0_bytes))] sz) (QiW D [(q0, .inr (6, [.ref q0_bytes, .int f0_length, v0_fault, .int f0_place, v0_isEquation, v0_first, v0_second, v0_rightIsOne])), (q0_bytes, .inl (cI, n0_bytes, .inl h0_bytes))] r0.1 (fun _ : Unit => [(q0, .inr (6, [.ref q0_bytes, .int f0_length, v0_fault, .int r0.2, v0_isEquation, v0_first, v0_second, v0_rightIsOne])), (q0_bytes, .inl (cI, n0_bytes, .inl h0_bytes))]) tU sz) 0 0 (va_A [(q0, .inr (6, [.ref q0_bytes, .int f0_length, v0_fault, .int f0_place, v0_isEquation, v0_first, v0_second, v0_rightIsOne])), (q0_bytes, .inl (cI, n0_bytes, .inl h0_bytes))] sz) := by
  refine Met.ofW (cc := cX6_readNumber) (maxL := 3) (ret := (some .int)) (by decide) rfl ?_
  intro p e s m args below meth c s₁ B hml hv
  obtain ⟨hargs, hsz, hP, hEV, hD0⟩ := hv
  have hx := B.exec
  have hb := B.bytes
  have hr := B.returns
  have hts := atoms_spec (ws := wsX6_readNumber) B.pre
  have hown : s.vm.findClass RX6 = some m.cls := findClass_of_methodNamed B.named
  have hlocks := B.notSynchronized
  have hK := hEV.K
  have lk_0 := hts _ lk_0_X6_readNumber
  have lk_1 := hts _ lk_1_X6_readNumber
  have lk_2 := hts _ lk_2_X6_readNumber
  have lk_3 := hts _ lk_3_X6_readNumber
  have lk_4 := hts _ lk_4_X6_readNumber
  subst hsz
  unfold QiW PoW
  have hD := hD0.self (sz := s.heap.size)
  generalize hAe : va_A [(q0, .inr (6, [.ref q0_bytes, .int f0_length, v0_fault, .int f0_place, v0_isEquation, v0_first, v0_second, v0_rightIsOne])), (q0_bytes, .inl (cI, n0_bytes, .inl h0_bytes))] s.heap.size = A at hD ⊢
  have hA : ∀ q : Nat, s.heap.size ≤ q → A q := fun q h => by rw [← hAe]; exact Or.inr h
  have hent : entryFrame m args 3 = entryFrame m ([.ref q0] : List Value).toArray 3 := by rw [hargs]
  rw [hent]
  refine kx_Q (fun Q hQ => ?_)
  refine kx_H (fun H hH => ?_)
  have hP : va_P D vwCl [(q0, .inr (6, [.ref q0_bytes, .int f0_length, v0_fault, .int f0_place, v0_isEquation, v0_first, v0_second, v0_rightIsOne])), (q0_bytes, .inl (cI, n0_bytes, .inl h0_bytes))] H := by rw [hH]; exact hP
  have hS : va_S A s.heap H [] := by rw [hH]; exact va_S.rf
  have hl := lv_entry ([.ref q0]) (n := 3) (Nat.le_of_ble_eq_true rfl)
  rw [lg_entry_eq]
  generalize (lg_sl ([.ref q0]) ++ List.replicate (3 - (lg_sl ([.ref q0])).length) Slot.unset).toArray = ls at hl ⊢
  have hl : lv_has ls 3 [(0, .ref q0)] := hl
  have hloop : ∀ n9 : Nat, (∀ (x1 : Int32) (x2 : Int32) (f0_place : Int32), iter (st_X6_readNumber f0_length n0_bytes h0_bytes) n9 (x1, x2, f0_place) = some r0 → ∀ (H : Heap) (locs : List Loc) (ls : Array Slot), va_P D vwCl [(q0, .inr (6, [.ref q0_bytes, .int f0_length, v0_fault, .int f0_place, v0_isEquation, v0_first, v0_second, v0_rightIsOne])), (q0_bytes, .inl (cI, n0_bytes, .inl h0_bytes))] H → va_D A [(q0, .inr (6, [.ref q0_bytes, .int f0_length, v0_fault, .int f0_place, v0_isEquation, v0_first, v0_second, v0_rightIsOne])), (q0_bytes, .inl (cI, n0_bytes, .inl h0_bytes))] → va_S A s.heap H locs → lv_has ls 3 [(0, .ref q0), (1, .int x1), (2, .int x2)] → W p l e (headSpec wsX6_readNumber rm_X6_readNumber).room s m args below meth c H locs 0 0 Q (F0 m 4 ls [])) := by
    intro n9
    induction n9 with
    | zero => exact (fun _ _ _ h => nomatch h)
    | succ n9 ih =>
      intro x1 x2 f0_place h H locs ls hP hD hS hl
      have h : run1 (iter (st_X6_readNumber f0_length n0_bytes h0_bytes) n9) (b_X6_readNumber_4 f0_length n0_bytes h0_bytes x1 x2 f0_place) = some r0 := h
      unfold b_X6_readNumber_4 at h
      refine lv_iload_n hx hb dX6_readNumber_4 rfl (lv_at hl 2 rfl) ?_
      refine lv_sipush (v := (500 : Int32)) hx hb dX6_readNumber_5 (by decide) ?_
      refine lv_icmp_ge (tgt := 63) hx hb dX6_readNumber_8 (by decide) (fun c_1 => ?_) (fun c_1 => ?_)
      · have k_2 : (500 : Int32) ≤ x2 := c_1
        have h := cw_t k_2 h
        refine lv_iload_n hx hb dX6_readNumber_63 rfl (lv_at hl 1 rfl) ?_
        have h := Option.some.inj h
        subst h
        subst hQ
        exact W.iret (v := x1) hx hb hr (fun t ht hW => ⟨⟨x1, (), rfl, ⟨rfl, trivial⟩, by rw [ht]; exact hP, hD⟩, hS.F ht⟩) hS.2.2 dX6_readNumber_64
      · have k_2 : ¬ ((500 : Int32) ≤ x2) := c_1
        have h := cw_f k_2 h
        refine lv_aload_n hx hb dX6_readNumber_11 rfl (lv_at hl 0 rfl) ?_
        refine lv_aload_n hx hb dX6_readNumber_12 rfl (lv_at hl 0 rfl) ?_
        refine va_get (D := D) (ci := 6) (v := .int f0_place) (C := RX6) (T := TX6) (N := 8) hx hb hts in_X6_readNumber_X6 hown hK hP 0 rfl rfl 3 (by decide) lk_0 (fun _ h9 => h9) rfl dX6_readNumber_13 ?_
        obtain ⟨u_3, hu_4, h⟩ := cw_b h
        refine kx_i (ws' := fun _ => [(q0, .inr (6, [.ref q0_bytes, .int f0_length, v0_fault, .int f0_place, v0_isEquation, v0_first, v0_second, v0_rightIsOne])), (q0_bytes, .inl (cI, n0_bytes, .inl h0_bytes))]) hP hD hS hA [0, 1] [] [0, 1] rfl rfl (by decide) (by decide) (fun _ => rfl) (by decide) (va_runV (As := [.int f0_place]) (rest := []) ⟨hx, hb, hml, hown, hts⟩ (cm_X6_byteAt l D cI cL (q0 := q0) (q0_bytes := q0_bytes) (n0_bytes := n0_bytes) (f0_length := f0_length) (h0_bytes := h0_bytes) (v0_fault := v0_fault) (v0_place := .int f0_place) (v0_isEquation := v0_isEquation) (v0_first := v0_first) (v0_second := v0_second) (v0_rightIsOne := v0_rightIsOne) (x1 := f0_place) (r0 := u_3) (hr0 := hu_4) (sz := H.size)) (cwV 1 hts gX6_readNumber_X6_byteAt rfl rfl rfl (by decide +kernel) ⟨Nat.le_of_ble_eq_true rfl, Nat.le_of_ble_eq_true rfl⟩) (kx_preV hEV hP hD [0, 1] rfl (by decide) (k0 := 0) (ci := 6) rfl rfl rfl) rfl rfl hl.1 rfl (lv_room (Nat.le_of_ble_eq_true rfl)) dX6_readNumber_16 ⟨Nat.le_of_ble_eq_true rfl, Nat.le_of_ble_eq_true rfl⟩) (fun _ H locs _ hP hD hS => ?_)
        obtain ⟨u_5, hu_6, h⟩ := cw_b h
        refine kx_i (ws' := fun _ => [(q0, .inr (6, [.ref q0_bytes, .int f0_length, v0_fault, .int f0_place, v0_isEquation, v0_first, v0_second, v0_rightIsOne])), (q0_bytes, .inl (cI, n0_bytes, .inl h0_bytes))]) hP hD hS hA [] [0, 1] [0, 1] rfl rfl (by decide) (by decide) (fun _ => rfl) (by decide) (va_runS (As := [.int u_3]) (rest := []) ⟨hx, hb, hml, hown, hts⟩ (cm_X6_isFigure l D cI cL (x0 := u_3) (r0 := u_5) (hr0 := hu_6) (sz := H.size)) (va_cwS 1 hts gX6_readNumber_X6_isFigure rfl rfl rfl (by decide +kernel) ⟨Nat.le_of_ble_eq_true rfl, Nat.le_of_ble_eq_true rfl⟩) (kx_preS hEV hP hD [] rfl (by decide)) rfl rfl hl.1 rfl (lv_room (Nat.le_of_ble_eq_true rfl)) dX6_readNumber_19 ⟨Nat.le_of_ble_eq_true rfl, Nat.le_of_ble_eq_true rfl⟩) (fun _ H locs _ hP hD hS => ?_)
        refine lv_if_eq (tgt := 63) hx hb dX6_readNumber_22 (by decide) (fun c_7 => ?_) (fun c_7 => ?_)
        · have k_8 : ¬ (u_5 = true) := (kx_z c_7)
          have h := cw_f k_8 h
          refine lv_iload_n hx hb dX6_readNumber_63 rfl (lv_at hl 1 rfl) ?_
          have h := Option.some.inj h
          subst h
          subst hQ
          exact W.iret (v := x1) hx hb hr (fun t ht hW => ⟨⟨x1, (), rfl, ⟨rfl, trivial⟩, by rw [ht]; exact hP, hD⟩, hS.F ht⟩) hS.2.2 dX6_readNumber_64
        · have k_8 : u_5 = true := (kx_nz c_7)
          have h := cw_t k_8 h
          refine lv_iload_n hx hb dX6_readNumber_25 rfl (lv_at hl 1 rfl) ?_
          refine lv_bipush (v := (10 : Int32)) hx hb dX6_readNumber_26 (by decide) ?_
          refine lv_imul hx hb dX6_readNumber_28 ?_
          refine lv_aload_n hx hb dX6_readNumber_29 rfl (lv_at hl 0 rfl) ?_
          refine lv_aload_n hx hb dX6_readNumber_30 rfl (lv_at hl 0 rfl) ?_
          refine va_get (D := D) (ci := 6) (v := .int f0_place) (C := RX6) (T := TX6) (N := 8) hx hb hts in_X6_readNumber_X6 hown hK hP 0 rfl rfl 3 (by decide) lk_0 (fun _ h9 => h9) rfl dX6_readNumber_31 ?_
          obtain ⟨u_9, hu_10, h⟩ := cw_b h
          refine kx_i (ws' := fun _ => [(q0, .inr (6, [.ref q0_bytes, .int f0_length, v0_fault, .int f0_place, v0_isEquation, v0_first, v0_second, v0_rightIsOne])), (q0_bytes, .inl (cI, n0_bytes, .inl h0_bytes))]) hP hD hS hA [0, 1] [] [0, 1] rfl rfl (by decide) (by decide) (fun _ => rfl) (by decide) (va_runV (As := [.int f0_place]) (rest := [.int (x1 * (10 : Int32))]) ⟨hx, hb, hml, hown, hts⟩ (cm_X6_byteAt l D cI cL (q0 := q0) (q0_bytes := q0_bytes) (n0_bytes := n0_bytes) (f0_length := f0_length) (h0_bytes := h0_bytes) (v0_fault := v0_fault) (v0_place := .int f0_place) (v0_isEquation := v0_isEquation) (v0_first := v0_first) (v0_second := v0_second) (v0_rightIsOne := v0_rightIsOne) (x1 := f0_place) (r0 := u_9) (hr0 := hu_10) (sz := H.size)) (cwV 1 hts gX6_readNumber_X6_byteAt rfl rfl rfl (by decide +kernel) ⟨Nat.le_of_ble_eq_true rfl, Nat.le_of_ble_eq_true rfl⟩) (kx_preV hEV hP hD [0, 1] rfl (by decide) (k0 := 0) (ci := 6) rfl rfl rfl) rfl rfl hl.1 rfl (lv_room (Nat.le_of_ble_eq_true rfl)) dX6_readNumber_34 ⟨Nat.le_of_ble_eq_true rfl, Nat.le_of_ble_eq_true rfl⟩) (fun _ H locs _ hP hD hS => ?_)
          refine lv_iadd hx hb dX6_readNumber_37 ?_
          refine lv_bipush (v := (48 : Int32)) hx hb dX6_readNumber_38 (by decide) ?_
          refine lv_isub hx hb dX6_readNumber_40 ?_
          refine lv_bipush (v := (41 : Int32)) hx hb dX6_readNumber_41 (by decide) ?_
          refine va_mmin hx hb (by rw [hml]; exact hl.1.symm) hown lk_1 lk_2 lk_3 lk_4 (Nat.le_of_ble_eq_true rfl) (Nat.le_of_ble_eq_true rfl) (Nat.zero_le _) (Nat.zero_le _) dX6_readNumber_43 ?_
          refine lv_istore_n (lv' := [(1, .int (jmin (((x1 * (10 : Int32)) + u_9) - (48 : Int32)) (41 : Int32))), (0, .ref q0), (2, .int x2)]) hx hb dX6_readNumber_46 rfl hl (by decide) rfl (fun ls hl => ?_)
          refine lv_aload_n hx hb dX6_readNumber_47 rfl (lv_at hl 1 rfl) ?_
          refine lv_dup hx hb dX6_readNumber_48 rfl ?_
          refine va_get (D := D) (ci := 6) (v := .int f0_place) (C := RX6) (T := TX6) (N := 8) hx hb hts in_X6_readNumber_X6 hown hK hP 0 rfl rfl 3 (by decide) lk_0 (fun _ h9 => h9) rfl dX6_readNumber_49 ?_
          refine lv_iconst (v := (1 : Int32)) hx hb dX6_readNumber_52 (by decide) ?_
          refine lv_iadd hx hb dX6_readNumber_53 ?_
          refine va_put (D := D) (ci := 6) (v := .int (f0_place + (1 : Int32))) (ty := .int) (C := RX6) (T := TX6) (N := 8) hx hb hts in_X6_readNumber_X6 tyX6 tyX6_ok nmX6 hown hK hP hD hS 0 rfl rfl 3 (by decide) lk_0 (fun _ h9 => h9) rfl (by decide +kernel) rfl rfl (Nat.le_of_ble_eq_true rfl) dX6_readNumber_54 (fun H locs hP hD hS => ?_)
          have hP : va_P D vwCl [(q0, .inr (6, [.ref q0_bytes, .int f0_length, v0_fault, .int (f0_place + (1 : Int32)), v0_isEquation, v0_first, v0_second, v0_rightIsOne])), (q0_bytes, .inl (cI, n0_bytes, .inl h0_bytes))] H := hP
          have hD : va_D A [(q0, .inr (6, [.ref q0_bytes, .int f0_length, v0_fault, .int (f0_place + (1 : Int32)), v0_isEquation, v0_first, v0_second, v0_rightIsOne])), (q0_bytes, .inl (cI, n0_bytes, .inl h0_bytes))] := hD
          refine lv_iinc (v := x2 + (1 : Int32)) (lv' := [(2, .int (x2 + (1 : Int32))), (1, .int (jmin (((x1 * (10 : Int32)) + u_9) - (48 : Int32)) (41 : Int32))), (0, .ref q0)]) hx hb dX6_readNumber_57 hl (k := 2) rfl rfl (by decide) rfl (fun ls hl => ?_)
          refine lv_goto (tgt := 4) hx hb dX6_readNumber_60 (by decide) ?_
          exact ih _ _ _ h _ _ _ hP hD hS (lv_sub hl [2, 1, 0] rfl)
  have h := hr0
  unfold D_X6_readNumber at h
  refine lv_iconst (v := (0 : Int32)) hx hb dX6_readNumber_0 (by decide) ?_
  refine lv_istore_n (lv' := [(1, .int (0 : Int32)), (0, .ref q0)]) hx hb dX6_readNumber_1 rfl hl (by decide) rfl (fun ls hl => ?_)
  refine lv_iconst (v := (0 : Int32)) hx hb dX6_readNumber_2 (by decide) ?_
  refine lv_istore_n (lv' := [(2, .int (0 : Int32)), (1, .int (0 : Int32)), (0, .ref q0)]) hx hb dX6_readNumber_3 rfl hl (by decide) rfl (fun ls hl => ?_)
  obtain ⟨n9, hn9⟩ := runw_some h
  exact (hloop n9) _ _ _ hn9 _ _ _ hP hD hS (lv_sub hl [2, 1, 0] rfl)
theorem in_X6_addLiteral_X6 : ∀ w ∈ wsX60, w ∈ wsX6_addLiteral := by decide +kernel
theorem lk_0_X6_addLiteral : Cond.fieldLink RX6 44 "ParityClauses$Tape" "isEquation" "Z" ∈ wsX6_addLiteral := by decide +kernel
theorem lk_1_X6_addLiteral : Cond.fieldLink RX6 48 "ParityClauses$Tape" "first" "J" ∈ wsX6_addLiteral := by decide +kernel
theorem lk_2_X6_addLiteral : Cond.fieldLink RX6 52 "ParityClauses$Tape" "second" "J" ∈ wsX6_addLiteral := by decide +kernel
theorem lk_3_X6_addLiteral : Cond.fieldLink RX6 55 "ParityClauses$Tape" "rightIsOne" "Z" ∈ wsX6_addLiteral := by decide +kernel
abbrev rm_X6_addLiteral : Room := { frames := 0, cells := 0, slots := 0, locals := 0 }
set_option maxHeartbeats 4000000 in
set_option maxRecDepth 100000 in
theorem cm_X6_addLiteral (l : Launch) (D : va_G) (cI cL : ClassId) (q0 : Nat) (f0_isEquation : Bool) (f0_first : Int64) (f0_second : Int64) (f0_rightIsOne : Bool) (v0_bytes v0_length v0_fault v0_place : Value) (x1 : Int64) (x3 : Bool) (r0 : Int64 × Int64 × Bool) (hr0 : D_X6_addLiteral f0_isEquation f0_first f0_second f0_rightIsOne x1 x3 = some r0) (sz : Nat) : Met l yX6_addLiteral wsX6_addLiteral rm_X6_addLiteral (PcW D cI cL [.ref q0, .long x1, .int (bI x3)] [(q0, .inr (6, [v0_bytes, v0_length, v0_fault, v0_place, .int (bI f0_isEquation), .long f0_first, .long f0_second, .int (bI f0_rightIsOne)]))] sz) (QvW D [(q0, .inr (6, [v0_bytes, v0_length, v0_fault, v0_place, .int (bI f0_isEquation), .long f0_first, .long f0_second, .int (bI f0_rightIsOne)]))] (fun _ : Unit => [(q0, .inr (6, [v0_bytes, v0_length, v0_fault, v0_place, .int (bI f0_isEquation), .long r0.1, .long r0.2.1, .int (bI r0.2.2)]))]) tU sz) 0 0 (va_A [(q0, .inr (6, [v0_bytes, v0_length, v0_fault, v0_place, .int (bI f0_isEquation), .long f0_first, .long f0_second, .int (bI f0_rightIsOne)]))] sz) := by
  refine Met.ofW (cc := cX6_addLiteral) (maxL := 4) (ret := none) (by decide) rfl ?_
  intro p e s m args below meth c s₁ B hml hv
  obtain ⟨hargs, hsz, hP, hEV, hD0⟩ := hv
  have hx := B.exec
  have hb := B.bytes
  have hr := B.returns
  have hts := atoms_spec (ws := wsX6_addLiteral) B.pre
  have hown : s.vm.findClass RX6 = some m.cls := findClass_of_methodNamed B.named
  have hlocks := B.notSynchronized
  have hK := hEV.K
  have lk_0 := hts _ lk_0_X6_addLiteral
  have lk_1 := hts _ lk_1_X6_addLiteral
  have lk_2 := hts _ lk_2_X6_addLiteral
  have lk_3 := hts _ lk_3_X6_addLiteral
  subst hsz
  unfold QvW PoW
  have hD := hD0.self (sz := s.heap.size)
  generalize hAe : va_A [(q0, .inr (6, [v0_bytes, v0_length, v0_fault, v0_place, .int (bI f0_isEquation), .long f0_first, .long f0_second, .int (bI f0_rightIsOne)]))] s.heap.size = A at hD ⊢
  have hA : ∀ q : Nat, s.heap.size ≤ q → A q := fun q h => by rw [← hAe]; exact Or.inr h
  have hent : entryFrame m args 4 = entryFrame m ([.ref q0, .long x1, .int (bI x3)] : List Value).toArray 4 := by rw [hargs]
  rw [hent]
  refine kx_Q (fun Q hQ => ?_)
  refine kx_H (fun H hH => ?_)
  have hP : va_P D vwCl [(q0, .inr (6, [v0_bytes, v0_length, v0_fault, v0_place, .int (bI f0_isEquation), .long f0_first, .long f0_second, .int (bI f0_rightIsOne)]))] H := by rw [hH]; exact hP
  have hS : va_S A s.heap H [] := by rw [hH]; exact va_S.rf
  have hl := lv_entry ([.ref q0, .long x1, .int (bI x3)]) (n := 4) (Nat.le_of_ble_eq_true rfl)
  rw [lg_entry_eq]
  generalize (lg_sl ([.ref q0, .long x1, .int (bI x3)]) ++ List.replicate (4 - (lg_sl ([.ref q0, .long x1, .int (bI x3)])).length) Slot.unset).toArray = ls at hl ⊢
  have hl : lv_has ls 4 [(0, .ref q0), (1, .long x1), (3, .int (bI x3))] := hl
  have h := hr0
  unfold D_X6_addLiteral at h
  refine lv_aload_n hx hb dX6_addLiteral_0 rfl (lv_at hl 0 rfl) ?_
  refine va_get (D := D) (ci := 6) (v := .int (bI f0_isEquation)) (C := RX6) (T := TX6) (N := 8) hx hb hts in_X6_addLiteral_X6 hown hK hP 0 rfl rfl 4 (by decide) lk_0 (fun _ h9 => h9) rfl dX6_addLiteral_1 ?_
  refine lv_if_eq (tgt := 37) hx hb dX6_addLiteral_4 (by decide) (fun c_1 => ?_) (fun c_1 => ?_)
  · have k_2 : ¬ (f0_isEquation = true) := (kx_z c_1)
    have h := co_f k_2 h
    refine lv_iload_n hx hb dX6_addLiteral_37 rfl (lv_at hl 2 rfl) ?_
    refine lv_if_eq (tgt := 54) hx hb dX6_addLiteral_38 (by decide) (fun c_3 => ?_) (fun c_3 => ?_)
    · have k_4 : ¬ (x3 = true) := (kx_z c_3)
      have h := co_f k_4 h
      refine lv_aload_n hx hb dX6_addLiteral_54 rfl (lv_at hl 0 rfl) ?_
      refine lv_dup hx hb dX6_addLiteral_55 rfl ?_
      refine va_get (D := D) (ci := 6) (v := .long f0_first) (C := RX6) (T := TX6) (N := 8) hx hb hts in_X6_addLiteral_X6 hown hK hP 0 rfl rfl 5 (by decide) lk_1 (fun _ h9 => h9) rfl dX6_addLiteral_56 ?_
      refine lv_lload_n hx hb dX6_addLiteral_59 rfl (lv_at hl 1 rfl) ?_
      refine lv_lor hx hb dX6_addLiteral_60 ?_
      refine va_put (D := D) (ci := 6) (v := .long (f0_first ||| x1)) (ty := .long) (C := RX6) (T := TX6) (N := 8) hx hb hts in_X6_addLiteral_X6 tyX6 tyX6_ok nmX6 hown hK hP hD hS 0 rfl rfl 5 (by decide) lk_1 (fun _ h9 => h9) rfl (by decide +kernel) rfl rfl (Nat.le_of_ble_eq_true rfl) dX6_addLiteral_61 (fun H locs hP hD hS => ?_)
      have hP : va_P D vwCl [(q0, .inr (6, [v0_bytes, v0_length, v0_fault, v0_place, .int (bI f0_isEquation), .long (f0_first ||| x1), .long f0_second, .int (bI f0_rightIsOne)]))] H := hP
      have hD : va_D A [(q0, .inr (6, [v0_bytes, v0_length, v0_fault, v0_place, .int (bI f0_isEquation), .long (f0_first ||| x1), .long f0_second, .int (bI f0_rightIsOne)]))] := hD
      have h := Option.some.inj h
      subst h
      subst hQ
      exact W.vret hx hb hr (fun t ht hW => ⟨⟨(), rfl, trivial, by rw [ht]; exact hP, hD⟩, hS.F ht⟩) hS.2.2 dX6_addLiteral_64
    · have k_4 : x3 = true := (kx_nz c_3)
      have h := co_t k_4 h
      refine lv_aload_n hx hb dX6_addLiteral_41 rfl (lv_at hl 0 rfl) ?_
      refine lv_dup hx hb dX6_addLiteral_42 rfl ?_
      refine va_get (D := D) (ci := 6) (v := .long f0_second) (C := RX6) (T := TX6) (N := 8) hx hb hts in_X6_addLiteral_X6 hown hK hP 0 rfl rfl 6 (by decide) lk_2 (fun _ h9 => h9) rfl dX6_addLiteral_43 ?_
      refine lv_lload_n hx hb dX6_addLiteral_46 rfl (lv_at hl 1 rfl) ?_
      refine lv_lor hx hb dX6_addLiteral_47 ?_
      refine va_put (D := D) (ci := 6) (v := .long (f0_second ||| x1)) (ty := .long) (C := RX6) (T := TX6) (N := 8) hx hb hts in_X6_addLiteral_X6 tyX6 tyX6_ok nmX6 hown hK hP hD hS 0 rfl rfl 6 (by decide) lk_2 (fun _ h9 => h9) rfl (by decide +kernel) rfl rfl (Nat.le_of_ble_eq_true rfl) dX6_addLiteral_48 (fun H locs hP hD hS => ?_)
      have hP : va_P D vwCl [(q0, .inr (6, [v0_bytes, v0_length, v0_fault, v0_place, .int (bI f0_isEquation), .long f0_first, .long (f0_second ||| x1), .int (bI f0_rightIsOne)]))] H := hP
      have hD : va_D A [(q0, .inr (6, [v0_bytes, v0_length, v0_fault, v0_place, .int (bI f0_isEquation), .long f0_first, .long (f0_second ||| x1), .int (bI f0_rightIsOne)]))] := hD
      refine lv_goto (tgt := 64) hx hb dX6_addLiteral_51 (by decide) ?_
      have h := Option.some.inj h
      subst h
      subst hQ
      exact W.vret hx hb hr (fun t ht hW => ⟨⟨(), rfl, trivial, by rw [ht]; exact hP, hD⟩, hS.F ht⟩) hS.2.2 dX6_addLiteral_64
  · have k_2 : f0_isEquation = true := (kx_nz c_1)
    have h := co_t k_2 h
    refine lv_aload_n hx hb dX6_addLiteral_7 rfl (lv_at hl 0 rfl) ?_
    refine lv_dup hx hb dX6_addLiteral_8 rfl ?_
    refine va_get (D := D) (ci := 6) (v := .long f0_first) (C := RX6) (T := TX6) (N := 8) hx hb hts in_X6_addLiteral_X6 hown hK hP 0 rfl rfl 5 (by decide) lk_1 (fun _ h9 => h9) rfl dX6_addLiteral_9 ?_
    refine lv_lload_n hx hb dX6_addLiteral_12 rfl (lv_at hl 1 rfl) ?_
    refine lv_lxor hx hb dX6_addLiteral_13 ?_
    refine va_put (D := D) (ci := 6) (v := .long (f0_first ^^^ x1)) (ty := .long) (C := RX6) (T := TX6) (N := 8) hx hb hts in_X6_addLiteral_X6 tyX6 tyX6_ok nmX6 hown hK hP hD hS 0 rfl rfl 5 (by decide) lk_1 (fun _ h9 => h9) rfl (by decide +kernel) rfl rfl (Nat.le_of_ble_eq_true rfl) dX6_addLiteral_14 (fun H locs hP hD hS => ?_)
    have hP : va_P D vwCl [(q0, .inr (6, [v0_bytes, v0_length, v0_fault, v0_place, .int (bI f0_isEquation), .long (f0_first ^^^ x1), .long f0_second, .int (bI f0_rightIsOne)]))] H := hP
    have hD : va_D A [(q0, .inr (6, [v0_bytes, v0_length, v0_fault, v0_place, .int (bI f0_isEquation), .long (f0_first ^^^ x1), .long f0_second, .int (bI f0_rightIsOne)]))] := hD
    refine lv_aload_n hx hb dX6_addLiteral_17 rfl (lv_at hl 0 rfl) ?_
    refine lv_aload_n hx hb dX6_addLiteral_18 rfl (lv_at hl 0 rfl) ?_
    refine va_get (D := D) (ci := 6) (v := .int (bI f0_rightIsOne)) (C := RX6) (T := TX6) (N := 8) hx hb hts in_X6_addLiteral_X6 hown hK hP 0 rfl rfl 7 (by decide) lk_3 (fun _ h9 => h9) rfl dX6_addLiteral_19 ?_
    refine lv_iload_n hx hb dX6_addLiteral_22 rfl (lv_at hl 2 rfl) ?_
    refine lv_icmp_eq (tgt := 30) hx hb dX6_addLiteral_23 (by decide) (fun c_5 => ?_) (fun c_5 => ?_)
    · have k_6 : (bI f0_rightIsOne) = (bI x3) := c_5
      have h := co_t k_6 h
      refine lv_iconst (v := (0 : Int32)) hx hb dX6_addLiteral_30 (by decide) ?_
      refine va_put (D := D) (ci := 6) (v := .int (bI false)) (ty := .boolean) (C := RX6) (T := TX6) (N := 8) hx hb hts in_X6_addLiteral_X6 tyX6 tyX6_ok nmX6 hown hK hP hD hS 0 rfl rfl 7 (by decide) lk_3 (fun _ h9 => h9) rfl (by decide +kernel) (bI_n false) (bI_fit false) (Nat.le_of_ble_eq_true rfl) dX6_addLiteral_31 (fun H locs hP hD hS => ?_)
      have hP : va_P D vwCl [(q0, .inr (6, [v0_bytes, v0_length, v0_fault, v0_place, .int (bI f0_isEquation), .long (f0_first ^^^ x1), .long f0_second, .int (bI false)]))] H := hP
      have hD : va_D A [(q0, .inr (6, [v0_bytes, v0_length, v0_fault, v0_place, .int (bI f0_isEquation), .long (f0_first ^^^ x1), .long f0_second, .int (bI false)]))] := hD
      refine lv_goto (tgt := 64) hx hb dX6_addLiteral_34 (by decide) ?_
      have h := Option.some.inj h
      subst h
      subst hQ
      exact W.vret hx hb hr (fun t ht hW => ⟨⟨(), rfl, trivial, by rw [ht]; exact hP, hD⟩, hS.F ht⟩) hS.2.2 dX6_addLiteral_64
    · have k_6 : ¬ ((bI f0_rightIsOne) = (bI x3)) := c_5
      have h := co_f k_6 h
      refine lv_iconst (v := (1 : Int32)) hx hb dX6_addLiteral_26 (by decide) ?_
      refine lv_goto (tgt := 31) hx hb dX6_addLiteral_27 (by decide) ?_
      refine va_put (D := D) (ci := 6) (v := .int (bI true)) (ty := .boolean) (C := RX6) (T := TX6) (N := 8) hx hb hts in_X6_addLiteral_X6 tyX6 tyX6_ok nmX6 hown hK hP hD hS 0 rfl rfl 7 (by decide) lk_3 (fun _ h9 => h9) rfl (by decide +kernel) (bI_n true) (bI_fit true) (Nat.le_of_ble_eq_true rfl) dX6_addLiteral_31 (fun H locs hP hD hS => ?_)
      have hP : va_P D vwCl [(q0, .inr (6, [v0_bytes, v0_length, v0_fault, v0_place, .int (bI f0_isEquation), .long (f0_first ^^^ x1), .long f0_second, .int (bI true)]))] H := hP
      have hD : va_D A [(q0, .inr (6, [v0_bytes, v0_length, v0_fault, v0_place, .int (bI f0_isEquation), .long (f0_first ^^^ x1), .long f0_second, .int (bI true)]))] := hD
      refine lv_goto (tgt := 64) hx hb dX6_addLiteral_34 (by decide) ?_
      have h := Option.some.inj h
      subst h
      subst hQ
      exact W.vret hx hb hr (fun t ht hW => ⟨⟨(), rfl, trivial, by rw [ht]; exact hP, hD⟩, hS.F ht⟩) hS.2.2 dX6_addLiteral_64
