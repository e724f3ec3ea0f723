theorem in_X5_hasOneValue_X2 : ∀ w ∈ wsX20, w ∈ wsX5_hasOneValue := by decide +kernel
theorem in_X5_hasOneValue_X5 : ∀ w ∈ wsX50, w ∈ wsX5_hasOneValue := by decide +kernel
theorem lk_0_X5_hasOneValue : Cond.fieldLink RX5 20 "ParityClauses$Taking" "rows" "LParityClauses$Rows;" ∈ wsX5_hasOneValue := by decide +kernel
theorem lk_1_X5_hasOneValue : Cond.fieldLink RX5 46 "ParityClauses$Rows" "byHead" "[J" ∈ wsX5_hasOneValue := by decide +kernel
theorem lk_2_X5_hasOneValue : Cond.constantLong RX5 71 (-4611686018427387905) ∈ wsX5_hasOneValue := by decide +kernel
abbrev rm_X5_hasOneValue : Room := { frames := 0, cells := 0, slots := 0, locals := 0 }
set_option maxHeartbeats 4000000 in
set_option maxRecDepth 100000 in
theorem cm_X5_hasOneValue (l : Launch) (D : va_G) (cI cL : ClassId) (q0 q0_rows q0_rows_byHead : Nat) (n0_rows_byHead : Nat) (h0_rows_byHead : Nat → Int64) (v0_n v0_taken v0_ones v0_rows_n v0_rows_impossible : Value) (x1 : Int32) (r0 : Bool) (hr0 : D_X5_hasOneValue n0_rows_byHead h0_rows_byHead x1 = some r0) (sz : Nat) : Met l yX5_hasOneValue wsX5_hasOneValue rm_X5_hasOneValue (PcW D cI cL [.ref q0, .int x1] [(q0, .inr (5, [v0_n, .ref q0_rows, v0_taken, v0_ones])), (q0_rows, .inr (2, [v0_rows_n, .ref q0_rows_byHead, v0_rows_impossible])), (q0_rows_byHead, .inl (cL, n0_rows_byHead, .inr (.inl h0_rows_byHead)))] sz) (QiW D [(q0, .inr (5, [v0_n, .ref q0_rows, v0_taken, v0_ones])), (q0_rows, .inr (2, [v0_rows_n, .ref q0_rows_byHead, v0_rows_impossible])), (q0_rows_byHead, .inl (cL, n0_rows_byHead, .inr (.inl h0_rows_byHead)))] (bI r0) (fun _ : Unit => [(q0, .inr (5, [v0_n, .ref q0_rows, v0_taken, v0_ones])), (q0_rows, .inr (2, [v0_rows_n, .ref q0_rows_byHead, v0_rows_impossible])), (q0_rows_byHead, .inl (cL, n0_rows_byHead, .inr (.inl h0_rows_byHead)))]) tU sz) 0 0 (va_A [(q0, .inr (5, [v0_n, .ref q0_rows, v0_taken, v0_ones])), (q0_rows, .inr (2, [v0_rows_n, .ref q0_rows_byHead, v0_rows_impossible])), (q0_rows_byHead, .inl (cL, n0_rows_byHead, .inr (.inl h0_rows_byHead)))] sz) := by
  refine Met.ofW (cc := cX5_hasOneValue) (maxL := 2) (ret := (some .boolean)) (by decide) rfl ?_
  intro p e s m args below meth c s₁ B hml hv
  obtain ⟨hargs, hsz, hP, hEV, hD0⟩ := hv
  have hx := B.exec
  have hb := B.bytes
  have hr := B.returns
  have hts := atoms_spec (ws := wsX5_hasOneValue) B.pre
  have hown : s.vm.findClass RX5 = some m.cls := findClass_of_methodNamed B.named
  have hlocks := B.notSynchronized
  have hK := hEV.K
  have lk_0 := hts _ lk_0_X5_hasOneValue
  have lk_1 := hts _ lk_1_X5_hasOneValue
  have lk_2 := hts _ lk_2_X5_hasOneValue
  subst hsz
  unfold QiW PoW
  have hD := hD0.self (sz := s.heap.size)
  generalize hAe : va_A [(q0, .inr (5, [v0_n, .ref q0_rows, v0_taken, v0_ones])), (q0_rows, .inr (2, [v0_rows_n, .ref q0_rows_byHead, v0_rows_impossible])), (q0_rows_byHead, .inl (cL, n0_rows_byHead, .inr (.inl h0_rows_byHead)))] s.heap.size = A at hD ⊢
  have hA : ∀ q : Nat, s.heap.size ≤ q → A q := fun q h => by rw [← hAe]; exact Or.inr h
  have hent : entryFrame m args 2 = entryFrame m ([.ref q0, .int x1] : List Value).toArray 2 := by rw [hargs]
  rw [hent]
  refine kx_Q (fun Q hQ => ?_)
  refine kx_H (fun H hH => ?_)
  have hP : va_P D vwCl [(q0, .inr (5, [v0_n, .ref q0_rows, v0_taken, v0_ones])), (q0_rows, .inr (2, [v0_rows_n, .ref q0_rows_byHead, v0_rows_impossible])), (q0_rows_byHead, .inl (cL, n0_rows_byHead, .inr (.inl h0_rows_byHead)))] H := by rw [hH]; exact hP
  have hS : va_S A s.heap H [] := by rw [hH]; exact va_S.rf
  have hl := lv_entry ([.ref q0, .int x1]) (n := 2) (Nat.le_of_ble_eq_true rfl)
  rw [lg_entry_eq]
  generalize (lg_sl ([.ref q0, .int x1]) ++ List.replicate (2 - (lg_sl ([.ref q0, .int x1])).length) Slot.unset).toArray = ls at hl ⊢
  have hl : lv_has ls 2 [(0, .ref q0), (1, .int x1)] := hl
  have h := hr0
  unfold D_X5_hasOneValue at h
  refine lv_aload_n hx hb dX5_hasOneValue_0 rfl (lv_at hl 0 rfl) ?_
  refine va_get (D := D) (ci := 5) (v := .ref q0_rows) (C := RX5) (T := TX5) (N := 4) hx hb hts in_X5_hasOneValue_X5 hown hK hP 0 rfl rfl 1 (by decide) lk_0 (fun _ h9 => h9) rfl dX5_hasOneValue_1 ?_
  refine va_get (D := D) (ci := 2) (v := .ref q0_rows_byHead) (C := RX2) (T := TX2) (N := 3) hx hb hts in_X5_hasOneValue_X2 hown hK hP 1 rfl rfl 1 (by decide) lk_1 (fun _ h9 => h9) rfl dX5_hasOneValue_4 ?_
  refine lv_iload_n hx hb dX5_hasOneValue_7 rfl (lv_at hl 1 rfl) ?_
  obtain ⟨b_1, h⟩ := co_i h
  refine va_lald hx hb hK hP 2 1 rfl rfl b_1 dX5_hasOneValue_8 ?_
  refine lv_ldc2 hx hb hown lk_2 dX5_hasOneValue_9 ?_
  refine lv_land hx hb dX5_hasOneValue_12 ?_
  refine lv_lconst (v := (1 : Int64)) hx hb dX5_hasOneValue_13 (by decide) ?_
  refine lv_iload_n hx hb dX5_hasOneValue_14 rfl (lv_at hl 1 rfl) ?_
  refine lv_lshl (v := jshl (1 : Int64) x1) hx hb dX5_hasOneValue_15 rfl ?_
  refine W.lcmp hx hb dX5_hasOneValue_16 ?_
  refine lv_if_ne (tgt := 24) hx hb dX5_hasOneValue_17 (by decide) (fun c_2 => ?_) (fun c_2 => ?_)
  · have k_3 : ¬ (((h0_rows_byHead x1.toNatClampNeg) &&& (-4611686018427387905 : Int64)) = (jshl (1 : Int64) x1)) := (fun z9 => c_2 ((lg_cmp_eq _ _).mpr z9))
    have h := co_f k_3 h
    refine lv_iconst (v := (0 : Int32)) hx hb dX5_hasOneValue_24 (by decide) ?_
    have h := Option.some.inj h
    subst h
    subst hQ
    exact W.zret (v := bI false) hx hb hr (bI_n false) (fun t ht hW => ⟨⟨bI false, (), rfl, ⟨rfl, trivial⟩, by rw [ht]; exact hP, hD⟩, hS.F ht⟩) hS.2.2 dX5_hasOneValue_25
  · have k_3 : ((h0_rows_byHead x1.toNatClampNeg) &&& (-4611686018427387905 : Int64)) = (jshl (1 : Int64) x1) := ((lg_cmp_eq _ _).mp c_2)
    have h := co_t k_3 h
    refine lv_iconst (v := (1 : Int32)) hx hb dX5_hasOneValue_20 (by decide) ?_
    refine lv_goto (tgt := 25) hx hb dX5_hasOneValue_21 (by decide) ?_
    have h := Option.some.inj h
    subst h
    subst hQ
    exact W.zret (v := bI true) hx hb hr (bI_n true) (fun t ht hW => ⟨⟨bI true, (), rfl, ⟨rfl, trivial⟩, by rw [ht]; exact hP, hD⟩, hS.F ht⟩) hS.2.2 dX5_hasOneValue_25
theorem in_X5_take_X5 : ∀ w ∈ wsX50, w ∈ wsX5_take := by decide +kernel
theorem lk_0_X5_take : Cond.fieldLink RX5 28 "ParityClauses$Taking" "taken" "J" ∈ wsX5_take := by decide +kernel
theorem lk_1_X5_take : Cond.fieldLink RX5 20 "ParityClauses$Taking" "rows" "LParityClauses$Rows;" ∈ wsX5_take := by decide +kernel
theorem lk_2_X5_take : Cond.fieldLink RX5 32 "ParityClauses$Taking" "ones" "J" ∈ wsX5_take := by decide +kernel
abbrev rm_X5_take : Room := { frames := 3, cells := 0, slots := 0, locals := 74 }
set_option maxHeartbeats 4000000 in
set_option maxRecDepth 100000 in
theorem cm_X5_take (l : Launch) (D : va_G) (cI cL : ClassId) (q0 q0_rows q0_rows_byHead : Nat) (n0_rows_byHead : Nat) (f0_taken : Int64) (f0_ones : Int64) (f0_rows_n : Int32) (f0_rows_impossible : Bool) (h0_rows_byHead : Nat → Int64) (v0_n : Value) (x1 : Int32) (x2 : Bool) (r0 : Int64 × Int64 × Bool × (Nat → Int64)) (hr0 : D_X5_take f0_taken f0_ones f0_rows_n f0_rows_impossible n0_rows_byHead h0_rows_byHead x1 x2 = some r0) (sz : Nat) : Met l yX5_take wsX5_take rm_X5_take (PcW D cI cL [.ref q0, .int x1, .int (bI x2)] [(q0, .inr (5, [v0_n, .ref q0_rows, .long f0_taken, .long f0_ones])), (q0_rows, .inr (2, [.int f0_rows_n, .ref q0_rows_byHead, .int (bI f0_rows_impossible)])), (q0_rows_byHead, .inl (cL, n0_rows_byHead, .inr (.inl h0_rows_byHead)))] sz) (QvW D [(q0, .inr (5, [v0_n, .ref q0_rows, .long f0_taken, .long f0_ones])), (q0_rows, .inr (2, [.int f0_rows_n, .ref q0_rows_byHead, .int (bI f0_rows_impossible)])), (q0_rows_byHead, .inl (cL, n0_rows_byHead, .inr (.inl h0_rows_byHead)))] (fun _ : Unit => [(q0, .inr (5, [v0_n, .ref q0_rows, .long r0.1, .long r0.2.1])), (q0_rows, .inr (2, [.int f0_rows_n, .ref q0_rows_byHead, .int (bI r0.2.2.1)])), (q0_rows_byHead, .inl (cL, n0_rows_byHead, .inr (.inl r0.2.2.2)))]) tU sz) 0 0 (va_A [(q0, .inr (5, [v0_n, .ref q0_rows, .long f0_taken, .long f0_ones])), (q0_rows, .inr (2, [.int f0_rows_n, .ref q0_rows_byHead, .int (bI f0_rows_impossible)])), (q0_rows_byHead, .inl (cL, n0_rows_byHead, .inr (.inl h0_rows_byHead)))] sz) := by
  refine Met.ofW (cc := cX5_take) (maxL := 5) (ret := none) (by decide) rfl ?_
  intro p e s m args below meth c s₁ B hml hv
  obtain ⟨hargs, hsz, hP, hEV, hD0⟩ := hv
  have hx := B.exec
  have hb := B.bytes
  have hr := B.returns
  have hts := atoms_spec (ws := wsX5_take) B.pre
  have hown : s.vm.findClass RX5 = some m.cls := findClass_of_methodNamed B.named
  have hlocks := B.notSynchronized
  have hK := hEV.K
  have lk_0 := hts _ lk_0_X5_take
  have lk_1 := hts _ lk_1_X5_take
  have lk_2 := hts _ lk_2_X5_take
  subst hsz
  unfold QvW PoW
  have hD := hD0.self (sz := s.heap.size)
  generalize hAe : va_A [(q0, .inr (5, [v0_n, .ref q0_rows, .long f0_taken, .long f0_ones])), (q0_rows, .inr (2, [.int f0_rows_n, .ref q0_rows_byHead, .int (bI f0_rows_impossible)])), (q0_rows_byHead, .inl (cL, n0_rows_byHead, .inr (.inl h0_rows_byHead)))] s.heap.size = A at hD ⊢
  have hA : ∀ q : Nat, s.heap.size ≤ q → A q := fun q h => by rw [← hAe]; exact Or.inr h
  have hent : entryFrame m args 5 = entryFrame m ([.ref q0, .int x1, .int (bI x2)] : List Value).toArray 5 := by rw [hargs]
  rw [hent]
  refine kx_Q (fun Q hQ => ?_)
  refine kx_H (fun H hH => ?_)
  have hP : va_P D vwCl [(q0, .inr (5, [v0_n, .ref q0_rows, .long f0_taken, .long f0_ones])), (q0_rows, .inr (2, [.int f0_rows_n, .ref q0_rows_byHead, .int (bI f0_rows_impossible)])), (q0_rows_byHead, .inl (cL, n0_rows_byHead, .inr (.inl h0_rows_byHead)))] H := by rw [hH]; exact hP
  have hS : va_S A s.heap H [] := by rw [hH]; exact va_S.rf
  have hl := lv_entry ([.ref q0, .int x1, .int (bI x2)]) (n := 5) (Nat.le_of_ble_eq_true rfl)
  rw [lg_entry_eq]
  generalize (lg_sl ([.ref q0, .int x1, .int (bI x2)]) ++ List.replicate (5 - (lg_sl ([.ref q0, .int x1, .int (bI x2)])).length) Slot.unset).toArray = ls at hl ⊢
  have hl : lv_has ls 5 [(0, .ref q0), (1, .int x1), (2, .int (bI x2))] := hl
  have h := hr0
  unfold D_X5_take at h
  refine lv_lconst (v := (1 : Int64)) hx hb dX5_take_0 (by decide) ?_
  refine lv_iload_n hx hb dX5_take_1 rfl (lv_at hl 1 rfl) ?_
  refine lv_lshl (v := jshl (1 : Int64) x1) hx hb dX5_take_2 rfl ?_
  refine lv_lstore_n (lv' := [(3, .long (jshl (1 : Int64) x1)), (0, .ref q0), (1, .int x1), (2, .int (bI x2))]) hx hb dX5_take_3 rfl hl (by decide) rfl (fun ls hl => ?_)
  refine lv_aload_n hx hb dX5_take_4 rfl (lv_at hl 1 rfl) ?_
  refine lv_dup hx hb dX5_take_5 rfl ?_
  refine va_get (D := D) (ci := 5) (v := .long f0_taken) (C := RX5) (T := TX5) (N := 4) hx hb hts in_X5_take_X5 hown hK hP 0 rfl rfl 2 (by decide) lk_0 (fun _ h9 => h9) rfl dX5_take_6 ?_
  refine lv_lload_n hx hb dX5_take_9 rfl (lv_at hl 0 rfl) ?_
  refine lv_lor hx hb dX5_take_10 ?_
  refine va_put (D := D) (ci := 5) (v := .long (f0_taken ||| (jshl (1 : Int64) x1))) (ty := .long) (C := RX5) (T := TX5) (N := 4) hx hb hts in_X5_take_X5 tyX5 tyX5_ok nmX5 hown hK hP hD hS 0 rfl rfl 2 (by decide) lk_0 (fun _ h9 => h9) rfl (by decide +kernel) rfl rfl (Nat.le_of_ble_eq_true rfl) dX5_take_11 (fun H locs hP hD hS => ?_)
  have hP : va_P D vwCl [(q0, .inr (5, [v0_n, .ref q0_rows, .long (f0_taken ||| (jshl (1 : Int64) x1)), .long f0_ones])), (q0_rows, .inr (2, [.int f0_rows_n, .ref q0_rows_byHead, .int (bI f0_rows_impossible)])), (q0_rows_byHead, .inl (cL, n0_rows_byHead, .inr (.inl h0_rows_byHead)))] H := hP
  have hD : va_D A [(q0, .inr (5, [v0_n, .ref q0_rows, .long (f0_taken ||| (jshl (1 : Int64) x1)), .long f0_ones])), (q0_rows, .inr (2, [.int f0_rows_n, .ref q0_rows_byHead, .int (bI f0_rows_impossible)])), (q0_rows_byHead, .inl (cL, n0_rows_byHead, .inr (.inl h0_rows_byHead)))] := hD
  refine lv_iload_n hx hb dX5_take_14 rfl (lv_at hl 3 rfl) ?_
  refine lv_if_eq (tgt := 28) hx hb dX5_take_15 (by decide) (fun c_1 => ?_) (fun c_1 => ?_)
  · have k_2 : ¬ (x2 = true) := (kx_z c_1)
    have h := co_f k_2 h
    refine lv_aload_n hx hb dX5_take_28 rfl (lv_at hl 1 rfl) ?_
    refine va_get (D := D) (ci := 5) (v := .ref q0_rows) (C := RX5) (T := TX5) (N := 4) hx hb hts in_X5_take_X5 hown hK hP 0 rfl rfl 1 (by decide) lk_1 (fun _ h9 => h9) rfl dX5_take_29 ?_
    refine lv_iload_n hx hb dX5_take_32 rfl (lv_at hl 2 rfl) ?_
    refine lv_iload_n hx hb dX5_take_33 rfl (lv_at hl 3 rfl) ?_
    obtain ⟨u_3, hu_4, h⟩ := co_b h
    refine kx_v (ws' := fun _ => [(q0, .inr (5, [v0_n, .ref q0_rows, .long (f0_taken ||| (jshl (1 : Int64) x1)), .long f0_ones])), (q0_rows, .inr (2, [.int f0_rows_n, .ref q0_rows_byHead, .int (bI u_3.1)])), (q0_rows_byHead, .inl (cL, n0_rows_byHead, .inr (.inl u_3.2)))]) hP hD hS hA [1, 2] [0] [0, 1, 2] rfl rfl (by decide) (by decide) (fun _ => rfl) (by decide) (va_runV (As := [.int x1, .int (bI x2)]) (rest := []) ⟨hx, hb, hml, hown, hts⟩ (cm_X2_settle l D cI cL (q0 := q0_rows) (q0_byHead := q0_rows_byHead) (n0_byHead := n0_rows_byHead) (f0_n := f0_rows_n) (f0_impossible := f0_rows_impossible) (h0_byHead := h0_rows_byHead) (x1 := x1) (x2 := x2) (r0 := u_3) (hr0 := hu_4) (sz := H.size)) (cwV 2 hts gX5_take_X2_settle rfl rfl rfl (by decide +kernel) ⟨Nat.le_of_ble_eq_true rfl, Nat.le_of_ble_eq_true rfl⟩) (kx_preV hEV hP hD [1, 2] rfl (by decide) (k0 := 1) (ci := 2) rfl rfl rfl) rfl rfl hl.1 rfl (lv_room (Nat.le_of_ble_eq_true rfl)) dX5_take_34 ⟨Nat.le_of_ble_eq_true rfl, Nat.le_of_ble_eq_true rfl⟩) (fun _ H locs _ hP hD hS => ?_)
    have h := Option.some.inj h
    subst h
    subst hQ
    exact W.vret hx hb hr (fun t ht hW => ⟨⟨(), rfl, trivial, by rw [ht]; exact hP, hD⟩, hS.F ht⟩) hS.2.2 dX5_take_37
  · have k_2 : x2 = true := (kx_nz c_1)
    have h := co_t k_2 h
    refine lv_aload_n hx hb dX5_take_18 rfl (lv_at hl 1 rfl) ?_
    refine lv_dup hx hb dX5_take_19 rfl ?_
    refine va_get (D := D) (ci := 5) (v := .long f0_ones) (C := RX5) (T := TX5) (N := 4) hx hb hts in_X5_take_X5 hown hK hP 0 rfl rfl 3 (by decide) lk_2 (fun _ h9 => h9) rfl dX5_take_20 ?_
    refine lv_lload_n hx hb dX5_take_23 rfl (lv_at hl 0 rfl) ?_
    refine lv_lor hx hb dX5_take_24 ?_
    refine va_put (D := D) (ci := 5) (v := .long (f0_ones ||| (jshl (1 : Int64) x1))) (ty := .long) (C := RX5) (T := TX5) (N := 4) hx hb hts in_X5_take_X5 tyX5 tyX5_ok nmX5 hown hK hP hD hS 0 rfl rfl 3 (by decide) lk_2 (fun _ h9 => h9) rfl (by decide +kernel) rfl rfl (Nat.le_of_ble_eq_true rfl) dX5_take_25 (fun H locs hP hD hS => ?_)
    have hP : va_P D vwCl [(q0, .inr (5, [v0_n, .ref q0_rows, .long (f0_taken ||| (jshl (1 : Int64) x1)), .long (f0_ones ||| (jshl (1 : Int64) x1))])), (q0_rows, .inr (2, [.int f0_rows_n, .ref q0_rows_byHead, .int (bI f0_rows_impossible)])), (q0_rows_byHead, .inl (cL, n0_rows_byHead, .inr (.inl h0_rows_byHead)))] H := hP
    have hD : va_D A [(q0, .inr (5, [v0_n, .ref q0_rows, .long (f0_taken ||| (jshl (1 : Int64) x1)), .long (f0_ones ||| (jshl (1 : Int64) x1))])), (q0_rows, .inr (2, [.int f0_rows_n, .ref q0_rows_byHead, .int (bI f0_rows_impossible)])), (q0_rows_byHead, .inl (cL, n0_rows_byHead, .inr (.inl h0_rows_byHead)))] := hD
    refine lv_aload_n hx hb dX5_take_28 rfl (lv_at hl 1 rfl) ?_
    refine va_get (D := D) (ci := 5) (v := .ref q0_rows) (C := RX5) (T := TX5) (N := 4) hx hb hts in_X5_take_X5 hown hK hP 0 rfl rfl 1 (by decide) lk_1 (fun _ h9 => h9) rfl dX5_take_29 ?_
    refine lv_iload_n hx hb dX5_take_32 rfl (lv_at hl 2 rfl) ?_
    refine lv_iload_n hx hb dX5_take_33 rfl (lv_at hl 3 rfl) ?_
    obtain ⟨u_5, hu_6, h⟩ := co_b h
    refine kx_v (ws' := fun _ => [(q0, .inr (5, [v0_n, .ref q0_rows, .long (f0_taken ||| (jshl (1 : Int64) x1)), .long (f0_ones ||| (jshl (1 : Int64) x1))])), (q0_rows, .inr (2, [.int f0_rows_n, .ref q0_rows_byHead, .int (bI u_5.1)])), (q0_rows_byHead, .inl (cL, n0_rows_byHead, .inr (.inl u_5.2)))]) hP hD hS hA [1, 2] [0] [0, 1, 2] rfl rfl (by decide) (by decide) (fun _ => rfl) (by decide) (va_runV (As := [.int x1, .int (bI x2)]) (rest := []) ⟨hx, hb, hml, hown, hts⟩ (cm_X2_settle l D cI cL (q0 := q0_rows) (q0_byHead := q0_rows_byHead) (n0_byHead := n0_rows_byHead) (f0_n := f0_rows_n) (f0_impossible := f0_rows_impossible) (h0_byHead := h0_rows_byHead) (x1 := x1) (x2 := x2) (r0 := u_5) (hr0 := hu_6) (sz := H.size)) (cwV 2 hts gX5_take_X2_settle rfl rfl rfl (by decide +kernel) ⟨Nat.le_of_ble_eq_true rfl, Nat.le_of_ble_eq_true rfl⟩) (kx_preV hEV hP hD [1, 2] rfl (by decide) (k0 := 1) (ci := 2) rfl rfl rfl) rfl rfl hl.1 rfl (lv_room (Nat.le_of_ble_eq_true rfl)) dX5_take_34 ⟨Nat.le_of_ble_eq_true rfl, Nat.le_of_ble_eq_true rfl⟩) (fun _ H locs _ hP hD hS => ?_)
    have h := Option.some.inj h
    subst h
    subst hQ
    exact W.vret hx hb hr (fun t ht hW => ⟨⟨(), rfl, trivial, by rw [ht]; exact hP, hD⟩, hS.F ht⟩) hS.2.2 dX5_take_37
theorem in_X5_takeFromRows_X2 : ∀ w ∈ wsX20, w ∈ wsX5_takeFromRows := by decide +kernel
theorem in_X5_takeFromRows_X5 : ∀ w ∈ wsX50, w ∈ wsX5_takeFromRows := by decide +kernel
theorem lk_0_X5_takeFromRows : Cond.fieldLink RX5 9 "ParityClauses$Taking" "n" "I" ∈ wsX5_takeFromRows := by decide +kernel
theorem lk_1_X5_takeFromRows : Cond.fieldLink RX5 20 "ParityClauses$Taking" "rows" "LParityClauses$Rows;" ∈ wsX5_takeFromRows := by decide +kernel
theorem lk_2_X5_takeFromRows : Cond.fieldLink RX5 46 "ParityClauses$Rows" "byHead" "[J" ∈ wsX5_takeFromRows := by decide +kernel
abbrev rm_X5_takeFromRows : Room := { frames := 4, cells := 0, slots := 0, locals := 98 }
set_option maxHeartbeats 4000000 in
set_option maxRecDepth 100000 in
theorem cm_X5_takeFromRows (l : Launch) (D : va_G) (cI cL : ClassId) (q0 q0_rows q0_rows_byHead : Nat) (n0_rows_byHead : Nat) (f0_n : Int32) (f0_taken : Int64) (f0_ones : Int64) (f0_rows_n : Int32) (f0_rows_impossible : Bool) (h0_rows_byHead : Nat → Int64) (r0 : Int64 × Int64 × Bool × (Nat → Int64)) (hr0 : D_X5_takeFromRows f0_n f0_taken f0_ones f0_rows_n f0_rows_impossible n0_rows_byHead h0_rows_byHead = some r0) (sz : Nat) : Met l yX5_takeFromRows wsX5_takeFromRows rm_X5_takeFromRows (PcW D cI cL [.ref q0] [(q0, .inr (5, [.int f0_n, .ref q0_rows, .long f0_taken, .long f0_ones])), (q0_rows, .inr (2, [.int f0_rows_n, .ref q0_rows_byHead, .int (bI f0_rows_impossible)])), (q0_rows_byHead, .inl (cL, n0_rows_byHead, .inr (.inl h0_rows_byHead)))] sz) (QvW D [(q0, .inr (5, [.int f0_n, .ref q0_rows, .long f0_taken, .long f0_ones])), (q0_rows, .inr (2, [.int f0_rows_n, .ref q0_rows_byHead, .int (bI f0_rows_impossible)])), (q0_rows_byHead, .inl (cL, n0_rows_byHead, .inr (.inl h0_rows_byHead)))] (fun _ : Unit => [(q0, .inr (5, [.int f0_n, .ref q0_rows, .long r0.1, .long r0.2.1])), (q0_rows, .inr (2, [.int f0_rows_n, .ref q0_rows_byHead, .int (bI r0.2.2.1)])), (q0_rows_byHead, .inl (cL, n0_rows_byHead, .inr (.inl r0.2.2.2)))]) tU sz) 0 0 (va_A [(q0, .inr (5, [.int f0_n, .ref q0_rows, .long f0_taken, .long f0_ones])), (q0_rows, .inr (2, [.int f0_rows_n, .ref q0_rows_byHead, .int (bI f0_rows_impossible)])), (q0_rows_byHead, .inl (cL, n0_rows_byHead, .inr (.inl h0_rows_byHead)))] sz) := by
  refine Met.ofW (cc := cX5_takeFromRows) (maxL := 2) (ret := none) (by decide) rfl ?_
  intro p e s m args below meth c s₁ B hml hv
  obtain ⟨hargs, hsz, hP, hEV, hD0⟩ := hv
  have hx := B.exec
  have hb := B.bytes
  have hr := B.returns
  have hts := atoms_spec (ws := wsX5_takeFromRows) B.pre
  have hown : s.vm.findClass RX5 = some m.cls := findClass_of_methodNamed B.named
  have hlocks := B.notSynchronized
  have hK := hEV.K
  have lk_0 := hts _ lk_0_X5_takeFromRows
  have lk_1 := hts _ lk_1_X5_takeFromRows
  have lk_2 := hts _ lk_2_X5_takeFromRows
  subst hsz
  unfold QvW PoW
  have hD := hD0.self (sz := s.heap.size)
  generalize hAe : va_A [(q0, .inr (5, [.int f0_n, .ref q0_rows, .long f0_taken, .long f0_ones])), (q0_rows, .inr (2, [.int f0_rows_n, .ref q0_rows_byHead, .int (bI f0_rows_impossible)])), (q0_rows_byHead, .inl (cL, n0_rows_byHead, .inr (.inl h0_rows_byHead)))] s.heap.size = A at hD ⊢
  have hA : ∀ q : Nat, s.heap.size ≤ q → A q := fun q h => by rw [← hAe]; exact Or.inr h
  have hent : entryFrame m args 2 = entryFrame m ([.ref q0] : List Value).toArray 2 := by rw [hargs]
  rw [hent]
  refine kx_Q (fun Q hQ => ?_)
  refine kx_H (fun H hH => ?_)
  have hP : va_P D vwCl [(q0, .inr (5, [.int f0_n, .ref q0_rows, .long f0_taken, .long f0_ones])), (q0_rows, .inr (2, [.int f0_rows_n, .ref q0_rows_byHead, .int (bI f0_rows_impossible)])), (q0_rows_byHead, .inl (cL, n0_rows_byHead, .inr (.inl h0_rows_byHead)))] H := by rw [hH]; exact hP
  have hS : va_S A s.heap H [] := by rw [hH]; exact va_S.rf
  have hl := lv_entry ([.ref q0]) (n := 2) (Nat.le_of_ble_eq_true rfl)
  rw [lg_entry_eq]
  generalize (lg_sl ([.ref q0]) ++ List.replicate (2 - (lg_sl ([.ref q0])).length) Slot.unset).toArray = ls at hl ⊢
  have hl : lv_has ls 2 [(0, .ref q0)] := hl
  have hloop : ∀ n9 : Nat, (∀ (x1 : Int32) (f0_taken : Int64) (f0_ones : Int64) (f0_rows_impossible : Bool) (h0_rows_byHead : Nat → Int64), iter (st_X5_takeFromRows f0_n f0_rows_n n0_rows_byHead) n9 (x1, f0_taken, f0_ones, f0_rows_impossible, h0_rows_byHead) = some r0 → ∀ (H : Heap) (locs : List Loc) (ls : Array Slot), va_P D vwCl [(q0, .inr (5, [.int f0_n, .ref q0_rows, .long f0_taken, .long f0_ones])), (q0_rows, .inr (2, [.int f0_rows_n, .ref q0_rows_byHead, .int (bI f0_rows_impossible)])), (q0_rows_byHead, .inl (cL, n0_rows_byHead, .inr (.inl h0_rows_byHead)))] H → va_D A [(q0, .inr (5, [.int f0_n, .ref q0_rows, .long f0_taken, .long f0_ones])), (q0_rows, .inr (2, [.int f0_rows_n, .ref q0_rows_byHead, .int (bI f0_rows_impossible)])), (q0_rows_byHead, .inl (cL, n0_rows_byHead, .inr (.inl h0_rows_byHead)))] → va_S A s.heap H locs → lv_has ls 2 [(0, .ref q0), (1, .int x1)] → W p l e (headSpec wsX5_takeFromRows rm_X5_takeFromRows).room s m args below meth c H locs 0 0 Q (F0 m 2 ls [])) := by
    intro n9
    induction n9 with
    | zero => exact (fun _ _ _ _ _ h => nomatch h)
    | succ n9 ih =>
      intro x1 f0_taken f0_ones f0_rows_impossible h0_rows_byHead h H locs ls hP hD hS hl
      have h : run1 (iter (st_X5_takeFromRows f0_n f0_rows_n n0_rows_byHead) n9) (b_X5_takeFromRows_2 f0_n f0_rows_n n0_rows_byHead x1 f0_taken f0_ones f0_rows_impossible h0_rows_byHead) = some r0 := h
      unfold b_X5_takeFromRows_2 at h
      refine lv_iload_n hx hb dX5_takeFromRows_2 rfl (lv_at hl 1 rfl) ?_
      refine lv_aload_n hx hb dX5_takeFromRows_3 rfl (lv_at hl 0 rfl) ?_
      refine va_get (D := D) (ci := 5) (v := .int f0_n) (C := RX5) (T := TX5) (N := 4) hx hb hts in_X5_takeFromRows_X5 hown hK hP 0 rfl rfl 0 (by decide) lk_0 (fun _ h9 => h9) rfl dX5_takeFromRows_4 ?_
      refine lv_icmp_ge (tgt := 50) hx hb dX5_takeFromRows_7 (by decide) (fun c_1 => ?_) (fun c_1 => ?_)
      · have k_2 : f0_n ≤ x1 := c_1
        have h := cw_t k_2 h
        have h := Option.some.inj h
        subst h
        subst hQ
        exact W.vret hx hb hr (fun t ht hW => ⟨⟨(), rfl, trivial, by rw [ht]; exact hP, hD⟩, hS.F ht⟩) hS.2.2 dX5_takeFromRows_50
      · have k_2 : ¬ (f0_n ≤ x1) := c_1
        have h := cw_f k_2 h
        refine lv_aload_n hx hb dX5_takeFromRows_10 rfl (lv_at hl 0 rfl) ?_
        refine lv_iload_n hx hb dX5_takeFromRows_11 rfl (lv_at hl 1 rfl) ?_
        obtain ⟨u_3, hu_4, h⟩ := cw_b h
        refine kx_i (ws' := fun _ => [(q0, .inr (5, [.int f0_n, .ref q0_rows, .long f0_taken, .long f0_ones])), (q0_rows, .inr (2, [.int f0_rows_n, .ref q0_rows_byHead, .int (bI f0_rows_impossible)])), (q0_rows_byHead, .inl (cL, n0_rows_byHead, .inr (.inl h0_rows_byHead)))]) hP hD hS hA [0, 1, 2] [] [0, 1, 2] rfl rfl (by decide) (by decide) (fun _ => rfl) (by decide) (va_runV (As := [.int x1]) (rest := []) ⟨hx, hb, hml, hown, hts⟩ (cm_X5_hasOneValue l D cI cL (q0 := q0) (q0_rows := q0_rows) (q0_rows_byHead := q0_rows_byHead) (n0_rows_byHead := n0_rows_byHead) (h0_rows_byHead := h0_rows_byHead) (v0_n := .int f0_n) (v0_taken := .long f0_taken) (v0_ones := .long f0_ones) (v0_rows_n := .int f0_rows_n) (v0_rows_impossible := .int (bI f0_rows_impossible)) (x1 := x1) (r0 := u_3) (hr0 := hu_4) (sz := H.size)) (cwV 1 hts gX5_takeFromRows_X5_hasOneValue rfl rfl rfl (by decide +kernel) ⟨Nat.le_of_ble_eq_true rfl, Nat.le_of_ble_eq_true rfl⟩) (kx_preV hEV hP hD [0, 1, 2] rfl (by decide) (k0 := 0) (ci := 5) rfl rfl rfl) rfl rfl hl.1 rfl (lv_room (Nat.le_of_ble_eq_true rfl)) dX5_takeFromRows_12 ⟨Nat.le_of_ble_eq_true rfl, Nat.le_of_ble_eq_true rfl⟩) (fun _ H locs _ hP hD hS => ?_)
        refine lv_if_eq (tgt := 44) hx hb dX5_takeFromRows_15 (by decide) (fun c_5 => ?_) (fun c_5 => ?_)
        · have k_6 : ¬ (u_3 = true) := (kx_z c_5)
          have h := cw_f k_6 h
          refine lv_iinc (v := x1 + (1 : Int32)) (lv' := [(1, .int (x1 + (1 : Int32))), (0, .ref q0)]) hx hb dX5_takeFromRows_44 hl (k := 1) rfl rfl (by decide) rfl (fun ls hl => ?_)
          refine lv_goto (tgt := 2) hx hb dX5_takeFromRows_47 (by decide) ?_
          exact ih _ _ _ _ _ h _ _ _ hP hD hS (lv_sub hl [1, 0] rfl)
        · have k_6 : u_3 = true := (kx_nz c_5)
          have h := cw_t k_6 h
          refine lv_aload_n hx hb dX5_takeFromRows_18 rfl (lv_at hl 0 rfl) ?_
          refine lv_iload_n hx hb dX5_takeFromRows_19 rfl (lv_at hl 1 rfl) ?_
          refine lv_aload_n hx hb dX5_takeFromRows_20 rfl (lv_at hl 0 rfl) ?_
          refine va_get (D := D) (ci := 5) (v := .ref q0_rows) (C := RX5) (T := TX5) (N := 4) hx hb hts in_X5_takeFromRows_X5 hown hK hP 0 rfl rfl 1 (by decide) lk_1 (fun _ h9 => h9) rfl dX5_takeFromRows_21 ?_
          refine va_get (D := D) (ci := 2) (v := .ref q0_rows_byHead) (C := RX2) (T := TX2) (N := 3) hx hb hts in_X5_takeFromRows_X2 hown hK hP 1 rfl rfl 1 (by decide) lk_2 (fun _ h9 => h9) rfl dX5_takeFromRows_24 ?_
          refine lv_iload_n hx hb dX5_takeFromRows_27 rfl (lv_at hl 1 rfl) ?_
          obtain ⟨b_7, h⟩ := cw_i h
          refine va_lald hx hb hK hP 2 1 rfl rfl b_7 dX5_takeFromRows_28 ?_
          refine lv_lconst (v := (1 : Int64)) hx hb dX5_takeFromRows_29 (by decide) ?_
          refine lv_iload_n hx hb dX5_takeFromRows_30 rfl (lv_at hl 1 rfl) ?_
          refine lv_lshl (v := jshl (1 : Int64) x1) hx hb dX5_takeFromRows_31 rfl ?_
          refine W.lcmp hx hb dX5_takeFromRows_32 ?_
          refine lv_if_eq (tgt := 40) hx hb dX5_takeFromRows_33 (by decide) (fun c_8 => ?_) (fun c_8 => ?_)
          · have k_9 : (h0_rows_byHead x1.toNatClampNeg) = (jshl (1 : Int64) x1) := ((lg_cmp_eq _ _).mp c_8)
            have h := cw_t k_9 h
            refine lv_iconst (v := (0 : Int32)) hx hb dX5_takeFromRows_40 (by decide) ?_
            obtain ⟨u_10, hu_11, h⟩ := cw_b h
            refine kx_v (ws' := fun _ => [(q0, .inr (5, [.int f0_n, .ref q0_rows, .long u_10.1, .long u_10.2.1])), (q0_rows, .inr (2, [.int f0_rows_n, .ref q0_rows_byHead, .int (bI u_10.2.2.1)])), (q0_rows_byHead, .inl (cL, n0_rows_byHead, .inr (.inl u_10.2.2.2)))]) hP hD hS hA [0, 1, 2] [] [0, 1, 2] rfl rfl (by decide) (by decide) (fun _ => rfl) (by decide) (va_runV (As := [.int x1, .int (bI false)]) (rest := []) ⟨hx, hb, hml, hown, hts⟩ (cm_X5_take l D cI cL (q0 := q0) (q0_rows := q0_rows) (q0_rows_byHead := q0_rows_byHead) (n0_rows_byHead := n0_rows_byHead) (f0_taken := f0_taken) (f0_ones := f0_ones) (f0_rows_n := f0_rows_n) (f0_rows_impossible := f0_rows_impossible) (h0_rows_byHead := h0_rows_byHead) (v0_n := .int f0_n) (x1 := x1) (x2 := false) (r0 := u_10) (hr0 := hu_11) (sz := H.size)) (cwV 2 hts gX5_takeFromRows_X5_take rfl rfl rfl (by decide +kernel) ⟨Nat.le_of_ble_eq_true rfl, Nat.le_of_ble_eq_true rfl⟩) (kx_preV hEV hP hD [0, 1, 2] rfl (by decide) (k0 := 0) (ci := 5) rfl rfl rfl) rfl rfl hl.1 rfl (lv_room (Nat.le_of_ble_eq_true rfl)) dX5_takeFromRows_41 ⟨Nat.le_of_ble_eq_true rfl, Nat.le_of_ble_eq_true rfl⟩) (fun _ H locs _ hP hD hS => ?_)
            refine lv_iinc (v := x1 + (1 : Int32)) (lv' := [(1, .int (x1 + (1 : Int32))), (0, .ref q0)]) hx hb dX5_takeFromRows_44 hl (k := 1) rfl rfl (by decide) rfl (fun ls hl => ?_)
            refine lv_goto (tgt := 2) hx hb dX5_takeFromRows_47 (by decide) ?_
            exact ih _ _ _ _ _ h _ _ _ hP hD hS (lv_sub hl [1, 0] rfl)
          · have k_9 : ¬ ((h0_rows_byHead x1.toNatClampNeg) = (jshl (1 : Int64) x1)) := (fun z9 => c_8 ((lg_cmp_eq _ _).mpr z9))
            have h := cw_f k_9 h
            refine lv_iconst (v := (1 : Int32)) hx hb dX5_takeFromRows_36 (by decide) ?_
            refine lv_goto (tgt := 41) hx hb dX5_takeFromRows_37 (by decide) ?_
            obtain ⟨u_12, hu_13, h⟩ := cw_b h
            refine kx_v (ws' := fun _ => [(q0, .inr (5, [.int f0_n, .ref q0_rows, .long u_12.1, .long u_12.2.1])), (q0_rows, .inr (2, [.int f0_rows_n, .ref q0_rows_byHead, .int (bI u_12.2.2.1)])), (q0_rows_byHead, .inl (cL, n0_rows_byHead, .inr (.inl u_12.2.2.2)))]) hP hD hS hA [0, 1, 2] [] [0, 1, 2] rfl rfl (by decide) (by decide) (fun _ => rfl) (by decide) (va_runV (As := [.int x1, .int (bI true)]) (rest := []) ⟨hx, hb, hml, hown, hts⟩ (cm_X5_take l D cI cL (q0 := q0) (q0_rows := q0_rows) (q0_rows_byHead := q0_rows_byHead) (n0_rows_byHead := n0_rows_byHead) (f0_taken := f0_taken) (f0_ones := f0_ones) (f0_rows_n := f0_rows_n) (f0_rows_impossible := f0_rows_impossible) (h0_rows_byHead := h0_rows_byHead) (v0_n := .int f0_n) (x1 := x1) (x2 := true) (r0 := u_12) (hr0 := hu_13) (sz := H.size)) (cwV 2 hts gX5_takeFromRows_X5_take rfl rfl rfl (by decide +kernel) ⟨Nat.le_of_ble_eq_true rfl, Nat.le_of_ble_eq_true rfl⟩) (kx_preV hEV hP hD [0, 1, 2] rfl (by decide) (k0 := 0) (ci := 5) rfl rfl rfl) rfl rfl hl.1 rfl (lv_room (Nat.le_of_ble_eq_true rfl)) dX5_takeFromRows_41 ⟨Nat.le_of_ble_eq_true rfl, Nat.le_of_ble_eq_true rfl⟩) (fun _ H locs _ hP hD hS => ?_)
            refine lv_iinc (v := x1 + (1 : Int32)) (lv' := [(1, .int (x1 + (1 : Int32))), (0, .ref q0)]) hx hb dX5_takeFromRows_44 hl (k := 1) rfl rfl (by decide) rfl (fun ls hl => ?_)
            refine lv_goto (tgt := 2) hx hb dX5_takeFromRows_47 (by decide) ?_
            exact ih _ _ _ _ _ h _ _ _ hP hD hS (lv_sub hl [1, 0] rfl)
  have h := hr0
  unfold D_X5_takeFromRows at h
  refine lv_iconst (v := (0 : Int32)) hx hb dX5_takeFromRows_0 (by decide) ?_
  refine lv_istore_n (lv' := [(1, .int (0 : Int32)), (0, .ref q0)]) hx hb dX5_takeFromRows_1 rfl hl (by decide) rfl (fun ls hl => ?_)
  obtain ⟨n9, hn9⟩ := runw_some h
  exact (hloop n9) _ _ _ _ _ hn9 _ _ _ hP hD hS (lv_sub hl [1, 0] rfl)
abbrev rm_X7_leastPlace : Room := { frames := 1, cells := 0, slots := 0, locals := 21 }
set_option maxHeartbeats 4000000 in
set_option maxRecDepth 100000 in
theorem cm_X7_leastPlace (l : Launch) (D : va_G) (cI cL : ClassId) (x0 : Int64) (r0 : Int32) (hr0 : D_X7_leastPlace x0 = some r0) (sz : Nat) : Met l yX7_leastPlace wsX7_leastPlace rm_X7_leastPlace (PcW D cI cL [.long x0] [] sz) (QiW D [] r0 (fun _ : Unit => []) tU sz) 0 0 (va_A [] sz) := by
  refine Met.ofW (cc := cX7_leastPlace) (maxL := 2) (ret := (some .int)) (by decide) rfl ?_
  intro p e s m args below meth c s₁ B hml hv
  obtain ⟨hargs, hsz, hP, hEV, hD0⟩ := hv
  have hx := B.exec
  have hb := B.bytes
  have hr := B.returns
  have hts := atoms_spec (ws := wsX7_leastPlace) B.pre
  have hown : s.vm.findClass RX7 = some m.cls := findClass_of_methodNamed B.named
  have hlocks := B.notSynchronized
  have hK := hEV.K
  subst hsz
  unfold QiW PoW
  have hD := hD0.self (sz := s.heap.size)
  generalize hAe : va_A [] s.heap.size = A at hD ⊢
  have hA : ∀ q : Nat, s.heap.size ≤ q → A q := fun q h => by rw [← hAe]; exact Or.inr h
  have hent : entryFrame m args 2 = entryFrame m ([.long x0] : List Value).toArray 2 := by rw [hargs]
  rw [hent]
  refine kx_Q (fun Q hQ => ?_)
  refine kx_H (fun H hH => ?_)
  have hP : va_P D vwCl [] H := by rw [hH]; exact hP
  have hS : va_S A s.heap H [] := by rw [hH]; exact va_S.rf
  have hl := lv_entry ([.long x0]) (n := 2) (Nat.le_of_ble_eq_true rfl)
  rw [lg_entry_eq]
  generalize (lg_sl ([.long x0]) ++ List.replicate (2 - (lg_sl ([.long x0])).length) Slot.unset).toArray = ls at hl ⊢
  have hl : lv_has ls 2 [(0, .long x0)] := hl
  have h := hr0
  unfold D_X7_leastPlace at h
  refine lv_lload_n hx hb dX7_leastPlace_0 rfl (lv_at hl 0 rfl) ?_
  refine lv_lload_n hx hb dX7_leastPlace_1 rfl (lv_at hl 0 rfl) ?_
  refine lv_lneg hx hb dX7_leastPlace_2 ?_
  refine lv_land hx hb dX7_leastPlace_3 ?_
  refine lv_lconst (v := (1 : Int64)) hx hb dX7_leastPlace_4 (by decide) ?_
  refine lv_lsub hx hb dX7_leastPlace_5 ?_
  obtain ⟨u_1, hu_2, h⟩ := co_b h
  refine kx_i (ws' := fun _ => []) hP hD hS hA [] [] [] rfl rfl (by decide) (by decide) (fun _ => rfl) (by decide) (va_runS (As := [.long ((x0 &&& (-x0)) - (1 : Int64))]) (rest := []) ⟨hx, hb, hml, hown, hts⟩ (cm_J13_bitCount_95d88 l D cI cL (x0 := (x0 &&& (-x0)) - (1 : Int64)) (r0 := u_1) (hr0 := hu_2) (sz := H.size)) (va_cwS 1 hts gX7_leastPlace_J13_bitCount_95d88 rfl rfl rfl (by decide +kernel) ⟨Nat.le_of_ble_eq_true rfl, Nat.le_of_ble_eq_true rfl⟩) (kx_preS hEV hP hD [] rfl (by decide)) rfl rfl hl.1 rfl (lv_room (Nat.le_of_ble_eq_true rfl)) dX7_leastPlace_6 ⟨Nat.le_of_ble_eq_true rfl, Nat.le_of_ble_eq_true rfl⟩) (fun _ H locs _ hP hD hS => ?_)
  have h := Option.some.inj h
  subst h
  subst hQ
  exact W.iret (v := u_1) hx hb hr (fun t ht hW => ⟨⟨u_1, (), rfl, ⟨rfl, trivial⟩, by rw [ht]; exact hP, hD⟩, hS.F ht⟩) hS.2.2 dX7_leastPlace_9
theorem in_X5_takeFromClauses_X2 : ∀ w ∈ wsX20, w ∈ wsX5_takeFromClauses := by decide +kernel
theorem in_X5_takeFromClauses_X4 : ∀ w ∈ wsX40, w ∈ wsX5_takeFromClauses := by decide +kernel
theorem in_X5_takeFromClauses_X5 : ∀ w ∈ wsX50, w ∈ wsX5_takeFromClauses := by decide +kernel
theorem lk_0_X5_takeFromClauses : Cond.fieldLink RX5 73 "ParityClauses$Store" "clauseCount" "I" ∈ wsX5_takeFromClauses := by decide +kernel
theorem lk_1_X5_takeFromClauses : Cond.fieldLink RX5 78 "ParityClauses$Store" "yes" "[J" ∈ wsX5_takeFromClauses := by decide +kernel
theorem lk_2_X5_takeFromClauses : Cond.fieldLink RX5 81 "ParityClauses$Store" "no" "[J" ∈ wsX5_takeFromClauses := by decide +kernel
theorem lk_3_X5_takeFromClauses : Cond.fieldLink RX5 32 "ParityClauses$Taking" "ones" "J" ∈ wsX5_takeFromClauses := by decide +kernel
theorem lk_4_X5_takeFromClauses : Cond.fieldLink RX5 28 "ParityClauses$Taking" "taken" "J" ∈ wsX5_takeFromClauses := by decide +kernel
theorem lk_5_X5_takeFromClauses : Cond.constantLong RX5 65 (-1) ∈ wsX5_takeFromClauses := by decide +kernel
theorem lk_6_X5_takeFromClauses : Cond.fieldLink RX5 20 "ParityClauses$Taking" "rows" "LParityClauses$Rows;" ∈ wsX5_takeFromClauses := by decide +kernel
theorem lk_7_X5_takeFromClauses : Cond.fieldLink RX5 50 "ParityClauses$Rows" "impossible" "Z" ∈ wsX5_takeFromClauses := by decide +kernel
theorem lk_8_X5_takeFromClauses : Cond.initialized RX7 ∈ wsX5_takeFromClauses := by decide +kernel
theorem lk_9_X5_takeFromClauses : Cond.static yX7_leastPlace ∈ wsX5_takeFromClauses := by decide +kernel
abbrev rm_X5_takeFromClauses : Room := { frames := 4, cells := 0, slots := 0, locals := 98 }
set_option maxHeartbeats 4000000 in
set_option maxRecDepth 100000 in
theorem cm_X5_takeFromClauses (l : Launch) (D : va_G) (cI cL : ClassId) (q0 q0_rows q0_rows_byHead q1 q1_yes q1_no : Nat) (n0_rows_byHead n1_yes n1_no : Nat) (f0_taken : Int64) (f0_ones : Int64) (f0_rows_n : Int32) (f0_rows_impossible : Bool) (h0_rows_byHead : Nat → Int64) (f1_clauseCount : Int32) (h1_yes : Nat → Int64) (h1_no : Nat → Int64) (v0_n v1_equations v1_equationCount v1_equationsBefore v1_clausesBefore v1_levelCount : Value) (r0 : Bool × Int64 × Int64 × Bool × (Nat → Int64)) (hr0 : D_X5_takeFromClauses f0_taken f0_ones f0_rows_n f0_rows_impossible n0_rows_byHead h0_rows_byHead f1_clauseCount n1_yes h1_yes n1_no h1_no = some r0) (sz : Nat) : Met l yX5_takeFromClauses wsX5_takeFromClauses rm_X5_takeFromClauses (PcW D cI cL [.ref q0, .ref q1] [(q0, .inr (5, [v0_n, .ref q0_rows, .long f0_taken, .long f0_ones])), (q0_rows, .inr (2, [.int f0_rows_n, .ref q0_rows_byHead, .int (bI f0_rows_impossible)])), (q0_rows_byHead, .inl (cL, n0_rows_byHead, .inr (.inl h0_rows_byHead))), (q1, .inr (4, [v1_equations, .ref q1_yes, .ref q1_no, v1_equationCount, .int f1_clauseCount, v1_equationsBefore, v1_clausesBefore, v1_levelCount])), (q1_yes, .inl (cL, n1_yes, .inr (.inl h1_yes))), (q1_no, .inl (cL, n1_no, .inr (.inl h1_no)))] sz) (QiW D [(q0, .inr (5, [v0_n, .ref q0_rows, .long f0_taken, .long f0_ones])), (q0_rows, .inr (2, [.int f0_rows_n, .ref q0_rows_byHead, .int (bI f0_rows_impossible)])), (q0_rows_byHead, .inl (cL, n0_rows_byHead, .inr (.inl h0_rows_byHead))), (q1, .inr (4, [v1_equations, .ref q1_yes, .ref q1_no, v1_equationCount, .int f1_clauseCount, v1_equationsBefore, v1_clausesBefore, v1_levelCount])), (q1_yes, .inl (cL, n1_yes, .inr (.inl h1_yes))), (q1_no, .inl (cL, n1_no, .inr (.inl h1_no)))] (bI r0.1) (fun _ : Unit => [(q0, .inr (5, [v0_n, .ref q0_rows, .long r0.2.1, .long r0.2.2.1])), (q0_rows, .inr (2, [.int f0_rows_n, .ref q0_rows_byHead, .int (bI r0.2.2.2.1)])), (q0_rows_byHead, .inl (cL, n0_rows_byHead, .inr (.inl r0.2.2.2.2))), (q1, .inr (4, [v1_equations, .ref q1_yes, .ref q1_no, v1_equationCount, .int f1_clauseCount, v1_equationsBefore, v1_clausesBefore, v1_levelCount])), (q1_yes, .inl (cL, n1_yes, .inr (.inl h1_yes))), (q1_no, .inl (cL, n1_no, .inr (.inl h1_no)))]) tU sz) 0 0 (va_A [(q0, .inr (5, [v0_n, .ref q0_rows, .long f0_taken, .long f0_ones])), (q0_rows, .inr (2, [.int f0_rows_n, .ref q0_rows_byHead, .int (bI f0_rows_impossible)])), (q0_rows_byHead, .inl (cL, n0_rows_byHead, .inr (.inl h0_rows_byHead))), (q1, .inr (4, [v1_equations, .ref q1_yes, .ref q1_no, v1_equationCount, .int f1_clauseCount, v1_equationsBefore, v1_clausesBefore, v1_levelCount])), (q1_yes, .inl (cL, n1_yes, .inr (.inl h1_yes))), (q1_no, .inl (cL, n1_no, .inr (.inl h1_no)))] sz) := by
  refine Met.ofW (cc := cX5_takeFromClauses) (maxL := 9) (ret := (some .boolean)) (by decide) rfl ?_
  intro p e s m args below meth c s₁ B hml hv
  obtain ⟨hargs, hsz, hP, hEV, hD0⟩ := hv
  have hx := B.exec
  have hb := B.bytes
  have hr := B.returns
  have hts := atoms_spec (ws := wsX5_takeFromClauses) B.pre
  have hown : s.vm.findClass RX5 = some m.cls := findClass_of_methodNamed B.named
  have hlocks := B.notSynchronized
  have hK := hEV.K
  have lk_0 := hts _ lk_0_X5_takeFromClauses
  have lk_1 := hts _ lk_1_X5_takeFromClauses
  have lk_2 := hts _ lk_2_X5_takeFromClauses
  have lk_3 := hts _ lk_3_X5_takeFromClauses
  have lk_4 := hts _ lk_4_X5_takeFromClauses
  have lk_5 := hts _ lk_5_X5_takeFromClauses
  have lk_6 := hts _ lk_6_X5_takeFromClauses
  have lk_7 := hts _ lk_7_X5_takeFromClauses
  have lk_8 := hts _ lk_8_X5_takeFromClauses
  have lk_9 := hts _ lk_9_X5_takeFromClauses
  subst hsz
  unfold QiW PoW
  have hD := hD0.self (sz := s.heap.size)
  generalize hAe : va_A [(q0, .inr (5, [v0_n, .ref q0_rows, .long f0_taken, .long f0_ones])), (q0_rows, .inr (2, [.int f0_rows_n, .ref q0_rows_byHead, .int (bI f0_rows_impossible)])), (q0_rows_byHead, .inl (cL, n0_rows_byHead, .inr (.inl h0_rows_byHead))), (q1, .inr (4, [v1_equations, .ref q1_yes, .ref q1_no, v1_equationCount, .int f1_clauseCount, v1_equationsBefore, v1_clausesBefore, v1_levelCount])), (q1_yes, .inl (cL, n1_yes, .inr (.inl h1_yes))), (q1_no, .inl (cL, n1_no, .inr (.inl h1_no)))] s.heap.size = A at hD ⊢
  have hA : ∀ q : Nat, s.heap.size ≤ q → A q := fun q h => by rw [← hAe]; exact Or.inr h
  have hent : entryFrame m args 9 = entryFrame m ([.ref q0, .ref q1] : List Value).toArray 9 := by rw [hargs]
  rw [hent]
  refine kx_Q (fun Q hQ => ?_)
  refine kx_H (fun H hH => ?_)
  have hP : va_P D vwCl [(q0, .inr (5, [v0_n, .ref q0_rows, .long f0_taken, .long f0_ones])), (q0_rows, .inr (2, [.int f0_rows_n, .ref q0_rows_byHead, .int (bI f0_rows_impossible)])), (q0_rows_byHead, .inl (cL, n0_rows_byHead, .inr (.inl h0_rows_byHead))), (q1, .inr (4, [v1_equations, .ref q1_yes, .ref q1_no, v1_equationCount, .int f1_clauseCount, v1_equationsBefore, v1_clausesBefore, v1_levelCount])), (q1_yes, .inl (cL, n1_yes, .inr (.inl h1_yes))), (q1_no, .inl (cL, n1_no, .inr (.inl h1_no)))] H := by rw [hH]; exact hP
  have hS : va_S A s.heap H [] := by rw [hH]; exact va_S.rf
  have hl := lv_entry ([.ref q0, .ref q1]) (n := 9) (Nat.le_of_ble_eq_true rfl)
  rw [lg_entry_eq]
  generalize (lg_sl ([.ref q0, .ref q1]) ++ List.replicate (9 - (lg_sl ([.ref q0, .ref q1])).length) Slot.unset).toArray = ls at hl ⊢
  have hl : lv_has ls 9 [(0, .ref q0), (1, .ref q1)] := hl
  have hloop : ∀ n9 : Nat, (∀ (x2 : Int32) (f0_taken : Int64) (f0_ones : Int64) (f0_rows_impossible : Bool) (h0_rows_byHead : Nat → Int64), iter (st_X5_takeFromClauses f0_rows_n n0_rows_byHead f1_clauseCount n1_yes h1_yes n1_no h1_no) n9 (x2, f0_taken, f0_ones, f0_rows_impossible, h0_rows_byHead) = some r0 → ∀ (H : Heap) (locs : List Loc) (ls : Array Slot), va_P D vwCl [(q0, .inr (5, [v0_n, .ref q0_rows, .long f0_taken, .long f0_ones])), (q0_rows, .inr (2, [.int f0_rows_n, .ref q0_rows_byHead, .int (bI f0_rows_impossible)])), (q0_rows_byHead, .inl (cL, n0_rows_byHead, .inr (.inl h0_rows_byHead))), (q1, .inr (4, [v1_equations, .ref q1_yes, .ref q1_no, v1_equationCount, .int f1_clauseCount, v1_equationsBefore, v1_clausesBefore, v1_levelCount])), (q1_yes, .inl (cL, n1_yes, .inr (.inl h1_yes))), (q1_no, .inl (cL, n1_no, .inr (.inl h1_no)))] H → va_D A [(q0, .inr (5, [v0_n, .ref q0_rows, .long f0_taken, .long f0_ones])), (q0_rows, .inr (2, [.int f0_rows_n, .ref q0_rows_byHead, .int (bI f0_rows_impossible)])), (q0_rows_byHead, .inl (cL, n0_rows_byHead, .inr (.inl h0_rows_byHead))), (q1, .inr (4, [v1_equations, .ref q1_yes, .ref q1_no, v1_equationCount, .int f1_clauseCount, v1_equationsBefore, v1_clausesBefore, v1_levelCount])), (q1_yes, .inl (cL, n1_yes, .inr (.inl h1_yes))), (q1_no, .inl (cL, n1_no, .inr (.inl h1_no)))] → va_S A s.heap H locs → lv_has ls 9 [(0, .ref q0), (1, .ref q1), (2, .int x2)] → W p l e (headSpec wsX5_takeFromClauses rm_X5_takeFromClauses).room s m args below meth c H locs 0 0 Q (F0 m 2 ls [])) := by
    intro n9
    induction n9 with
    | zero => exact (fun _ _ _ _ _ h => nomatch h)
    | succ n9 ih =>
      intro x2 f0_taken f0_ones f0_rows_impossible h0_rows_byHead h H locs ls hP hD hS hl
      have h : run1 (iter (st_X5_takeFromClauses f0_rows_n n0_rows_byHead f1_clauseCount n1_yes h1_yes n1_no h1_no) n9) (b_X5_takeFromClauses_2 f0_rows_n n0_rows_byHead f1_clauseCount n1_yes h1_yes n1_no h1_no x2 f0_taken f0_ones f0_rows_impossible h0_rows_byHead) = some r0 := h
      unfold b_X5_takeFromClauses_2 at h
      refine lv_iload_n hx hb dX5_takeFromClauses_2 rfl (lv_at hl 2 rfl) ?_
      refine lv_aload_n hx hb dX5_takeFromClauses_3 rfl (lv_at hl 1 rfl) ?_
      refine va_get (D := D) (ci := 4) (v := .int f1_clauseCount) (C := RX4) (T := TX4) (N := 8) hx hb hts in_X5_takeFromClauses_X4 hown hK hP 3 rfl rfl 4 (by decide) lk_0 (fun _ h9 => h9) rfl dX5_takeFromClauses_4 ?_
      refine lv_icmp_ge (tgt := 137) hx hb dX5_takeFromClauses_7 (by decide) (fun c_1 => ?_) (fun c_1 => ?_)
      · have k_2 : f1_clauseCount ≤ x2 := c_1
        have h := cw_t k_2 h
        refine lv_iconst (v := (1 : Int32)) hx hb dX5_takeFromClauses_137 (by decide) ?_
        have h := Option.some.inj h
        subst h
        subst hQ
        exact W.zret (v := bI true) hx hb hr (bI_n true) (fun t ht hW => ⟨⟨bI true, (), rfl, ⟨rfl, trivial⟩, by rw [ht]; exact hP, hD⟩, hS.F ht⟩) hS.2.2 dX5_takeFromClauses_138
      · have k_2 : ¬ (f1_clauseCount ≤ x2) := c_1
        have h := cw_f k_2 h
        refine lv_aload_n hx hb dX5_takeFromClauses_10 rfl (lv_at hl 1 rfl) ?_
        refine va_get (D := D) (ci := 4) (v := .ref q1_yes) (C := RX4) (T := TX4) (N := 8) hx hb hts in_X5_takeFromClauses_X4 hown hK hP 3 rfl rfl 1 (by decide) lk_1 (fun _ h9 => h9) rfl dX5_takeFromClauses_11 ?_
        refine lv_iload_n hx hb dX5_takeFromClauses_14 rfl (lv_at hl 2 rfl) ?_
        obtain ⟨b_3, h⟩ := cw_i h
        refine va_lald hx hb hK hP 4 1 rfl rfl b_3 dX5_takeFromClauses_15 ?_
        refine lv_lstore_n (lv' := [(3, .long (h1_yes x2.toNatClampNeg)), (0, .ref q0), (1, .ref q1), (2, .int x2)]) hx hb dX5_takeFromClauses_16 rfl hl (by decide) rfl (fun ls hl => ?_)
        refine lv_aload_n hx hb dX5_takeFromClauses_17 rfl (lv_at hl 2 rfl) ?_
        refine va_get (D := D) (ci := 4) (v := .ref q1_no) (C := RX4) (T := TX4) (N := 8) hx hb hts in_X5_takeFromClauses_X4 hown hK hP 3 rfl rfl 2 (by decide) lk_2 (fun _ h9 => h9) rfl dX5_takeFromClauses_18 ?_
        refine lv_iload_n hx hb dX5_takeFromClauses_21 rfl (lv_at hl 3 rfl) ?_
        obtain ⟨b_4, h⟩ := cw_i h
        refine va_lald hx hb hK hP 5 1 rfl rfl b_4 dX5_takeFromClauses_22 ?_
        refine lv_lstore (lv' := [(5, .long (h1_no x2.toNatClampNeg)), (3, .long (h1_yes x2.toNatClampNeg)), (0, .ref q0), (1, .ref q1), (2, .int x2)]) hx hb dX5_takeFromClauses_23 hl (by decide) rfl (fun ls hl => ?_)
        refine lv_lload_n hx hb dX5_takeFromClauses_25 rfl (lv_at hl 1 rfl) ?_
        refine lv_aload_n hx hb dX5_takeFromClauses_26 rfl (lv_at hl 2 rfl) ?_
        refine va_get (D := D) (ci := 5) (v := .long f0_ones) (C := RX5) (T := TX5) (N := 4) hx hb hts in_X5_takeFromClauses_X5 hown hK hP 0 rfl rfl 3 (by decide) lk_3 (fun _ h9 => h9) rfl dX5_takeFromClauses_27 ?_
        refine lv_land hx hb dX5_takeFromClauses_30 ?_
        refine lv_lconst (v := (0 : Int64)) hx hb dX5_takeFromClauses_31 (by decide) ?_
        refine W.lcmp hx hb dX5_takeFromClauses_32 ?_
        refine lv_if_ne (tgt := 131) hx hb dX5_takeFromClauses_33 (by decide) (fun c_5 => ?_) (fun c_5 => ?_)
        · have k_6 : ¬ (((h1_yes x2.toNatClampNeg) &&& f0_ones) = (0 : Int64)) := (fun z9 => c_5 ((lg_cmp_eq _ _).mpr z9))
          have h := cw_f k_6 h
          refine lv_iinc (v := x2 + (1 : Int32)) (lv' := [(2, .int (x2 + (1 : Int32))), (5, .long (h1_no x2.toNatClampNeg)), (3, .long (h1_yes x2.toNatClampNeg)), (0, .ref q0), (1, .ref q1)]) hx hb dX5_takeFromClauses_131 hl (k := 4) rfl rfl (by decide) rfl (fun ls hl => ?_)
          refine lv_goto (tgt := 2) hx hb dX5_takeFromClauses_134 (by decide) ?_
          exact ih _ _ _ _ _ h _ _ _ hP hD hS (lv_sub hl [3, 4, 0] rfl)
        · have k_6 : ((h1_yes x2.toNatClampNeg) &&& f0_ones) = (0 : Int64) := ((lg_cmp_eq _ _).mp c_5)
          have h := cw_t k_6 h
          refine lv_lload hx hb dX5_takeFromClauses_36 (lv_at hl 0 rfl) ?_
          refine lv_aload_n hx hb dX5_takeFromClauses_38 rfl (lv_at hl 2 rfl) ?_
          refine va_get (D := D) (ci := 5) (v := .long f0_taken) (C := RX5) (T := TX5) (N := 4) hx hb hts in_X5_takeFromClauses_X5 hown hK hP 0 rfl rfl 2 (by decide) lk_4 (fun _ h9 => h9) rfl dX5_takeFromClauses_39 ?_
          refine lv_land hx hb dX5_takeFromClauses_42 ?_
          refine lv_aload_n hx hb dX5_takeFromClauses_43 rfl (lv_at hl 2 rfl) ?_
          refine va_get (D := D) (ci := 5) (v := .long f0_ones) (C := RX5) (T := TX5) (N := 4) hx hb hts in_X5_takeFromClauses_X5 hown hK hP 0 rfl rfl 3 (by decide) lk_3 (fun _ h9 => h9) rfl dX5_takeFromClauses_44 ?_
          refine lv_ldc2 hx hb hown lk_5 dX5_takeFromClauses_47 ?_
          refine lv_lxor hx hb dX5_takeFromClauses_50 ?_
          refine lv_land hx hb dX5_takeFromClauses_51 ?_
          refine lv_lconst (v := (0 : Int64)) hx hb dX5_takeFromClauses_52 (by decide) ?_
          refine W.lcmp hx hb dX5_takeFromClauses_53 ?_
          refine lv_if_eq (tgt := 60) hx hb dX5_takeFromClauses_54 (by decide) (fun c_7 => ?_) (fun c_7 => ?_)
          · have k_8 : (((h1_no x2.toNatClampNeg) &&& f0_taken) &&& (f0_ones ^^^ (-1 : Int64))) = (0 : Int64) := ((lg_cmp_eq _ _).mp c_7)
            have h := cw_t k_8 h
            refine lv_lload_n hx hb dX5_takeFromClauses_60 rfl (lv_at hl 1 rfl) ?_
            refine lv_lload hx hb dX5_takeFromClauses_61 (lv_at hl 0 rfl) ?_
            refine lv_lor hx hb dX5_takeFromClauses_63 ?_
            refine lv_aload_n hx hb dX5_takeFromClauses_64 rfl (lv_at hl 2 rfl) ?_
            refine va_get (D := D) (ci := 5) (v := .long f0_taken) (C := RX5) (T := TX5) (N := 4) hx hb hts in_X5_takeFromClauses_X5 hown hK hP 0 rfl rfl 2 (by decide) lk_4 (fun _ h9 => h9) rfl dX5_takeFromClauses_65 ?_
            refine lv_ldc2 hx hb hown lk_5 dX5_takeFromClauses_68 ?_
            refine lv_lxor hx hb dX5_takeFromClauses_71 ?_
            refine lv_land hx hb dX5_takeFromClauses_72 ?_
            refine lv_lstore (lv' := [(7, .long (((h1_yes x2.toNatClampNeg) ||| (h1_no x2.toNatClampNeg)) &&& (f0_taken ^^^ (-1 : Int64)))), (5, .long (h1_no x2.toNatClampNeg)), (3, .long (h1_yes x2.toNatClampNeg)), (0, .ref q0), (1, .ref q1), (2, .int x2)]) hx hb dX5_takeFromClauses_73 hl (by decide) rfl (fun ls hl => ?_)
            refine lv_lload hx hb dX5_takeFromClauses_75 (lv_at hl 0 rfl) ?_
            refine lv_lconst (v := (0 : Int64)) hx hb dX5_takeFromClauses_77 (by decide) ?_
            refine W.lcmp hx hb dX5_takeFromClauses_78 ?_
            refine lv_if_ne (tgt := 84) hx hb dX5_takeFromClauses_79 (by decide) (fun c_9 => ?_) (fun c_9 => ?_)
            · have k_10 : ¬ ((((h1_yes x2.toNatClampNeg) ||| (h1_no x2.toNatClampNeg)) &&& (f0_taken ^^^ (-1 : Int64))) = (0 : Int64)) := (fun z9 => c_9 ((lg_cmp_eq _ _).mpr z9))
              have h := cw_f k_10 h
              refine lv_lload hx hb dX5_takeFromClauses_84 (lv_at hl 0 rfl) ?_
              refine lv_lload hx hb dX5_takeFromClauses_86 (lv_at hl 0 rfl) ?_
              refine lv_lconst (v := (1 : Int64)) hx hb dX5_takeFromClauses_88 (by decide) ?_
              refine lv_lsub hx hb dX5_takeFromClauses_89 ?_
              refine lv_land hx hb dX5_takeFromClauses_90 ?_
              refine lv_lconst (v := (0 : Int64)) hx hb dX5_takeFromClauses_91 (by decide) ?_
              refine W.lcmp hx hb dX5_takeFromClauses_92 ?_
              refine lv_if_ne (tgt := 119) hx hb dX5_takeFromClauses_93 (by decide) (fun c_11 => ?_) (fun c_11 => ?_)
              · have k_12 : ¬ (((((h1_yes x2.toNatClampNeg) ||| (h1_no x2.toNatClampNeg)) &&& (f0_taken ^^^ (-1 : Int64))) &&& ((((h1_yes x2.toNatClampNeg) ||| (h1_no x2.toNatClampNeg)) &&& (f0_taken ^^^ (-1 : Int64))) - (1 : Int64))) = (0 : Int64)) := (fun z9 => c_11 ((lg_cmp_eq _ _).mpr z9))
                have h := cw_f k_12 h
                refine lv_aload_n hx hb dX5_takeFromClauses_119 rfl (lv_at hl 3 rfl) ?_
                refine va_get (D := D) (ci := 5) (v := .ref q0_rows) (C := RX5) (T := TX5) (N := 4) hx hb hts in_X5_takeFromClauses_X5 hown hK hP 0 rfl rfl 1 (by decide) lk_6 (fun _ h9 => h9) rfl dX5_takeFromClauses_120 ?_
                refine va_get (D := D) (ci := 2) (v := .int (bI f0_rows_impossible)) (C := RX2) (T := TX2) (N := 3) hx hb hts in_X5_takeFromClauses_X2 hown hK hP 1 rfl rfl 2 (by decide) lk_7 (fun _ h9 => h9) rfl dX5_takeFromClauses_123 ?_
                refine lv_if_eq (tgt := 131) hx hb dX5_takeFromClauses_126 (by decide) (fun c_13 => ?_) (fun c_13 => ?_)
                · have k_14 : ¬ (f0_rows_impossible = true) := (kx_z c_13)
                  have h := cw_f k_14 h
                  refine lv_iinc (v := x2 + (1 : Int32)) (lv' := [(2, .int (x2 + (1 : Int32))), (7, .long (((h1_yes x2.toNatClampNeg) ||| (h1_no x2.toNatClampNeg)) &&& (f0_taken ^^^ (-1 : Int64)))), (5, .long (h1_no x2.toNatClampNeg)), (3, .long (h1_yes x2.toNatClampNeg)), (0, .ref q0), (1, .ref q1)]) hx hb dX5_takeFromClauses_131 hl (k := 5) rfl rfl (by decide) rfl (fun ls hl => ?_)
                  refine lv_goto (tgt := 2) hx hb dX5_takeFromClauses_134 (by decide) ?_
                  exact ih _ _ _ _ _ h _ _ _ hP hD hS (lv_sub hl [4, 5, 0] rfl)
                · have k_14 : f0_rows_impossible = true := (kx_nz c_13)
                  have h := cw_t k_14 h
                  refine lv_iconst (v := (0 : Int32)) hx hb dX5_takeFromClauses_129 (by decide) ?_
                  have h := Option.some.inj h
                  subst h
                  subst hQ
                  exact W.zret (v := bI false) hx hb hr (bI_n false) (fun t ht hW => ⟨⟨bI false, (), rfl, ⟨rfl, trivial⟩, by rw [ht]; exact hP, hD⟩, hS.F ht⟩) hS.2.2 dX5_takeFromClauses_130
              · have k_12 : ((((h1_yes x2.toNatClampNeg) ||| (h1_no x2.toNatClampNeg)) &&& (f0_taken ^^^ (-1 : Int64))) &&& ((((h1_yes x2.toNatClampNeg) ||| (h1_no x2.toNatClampNeg)) &&& (f0_taken ^^^ (-1 : Int64))) - (1 : Int64))) = (0 : Int64) := ((lg_cmp_eq _ _).mp c_11)
                have h := cw_t k_12 h
                refine lv_aload_n hx hb dX5_takeFromClauses_96 rfl (lv_at hl 3 rfl) ?_
                refine lv_lload hx hb dX5_takeFromClauses_97 (lv_at hl 0 rfl) ?_
                obtain ⟨u_15, hu_16, h⟩ := cw_b h
                refine kx_i (ws' := fun _ => [(q0, .inr (5, [v0_n, .ref q0_rows, .long f0_taken, .long f0_ones])), (q0_rows, .inr (2, [.int f0_rows_n, .ref q0_rows_byHead, .int (bI f0_rows_impossible)])), (q0_rows_byHead, .inl (cL, n0_rows_byHead, .inr (.inl h0_rows_byHead))), (q1, .inr (4, [v1_equations, .ref q1_yes, .ref q1_no, v1_equationCount, .int f1_clauseCount, v1_equationsBefore, v1_clausesBefore, v1_levelCount])), (q1_yes, .inl (cL, n1_yes, .inr (.inl h1_yes))), (q1_no, .inl (cL, n1_no, .inr (.inl h1_no)))]) hP hD hS hA [] [0, 1, 2, 3, 4, 5] [0, 1, 2, 3, 4, 5] rfl rfl (by decide) (by decide) (fun _ => rfl) (by decide) (va_runSN (As := [.long (((h1_yes x2.toNatClampNeg) ||| (h1_no x2.toNatClampNeg)) &&& (f0_taken ^^^ (-1 : Int64)))]) (rest := [.ref q0]) ⟨hx, hb, hml, hown, hts⟩ (cm_X7_leastPlace l D cI cL (x0 := ((h1_yes x2.toNatClampNeg) ||| (h1_no x2.toNatClampNeg)) &&& (f0_taken ^^^ (-1 : Int64))) (r0 := u_15) (hr0 := hu_16) (sz := H.size)) ⟨va_cnB 1 hts gX5_takeFromClauses_X7_leastPlace_n67 rfl rfl rfl hEV.2.2.2.2.2 lk_8 (by decide +kernel) ⟨Nat.le_of_ble_eq_true rfl, Nat.le_of_ble_eq_true rfl⟩, lk_9, trivial⟩ (kx_preS hEV hP hD [] rfl (by decide)) rfl rfl hl.1 rfl (lv_room (Nat.le_of_ble_eq_true rfl)) dX5_takeFromClauses_99 ⟨Nat.le_of_ble_eq_true rfl, Nat.le_of_ble_eq_true rfl⟩) (fun _ H locs _ hP hD hS => ?_)
                refine lv_lload_n hx hb dX5_takeFromClauses_102 rfl (lv_at hl 2 rfl) ?_
                refine lv_lload hx hb dX5_takeFromClauses_103 (lv_at hl 0 rfl) ?_
                refine lv_land hx hb dX5_takeFromClauses_105 ?_
                refine lv_lconst (v := (0 : Int64)) hx hb dX5_takeFromClauses_106 (by decide) ?_
                refine W.lcmp hx hb dX5_takeFromClauses_107 ?_
                refine lv_if_eq (tgt := 115) hx hb dX5_takeFromClauses_108 (by decide) (fun c_17 => ?_) (fun c_17 => ?_)
                · have k_18 : ((h1_yes x2.toNatClampNeg) &&& (((h1_yes x2.toNatClampNeg) ||| (h1_no x2.toNatClampNeg)) &&& (f0_taken ^^^ (-1 : Int64)))) = (0 : Int64) := ((lg_cmp_eq _ _).mp c_17)
                  have h := cw_t k_18 h
                  refine lv_iconst (v := (0 : Int32)) hx hb dX5_takeFromClauses_115 (by decide) ?_
                  obtain ⟨u_19, hu_20, h⟩ := cw_b h
                  refine kx_v (ws' := fun _ => [(q0, .inr (5, [v0_n, .ref q0_rows, .long u_19.1, .long u_19.2.1])), (q0_rows, .inr (2, [.int f0_rows_n, .ref q0_rows_byHead, .int (bI u_19.2.2.1)])), (q0_rows_byHead, .inl (cL, n0_rows_byHead, .inr (.inl u_19.2.2.2))), (q1, .inr (4, [v1_equations, .ref q1_yes, .ref q1_no, v1_equationCount, .int f1_clauseCount, v1_equationsBefore, v1_clausesBefore, v1_levelCount])), (q1_yes, .inl (cL, n1_yes, .inr (.inl h1_yes))), (q1_no, .inl (cL, n1_no, .inr (.inl h1_no)))]) hP hD hS hA [0, 1, 2] [3, 4, 5] [3, 4, 5, 0, 1, 2] rfl rfl (by decide) (by decide) (fun _ => rfl) (by decide) (va_runV (As := [.int u_15, .int (bI false)]) (rest := []) ⟨hx, hb, hml, hown, hts⟩ (cm_X5_take l D cI cL (q0 := q0) (q0_rows := q0_rows) (q0_rows_byHead := q0_rows_byHead) (n0_rows_byHead := n0_rows_byHead) (f0_taken := f0_taken) (f0_ones := f0_ones) (f0_rows_n := f0_rows_n) (f0_rows_impossible := f0_rows_impossible) (h0_rows_byHead := h0_rows_byHead) (v0_n := v0_n) (x1 := u_15) (x2 := false) (r0 := u_19) (hr0 := hu_20) (sz := H.size)) (cwV 2 hts gX5_takeFromClauses_X5_take rfl rfl rfl (by decide +kernel) ⟨Nat.le_of_ble_eq_true rfl, Nat.le_of_ble_eq_true rfl⟩) (kx_preV hEV hP hD [0, 1, 2] rfl (by decide) (k0 := 0) (ci := 5) rfl rfl rfl) rfl rfl hl.1 rfl (lv_room (Nat.le_of_ble_eq_true rfl)) dX5_takeFromClauses_116 ⟨Nat.le_of_ble_eq_true rfl, Nat.le_of_ble_eq_true rfl⟩) (fun _ H locs _ hP hD hS => ?_)
                  refine lv_aload_n hx hb dX5_takeFromClauses_119 rfl (lv_at hl 3 rfl) ?_
                  refine va_get (D := D) (ci := 5) (v := .ref q0_rows) (C := RX5) (T := TX5) (N := 4) hx hb hts in_X5_takeFromClauses_X5 hown hK hP 0 rfl rfl 1 (by decide) lk_6 (fun _ h9 => h9) rfl dX5_takeFromClauses_120 ?_
                  refine va_get (D := D) (ci := 2) (v := .int (bI u_19.2.2.1)) (C := RX2) (T := TX2) (N := 3) hx hb hts in_X5_takeFromClauses_X2 hown hK hP 1 rfl rfl 2 (by decide) lk_7 (fun _ h9 => h9) rfl dX5_takeFromClauses_123 ?_
                  refine lv_if_eq (tgt := 131) hx hb dX5_takeFromClauses_126 (by decide) (fun c_21 => ?_) (fun c_21 => ?_)
                  · have k_22 : ¬ (u_19.2.2.1 = true) := (kx_z c_21)
                    have h := cw_f k_22 h
                    refine lv_iinc (v := x2 + (1 : Int32)) (lv' := [(2, .int (x2 + (1 : Int32))), (7, .long (((h1_yes x2.toNatClampNeg) ||| (h1_no x2.toNatClampNeg)) &&& (f0_taken ^^^ (-1 : Int64)))), (5, .long (h1_no x2.toNatClampNeg)), (3, .long (h1_yes x2.toNatClampNeg)), (0, .ref q0), (1, .ref q1)]) hx hb dX5_takeFromClauses_131 hl (k := 5) rfl rfl (by decide) rfl (fun ls hl => ?_)
                    refine lv_goto (tgt := 2) hx hb dX5_takeFromClauses_134 (by decide) ?_
                    exact ih _ _ _ _ _ h _ _ _ hP hD hS (lv_sub hl [4, 5, 0] rfl)
                  · have k_22 : u_19.2.2.1 = true := (kx_nz c_21)
                    have h := cw_t k_22 h
                    refine lv_iconst (v := (0 : Int32)) hx hb dX5_takeFromClauses_129 (by decide) ?_
                    have h := Option.some.inj h
                    subst h
                    subst hQ
                    exact W.zret (v := bI false) hx hb hr (bI_n false) (fun t ht hW => ⟨⟨bI false, (), rfl, ⟨rfl, trivial⟩, by rw [ht]; exact hP, hD⟩, hS.F ht⟩) hS.2.2 dX5_takeFromClauses_130
                · have k_18 : ¬ (((h1_yes x2.toNatClampNeg) &&& (((h1_yes x2.toNatClampNeg) ||| (h1_no x2.toNatClampNeg)) &&& (f0_taken ^^^ (-1 : Int64)))) = (0 : Int64)) := (fun z9 => c_17 ((lg_cmp_eq _ _).mpr z9))
                  have h := cw_f k_18 h
                  refine lv_iconst (v := (1 : Int32)) hx hb dX5_takeFromClauses_111 (by decide) ?_
                  refine lv_goto (tgt := 116) hx hb dX5_takeFromClauses_112 (by decide) ?_
                  obtain ⟨u_23, hu_24, h⟩ := cw_b h
                  refine kx_v (ws' := fun _ => [(q0, .inr (5, [v0_n, .ref q0_rows, .long u_23.1, .long u_23.2.1])), (q0_rows, .inr (2, [.int f0_rows_n, .ref q0_rows_byHead, .int (bI u_23.2.2.1)])), (q0_rows_byHead, .inl (cL, n0_rows_byHead, .inr (.inl u_23.2.2.2))), (q1, .inr (4, [v1_equations, .ref q1_yes, .ref q1_no, v1_equationCount, .int f1_clauseCount, v1_equationsBefore, v1_clausesBefore, v1_levelCount])), (q1_yes, .inl (cL, n1_yes, .inr (.inl h1_yes))), (q1_no, .inl (cL, n1_no, .inr (.inl h1_no)))]) hP hD hS hA [0, 1, 2] [3, 4, 5] [3, 4, 5, 0, 1, 2] rfl rfl (by decide) (by decide) (fun _ => rfl) (by decide) (va_runV (As := [.int u_15, .int (bI true)]) (rest := []) ⟨hx, hb, hml, hown, hts⟩ (cm_X5_take l D cI cL (q0 := q0) (q0_rows := q0_rows) (q0_rows_byHead := q0_rows_byHead) (n0_rows_byHead := n0_rows_byHead) (f0_taken := f0_taken) (f0_ones := f0_ones) (f0_rows_n := f0_rows_n) (f0_rows_impossible := f0_rows_impossible) (h0_rows_byHead := h0_rows_byHead) (v0_n := v0_n) (x1 := u_15) (x2 := true) (r0 := u_23) (hr0 := hu_24) (sz := H.size)) (cwV 2 hts gX5_takeFromClauses_X5_take rfl rfl rfl (by decide +kernel) ⟨Nat.le_of_ble_eq_true rfl, Nat.le_of_ble_eq_true rfl⟩) (kx_preV hEV hP hD [0, 1, 2] rfl (by decide) (k0 := 0) (ci := 5) rfl rfl rfl) rfl rfl hl.1 rfl (lv_room (Nat.le_of_ble_eq_true rfl)) dX5_takeFromClauses_116 ⟨Nat.le_of_ble_eq_true rfl, Nat.le_of_ble_eq_true rfl⟩) (fun _ H locs _ hP hD hS => ?_)
                  refine lv_aload_n hx hb dX5_takeFromClauses_119 rfl (lv_at hl 3 rfl) ?_
                  refine va_get (D := D) (ci := 5) (v := .ref q0_rows) (C := RX5) (T := TX5) (N := 4) hx hb hts in_X5_takeFromClauses_X5 hown hK hP 0 rfl rfl 1 (by decide) lk_6 (fun _ h9 => h9) rfl dX5_takeFromClauses_120 ?_
                  refine va_get (D := D) (ci := 2) (v := .int (bI u_23.2.2.1)) (C := RX2) (T := TX2) (N := 3) hx hb hts in_X5_takeFromClauses_X2 hown hK hP 1 rfl rfl 2 (by decide) lk_7 (fun _ h9 => h9) rfl dX5_takeFromClauses_123 ?_
                  refine lv_if_eq (tgt := 131) hx hb dX5_takeFromClauses_126 (by decide) (fun c_25 => ?_) (fun c_25 => ?_)
                  · have k_26 : ¬ (u_23.2.2.1 = true) := (kx_z c_25)
                    have h := cw_f k_26 h
                    refine lv_iinc (v := x2 + (1 : Int32)) (lv' := [(2, .int (x2 + (1 : Int32))), (7, .long (((h1_yes x2.toNatClampNeg) ||| (h1_no x2.toNatClampNeg)) &&& (f0_taken ^^^ (-1 : Int64)))), (5, .long (h1_no x2.toNatClampNeg)), (3, .long (h1_yes x2.toNatClampNeg)), (0, .ref q0), (1, .ref q1)]) hx hb dX5_takeFromClauses_131 hl (k := 5) rfl rfl (by decide) rfl (fun ls hl => ?_)
                    refine lv_goto (tgt := 2) hx hb dX5_takeFromClauses_134 (by decide) ?_
                    exact ih _ _ _ _ _ h _ _ _ hP hD hS (lv_sub hl [4, 5, 0] rfl)
                  · have k_26 : u_23.2.2.1 = true := (kx_nz c_25)
                    have h := cw_t k_26 h
                    refine lv_iconst (v := (0 : Int32)) hx hb dX5_takeFromClauses_129 (by decide) ?_
                    have h := Option.some.inj h
                    subst h
                    subst hQ
                    exact W.zret (v := bI false) hx hb hr (bI_n false) (fun t ht hW => ⟨⟨bI false, (), rfl, ⟨rfl, trivial⟩, by rw [ht]; exact hP, hD⟩, hS.F ht⟩) hS.2.2 dX5_takeFromClauses_130
            · have k_10 : (((h1_yes x2.toNatClampNeg) ||| (h1_no x2.toNatClampNeg)) &&& (f0_taken ^^^ (-1 : Int64))) = (0 : Int64) := ((lg_cmp_eq _ _).mp c_9)
              have h := cw_t k_10 h
              refine lv_iconst (v := (0 : Int32)) hx hb dX5_takeFromClauses_82 (by decide) ?_
              have h := Option.some.inj h
              subst h
              subst hQ
              exact W.zret (v := bI false) hx hb hr (bI_n false) (fun t ht hW => ⟨⟨bI false, (), rfl, ⟨rfl, trivial⟩, by rw [ht]; exact hP, hD⟩, hS.F ht⟩) hS.2.2 dX5_takeFromClauses_83
          · have k_8 : ¬ ((((h1_no x2.toNatClampNeg) &&& f0_taken) &&& (f0_ones ^^^ (-1 : Int64))) = (0 : Int64)) := (fun z9 => c_7 ((lg_cmp_eq _ _).mpr z9))
            have h := cw_f k_8 h
            refine lv_goto (tgt := 131) hx hb dX5_takeFromClauses_57 (by decide) ?_
            refine lv_iinc (v := x2 + (1 : Int32)) (lv' := [(2, .int (x2 + (1 : Int32))), (5, .long (h1_no x2.toNatClampNeg)), (3, .long (h1_yes x2.toNatClampNeg)), (0, .ref q0), (1, .ref q1)]) hx hb dX5_takeFromClauses_131 hl (k := 4) rfl rfl (by decide) rfl (fun ls hl => ?_)
            refine lv_goto (tgt := 2) hx hb dX5_takeFromClauses_134 (by decide) ?_
            exact ih _ _ _ _ _ h _ _ _ hP hD hS (lv_sub hl [3, 4, 0] rfl)
  have h := hr0
  unfold D_X5_takeFromClauses at h
  refine lv_iconst (v := (0 : Int32)) hx hb dX5_takeFromClauses_0 (by decide) ?_
  refine lv_istore_n (lv' := [(2, .int (0 : Int32)), (0, .ref q0), (1, .ref q1)]) hx hb dX5_takeFromClauses_1 rfl hl (by decide) rfl (fun ls hl => ?_)
  obtain ⟨n9, hn9⟩ := runw_some h
  exact (hloop n9) _ _ _ _ _ hn9 _ _ _ hP hD hS (lv_sub hl [1, 2, 0] rfl)
theorem in_X5_spread_X2 : ∀ w ∈ wsX20, w ∈ wsX5_spread := by decide +kernel
theorem in_X5_spread_X5 : ∀ w ∈ wsX50, w ∈ wsX5_spread := by decide +kernel
theorem lk_0_X5_spread : Cond.fieldLink RX5 20 "ParityClauses$Taking" "rows" "LParityClauses$Rows;" ∈ wsX5_spread := by decide +kernel
theorem lk_1_X5_spread : Cond.fieldLink RX5 50 "ParityClauses$Rows" "impossible" "Z" ∈ wsX5_spread := by decide +kernel
theorem lk_2_X5_spread : Cond.fieldLink RX5 28 "ParityClauses$Taking" "taken" "J" ∈ wsX5_spread := by decide +kernel
abbrev rm_X5_spread : Room := { frames := 5, cells := 0, slots := 0, locals := 126 }
set_option maxHeartbeats 4000000 in
set_option maxRecDepth 100000 in
theorem cm_X5_spread (l : Launch) (D : va_G) (cI cL : ClassId) (q0 q0_rows q0_rows_byHead q1 q1_yes q1_no : Nat) (n0_rows_byHead n1_yes n1_no : Nat) (f0_n : Int32) (f0_taken : Int64) (f0_ones : Int64) (f0_rows_n : Int32) (f0_rows_impossible : Bool) (h0_rows_byHead : Nat → Int64) (f1_clauseCount : Int32) (h1_yes : Nat → Int64) (h1_no : Nat → Int64) (v1_equations v1_equationCount v1_equationsBefore v1_clausesBefore v1_levelCount : Value) (r0 : Bool × Int64 × Int64 × Bool × (Nat → Int64)) (hr0 : D_X5_spread f0_n f0_taken f0_ones f0_rows_n f0_rows_impossible n0_rows_byHead h0_rows_byHead f1_clauseCount n1_yes h1_yes n1_no h1_no = some r0) (sz : Nat) : Met l yX5_spread wsX5_spread rm_X5_spread (PcW D cI cL [.ref q0, .ref q1] [(q0, .inr (5, [.int f0_n, .ref q0_rows, .long f0_taken, .long f0_ones])), (q0_rows, .inr (2, [.int f0_rows_n, .ref q0_rows_byHead, .int (bI f0_rows_impossible)])), (q0_rows_byHead, .inl (cL, n0_rows_byHead, .inr (.inl h0_rows_byHead))), (q1, .inr (4, [v1_equations, .ref q1_yes, .ref q1_no, v1_equationCount, .int f1_clauseCount, v1_equationsBefore, v1_clausesBefore, v1_levelCount])), (q1_yes, .inl (cL, n1_yes, .inr (.inl h1_yes))), (q1_no, .inl (cL, n1_no, .inr (.inl h1_no)))] sz) (QiW D [(q0, .inr (5, [.int f0_n, .ref q0_rows, .long f0_taken, .long f0_ones])), (q0_rows, .inr (2, [.int f0_rows_n, .ref q0_rows_byHead, .int (bI f0_rows_impossible)])), (q0_rows_byHead, .inl (cL, n0_rows_byHead, .inr (.inl h0_rows_byHead))), (q1, .inr (4, [v1_equations, .ref q1_yes, .ref q1_no, v1_equationCount, .int f1_clauseCount, v1_equationsBefore, v1_clausesBefore, v1_levelCount])), (q1_yes, .inl (cL, n1_yes, .inr (.inl h1_yes))), (q1_no, .inl (cL, n1_no, .inr (.inl h1_no)))] (bI r0.1) (fun _ : Unit => [(q0, .inr (5, [.int f0_n, .ref q0_rows, .long r0.2.1, .long r0.2.2.1])), (q0_rows, .inr (2, [.int f0_rows_n, .ref q0_rows_byHead, .int (bI r0.2.2.2.1)])), (q0_rows_byHead, .inl (cL, n0_rows_byHead, .inr (.inl r0.2.2.2.2))), (q1, .inr (4, [v1_equations, .ref q1_yes, .ref q1_no, v1_equationCount, .int f1_clauseCount, v1_equationsBefore, v1_clausesBefore, v1_levelCount])), (q1_yes, .inl (cL, n1_yes, .inr (.inl h1_yes))), (q1_no, .inl (cL, n1_no, .inr (.inl h1_no)))]) tU sz) 0 0 (va_A [(q0, .inr (5, [.int f0_n, .ref q0_rows, .long f0_taken, .long f0_ones])), (q0_rows, .inr (2, [.int f0_rows_n, .ref q0_rows_byHead, .int (bI f0_rows_impossible)])), (q0_rows_byHead, .inl (cL, n0_rows_byHead, .inr (.inl h0_rows_byHead))), (q1, .inr (4, [v1_equations, .ref q1_yes, .ref q1_no, v1_equationCount, .int f1_clauseCount, v1_equationsBefore, v1_clausesBefore, v1_levelCount])), (q1_yes, .inl (cL, n1_yes, .inr (.inl h1_yes))), (q1_no, .inl (cL, n1_no, .inr (.inl h1_no)))] sz) := by
  refine Met.ofW (cc := cX5_spread) (maxL := 6) (ret := (some .boolean)) (by decide) rfl ?_
  intro p e s m args below meth c s₁ B hml hv
  obtain ⟨hargs, hsz, hP, hEV, hD0⟩ := hv
  have hx := B.exec
  have hb := B.bytes
  have hr := B.returns
  have hts := atoms_spec (ws := wsX5_spread) B.pre
  have hown : s.vm.findClass RX5 = some m.cls := findClass_of_methodNamed B.named
  have hlocks := B.notSynchronized
  have hK := hEV.K
  have lk_0 := hts _ lk_0_X5_spread
  have lk_1 := hts _ lk_1_X5_spread
  have lk_2 := hts _ lk_2_X5_spread
  subst hsz
  unfold QiW PoW
  have hD := hD0.self (sz := s.heap.size)
  generalize hAe : va_A [(q0, .inr (5, [.int f0_n, .ref q0_rows, .long f0_taken, .long f0_ones])), (q0_rows, .inr (2, [.int f0_rows_n, .ref q0_rows_byHead, .int (bI f0_rows_impossible)])), (q0_rows_byHead, .inl (cL, n0_rows_byHead, .inr (.inl h0_rows_byHead))), (q1, .inr (4, [v1_equations, .ref q1_yes, .ref q1_no, v1_equationCount, .int f1_clauseCount, v1_equationsBefore, v1_clausesBefore, v1_levelCount])), (q1_yes, .inl (cL, n1_yes, .inr (.inl h1_yes))), (q1_no, .inl (cL, n1_no, .inr (.inl h1_no)))] s.heap.size = A at hD ⊢
  have hA : ∀ q : Nat, s.heap.size ≤ q → A q := fun q h => by rw [← hAe]; exact Or.inr h
  have hent : entryFrame m args 6 = entryFrame m ([.ref q0, .ref q1] : List Value).toArray 6 := by rw [hargs]
  rw [hent]
  refine kx_Q (fun Q hQ => ?_)
  refine kx_H (fun H hH => ?_)
  have hP : va_P D vwCl [(q0, .inr (5, [.int f0_n, .ref q0_rows, .long f0_taken, .long f0_ones])), (q0_rows, .inr (2, [.int f0_rows_n, .ref q0_rows_byHead, .int (bI f0_rows_impossible)])), (q0_rows_byHead, .inl (cL, n0_rows_byHead, .inr (.inl h0_rows_byHead))), (q1, .inr (4, [v1_equations, .ref q1_yes, .ref q1_no, v1_equationCount, .int f1_clauseCount, v1_equationsBefore, v1_clausesBefore, v1_levelCount])), (q1_yes, .inl (cL, n1_yes, .inr (.inl h1_yes))), (q1_no, .inl (cL, n1_no, .inr (.inl h1_no)))] H := by rw [hH]; exact hP
  have hS : va_S A s.heap H [] := by rw [hH]; exact va_S.rf
  have hl := lv_entry ([.ref q0, .ref q1]) (n := 6) (Nat.le_of_ble_eq_true rfl)
  rw [lg_entry_eq]
  generalize (lg_sl ([.ref q0, .ref q1]) ++ List.replicate (6 - (lg_sl ([.ref q0, .ref q1])).length) Slot.unset).toArray = ls at hl ⊢
  have hl : lv_has ls 6 [(0, .ref q0), (1, .ref q1)] := hl
  have hloop : ∀ n9 : Nat, (∀ (x2 : Bool) (x3 : Int32) (f0_taken : Int64) (f0_ones : Int64) (f0_rows_impossible : Bool) (h0_rows_byHead : Nat → Int64), iter (st_X5_spread f0_n f0_rows_n n0_rows_byHead f1_clauseCount n1_yes h1_yes n1_no h1_no) n9 (x2, x3, f0_taken, f0_ones, f0_rows_impossible, h0_rows_byHead) = some r0 → ∀ (H : Heap) (locs : List Loc) (ls : Array Slot), va_P D vwCl [(q0, .inr (5, [.int f0_n, .ref q0_rows, .long f0_taken, .long f0_ones])), (q0_rows, .inr (2, [.int f0_rows_n, .ref q0_rows_byHead, .int (bI f0_rows_impossible)])), (q0_rows_byHead, .inl (cL, n0_rows_byHead, .inr (.inl h0_rows_byHead))), (q1, .inr (4, [v1_equations, .ref q1_yes, .ref q1_no, v1_equationCount, .int f1_clauseCount, v1_equationsBefore, v1_clausesBefore, v1_levelCount])), (q1_yes, .inl (cL, n1_yes, .inr (.inl h1_yes))), (q1_no, .inl (cL, n1_no, .inr (.inl h1_no)))] H → va_D A [(q0, .inr (5, [.int f0_n, .ref q0_rows, .long f0_taken, .long f0_ones])), (q0_rows, .inr (2, [.int f0_rows_n, .ref q0_rows_byHead, .int (bI f0_rows_impossible)])), (q0_rows_byHead, .inl (cL, n0_rows_byHead, .inr (.inl h0_rows_byHead))), (q1, .inr (4, [v1_equations, .ref q1_yes, .ref q1_no, v1_equationCount, .int f1_clauseCount, v1_equationsBefore, v1_clausesBefore, v1_levelCount])), (q1_yes, .inl (cL, n1_yes, .inr (.inl h1_yes))), (q1_no, .inl (cL, n1_no, .inr (.inl h1_no)))] → va_S A s.heap H locs → lv_has ls 6 [(0, .ref q0), (1, .ref q1), (2, .int (bI x2)), (3, .int x3)] → W p l e (headSpec wsX5_spread rm_X5_spread).room s m args below meth c H locs 0 0 Q (F0 m 4 ls [])) := by
    intro n9
    induction n9 with
    | zero => exact (fun _ _ _ _ _ _ h => nomatch h)
    | succ n9 ih =>
      intro x2 x3 f0_taken f0_ones f0_rows_impossible h0_rows_byHead h H locs ls hP hD hS hl
      have h : run1 (iter (st_X5_spread f0_n f0_rows_n n0_rows_byHead f1_clauseCount n1_yes h1_yes n1_no h1_no) n9) (b_X5_spread_4 f0_n f0_rows_n n0_rows_byHead f1_clauseCount n1_yes h1_yes n1_no h1_no x2 x3 f0_taken f0_ones f0_rows_impossible h0_rows_byHead) = some r0 := h
      unfold b_X5_spread_4 at h
      refine lv_iload_n hx hb dX5_spread_4 rfl (lv_at hl 2 rfl) ?_
      refine lv_if_eq (tgt := 66) hx hb dX5_spread_5 (by decide) (fun c_1 => ?_) (fun c_1 => ?_)
      · have k_2 : ¬ (x2 = true) := (kx_z c_1)
        have h := cw_f k_2 h
        refine lv_aload_n hx hb dX5_spread_66 rfl (lv_at hl 0 rfl) ?_
        refine va_get (D := D) (ci := 5) (v := .ref q0_rows) (C := RX5) (T := TX5) (N := 4) hx hb hts in_X5_spread_X5 hown hK hP 0 rfl rfl 1 (by decide) lk_0 (fun _ h9 => h9) rfl dX5_spread_67 ?_
        refine va_get (D := D) (ci := 2) (v := .int (bI f0_rows_impossible)) (C := RX2) (T := TX2) (N := 3) hx hb hts in_X5_spread_X2 hown hK hP 1 rfl rfl 2 (by decide) lk_1 (fun _ h9 => h9) rfl dX5_spread_70 ?_
        refine lv_if_ne (tgt := 80) hx hb dX5_spread_73 (by decide) (fun c_3 => ?_) (fun c_3 => ?_)
        · have k_4 : f0_rows_impossible = true := (kx_nz c_3)
          have h := cw_t k_4 h
          refine lv_iconst (v := (0 : Int32)) hx hb dX5_spread_80 (by decide) ?_
          have h := Option.some.inj h
          subst h
          subst hQ
          exact W.zret (v := bI false) hx hb hr (bI_n false) (fun t ht hW => ⟨⟨bI false, (), rfl, ⟨rfl, trivial⟩, by rw [ht]; exact hP, hD⟩, hS.F ht⟩) hS.2.2 dX5_spread_81
        · have k_4 : ¬ (f0_rows_impossible = true) := (kx_z c_3)
          have h := cw_f k_4 h
          refine lv_iconst (v := (1 : Int32)) hx hb dX5_spread_76 (by decide) ?_
          refine lv_goto (tgt := 81) hx hb dX5_spread_77 (by decide) ?_
          have h := Option.some.inj h
          subst h
          subst hQ
          exact W.zret (v := bI true) hx hb hr (bI_n true) (fun t ht hW => ⟨⟨bI true, (), rfl, ⟨rfl, trivial⟩, by rw [ht]; exact hP, hD⟩, hS.F ht⟩) hS.2.2 dX5_spread_81
      · have k_2 : x2 = true := (kx_nz c_1)
        have h := cw_t k_2 h
        refine lv_aload_n hx hb dX5_spread_8 rfl (lv_at hl 0 rfl) ?_
        refine va_get (D := D) (ci := 5) (v := .ref q0_rows) (C := RX5) (T := TX5) (N := 4) hx hb hts in_X5_spread_X5 hown hK hP 0 rfl rfl 1 (by decide) lk_0 (fun _ h9 => h9) rfl dX5_spread_9 ?_
        refine va_get (D := D) (ci := 2) (v := .int (bI f0_rows_impossible)) (C := RX2) (T := TX2) (N := 3) hx hb hts in_X5_spread_X2 hown hK hP 1 rfl rfl 2 (by decide) lk_1 (fun _ h9 => h9) rfl dX5_spread_12 ?_
        refine lv_if_ne (tgt := 66) hx hb dX5_spread_15 (by decide) (fun c_5 => ?_) (fun c_5 => ?_)
        · have k_6 : f0_rows_impossible = true := (kx_nz c_5)
          have h := cw_t k_6 h
          refine lv_aload_n hx hb dX5_spread_66 rfl (lv_at hl 0 rfl) ?_
          refine va_get (D := D) (ci := 5) (v := .ref q0_rows) (C := RX5) (T := TX5) (N := 4) hx hb hts in_X5_spread_X5 hown hK hP 0 rfl rfl 1 (by decide) lk_0 (fun _ h9 => h9) rfl dX5_spread_67 ?_
          refine va_get (D := D) (ci := 2) (v := .int (bI f0_rows_impossible)) (C := RX2) (T := TX2) (N := 3) hx hb hts in_X5_spread_X2 hown hK hP 1 rfl rfl 2 (by decide) lk_1 (fun _ h9 => h9) rfl dX5_spread_70 ?_
          refine lv_if_ne (tgt := 80) hx hb dX5_spread_73 (by decide) (fun c_7 => ?_) (fun c_7 => ?_)
          · refine lv_iconst (v := (0 : Int32)) hx hb dX5_spread_80 (by decide) ?_
            have h := Option.some.inj h
            subst h
            subst hQ
            exact W.zret (v := bI false) hx hb hr (bI_n false) (fun t ht hW => ⟨⟨bI false, (), rfl, ⟨rfl, trivial⟩, by rw [ht]; exact hP, hD⟩, hS.F ht⟩) hS.2.2 dX5_spread_81
          · exact absurd k_6 (kx_z c_7)
        · have k_6 : ¬ (f0_rows_impossible = true) := (kx_z c_5)
          have h := cw_f k_6 h
          refine lv_iload_n hx hb dX5_spread_18 rfl (lv_at hl 3 rfl) ?_
          refine lv_bipush (v := (40 : Int32)) hx hb dX5_spread_19 (by decide) ?_
          refine lv_icmp_gt (tgt := 66) hx hb dX5_spread_21 (by decide) (fun c_8 => ?_) (fun c_8 => ?_)
          · have k_9 : (40 : Int32) < x3 := c_8
            have h := cw_t k_9 h
            refine lv_aload_n hx hb dX5_spread_66 rfl (lv_at hl 0 rfl) ?_
            refine va_get (D := D) (ci := 5) (v := .ref q0_rows) (C := RX5) (T := TX5) (N := 4) hx hb hts in_X5_spread_X5 hown hK hP 0 rfl rfl 1 (by decide) lk_0 (fun _ h9 => h9) rfl dX5_spread_67 ?_
            refine va_get (D := D) (ci := 2) (v := .int (bI f0_rows_impossible)) (C := RX2) (T := TX2) (N := 3) hx hb hts in_X5_spread_X2 hown hK hP 1 rfl rfl 2 (by decide) lk_1 (fun _ h9 => h9) rfl dX5_spread_70 ?_
            refine lv_if_ne (tgt := 80) hx hb dX5_spread_73 (by decide) (fun c_10 => ?_) (fun c_10 => ?_)
            · exact absurd (kx_nz c_10) k_6
            · refine lv_iconst (v := (1 : Int32)) hx hb dX5_spread_76 (by decide) ?_
              refine lv_goto (tgt := 81) hx hb dX5_spread_77 (by decide) ?_
              have h := Option.some.inj h
              subst h
              subst hQ
              exact W.zret (v := bI true) hx hb hr (bI_n true) (fun t ht hW => ⟨⟨bI true, (), rfl, ⟨rfl, trivial⟩, by rw [ht]; exact hP, hD⟩, hS.F ht⟩) hS.2.2 dX5_spread_81
          · have k_9 : ¬ ((40 : Int32) < x3) := c_8
            have h := cw_f k_9 h
            refine lv_aload_n hx hb dX5_spread_24 rfl (lv_at hl 0 rfl) ?_
            obtain ⟨u_11, hu_12, h⟩ := cw_b h
            refine kx_v (ws' := fun _ => [(q0, .inr (5, [.int f0_n, .ref q0_rows, .long u_11.1, .long u_11.2.1])), (q0_rows, .inr (2, [.int f0_rows_n, .ref q0_rows_byHead, .int (bI u_11.2.2.1)])), (q0_rows_byHead, .inl (cL, n0_rows_byHead, .inr (.inl u_11.2.2.2))), (q1, .inr (4, [v1_equations, .ref q1_yes, .ref q1_no, v1_equationCount, .int f1_clauseCount, v1_equationsBefore, v1_clausesBefore, v1_levelCount])), (q1_yes, .inl (cL, n1_yes, .inr (.inl h1_yes))), (q1_no, .inl (cL, n1_no, .inr (.inl h1_no)))]) hP hD hS hA [0, 1, 2] [3, 4, 5] [3, 4, 5, 0, 1, 2] rfl rfl (by decide) (by decide) (fun _ => rfl) (by decide) (va_runV (As := []) (rest := []) ⟨hx, hb, hml, hown, hts⟩ (cm_X5_takeFromRows l D cI cL (q0 := q0) (q0_rows := q0_rows) (q0_rows_byHead := q0_rows_byHead) (n0_rows_byHead := n0_rows_byHead) (f0_n := f0_n) (f0_taken := f0_taken) (f0_ones := f0_ones) (f0_rows_n := f0_rows_n) (f0_rows_impossible := f0_rows_impossible) (h0_rows_byHead := h0_rows_byHead) (r0 := u_11) (hr0 := hu_12) (sz := H.size)) (cwV 0 hts gX5_spread_X5_takeFromRows rfl rfl rfl (by decide +kernel) ⟨Nat.le_of_ble_eq_true rfl, Nat.le_of_ble_eq_true rfl⟩) (kx_preV hEV hP hD [0, 1, 2] rfl (by decide) (k0 := 0) (ci := 5) rfl rfl rfl) rfl rfl hl.1 rfl (lv_room (Nat.le_of_ble_eq_true rfl)) dX5_spread_25 ⟨Nat.le_of_ble_eq_true rfl, Nat.le_of_ble_eq_true rfl⟩) (fun _ H locs _ hP hD hS => ?_)
            refine lv_aload_n hx hb dX5_spread_28 rfl (lv_at hl 0 rfl) ?_
            refine va_get (D := D) (ci := 5) (v := .long u_11.1) (C := RX5) (T := TX5) (N := 4) hx hb hts in_X5_spread_X5 hown hK hP 0 rfl rfl 2 (by decide) lk_2 (fun _ h9 => h9) rfl dX5_spread_29 ?_
            refine lv_lstore (lv' := [(4, .long u_11.1), (0, .ref q0), (1, .ref q1), (2, .int (bI x2)), (3, .int x3)]) hx hb dX5_spread_32 hl (by decide) rfl (fun ls hl => ?_)
            refine lv_aload_n hx hb dX5_spread_34 rfl (lv_at hl 1 rfl) ?_
            refine lv_aload_n hx hb dX5_spread_35 rfl (lv_at hl 2 rfl) ?_
            obtain ⟨u_13, hu_14, h⟩ := cw_b h
            refine kx_i (ws' := fun _ => [(q0, .inr (5, [.int f0_n, .ref q0_rows, .long u_13.2.1, .long u_13.2.2.1])), (q0_rows, .inr (2, [.int f0_rows_n, .ref q0_rows_byHead, .int (bI u_13.2.2.2.1)])), (q0_rows_byHead, .inl (cL, n0_rows_byHead, .inr (.inl u_13.2.2.2.2))), (q1, .inr (4, [v1_equations, .ref q1_yes, .ref q1_no, v1_equationCount, .int f1_clauseCount, v1_equationsBefore, v1_clausesBefore, v1_levelCount])), (q1_yes, .inl (cL, n1_yes, .inr (.inl h1_yes))), (q1_no, .inl (cL, n1_no, .inr (.inl h1_no)))]) hP hD hS hA [0, 1, 2, 3, 4, 5] [] [0, 1, 2, 3, 4, 5] rfl rfl (by decide) (by decide) (fun _ => rfl) (by decide) (va_runV (As := [.ref q1]) (rest := []) ⟨hx, hb, hml, hown, hts⟩ (cm_X5_takeFromClauses l D cI cL (q0 := q0) (q0_rows := q0_rows) (q0_rows_byHead := q0_rows_byHead) (q1 := q1) (q1_yes := q1_yes) (q1_no := q1_no) (n0_rows_byHead := n0_rows_byHead) (n1_yes := n1_yes) (n1_no := n1_no) (f0_taken := u_11.1) (f0_ones := u_11.2.1) (f0_rows_n := f0_rows_n) (f0_rows_impossible := u_11.2.2.1) (h0_rows_byHead := u_11.2.2.2) (f1_clauseCount := f1_clauseCount) (h1_yes := h1_yes) (h1_no := h1_no) (v0_n := .int f0_n) (v1_equations := v1_equations) (v1_equationCount := v1_equationCount) (v1_equationsBefore := v1_equationsBefore) (v1_clausesBefore := v1_clausesBefore) (v1_levelCount := v1_levelCount) (r0 := u_13) (hr0 := hu_14) (sz := H.size)) (cwV 1 hts gX5_spread_X5_takeFromClauses rfl rfl rfl (by decide +kernel) ⟨Nat.le_of_ble_eq_true rfl, Nat.le_of_ble_eq_true rfl⟩) (kx_preV hEV hP hD [0, 1, 2, 3, 4, 5] rfl (by decide) (k0 := 0) (ci := 5) rfl rfl rfl) rfl rfl hl.1 rfl (lv_room (Nat.le_of_ble_eq_true rfl)) dX5_spread_36 ⟨Nat.le_of_ble_eq_true rfl, Nat.le_of_ble_eq_true rfl⟩) (fun _ H locs _ hP hD hS => ?_)
            refine lv_if_ne (tgt := 44) hx hb dX5_spread_39 (by decide) (fun c_15 => ?_) (fun c_15 => ?_)
            · have k_16 : u_13.1 = true := (kx_nz c_15)
              have h := cw_t k_16 h
              refine lv_aload_n hx hb dX5_spread_44 rfl (lv_at hl 1 rfl) ?_
              refine va_get (D := D) (ci := 5) (v := .long u_13.2.1) (C := RX5) (T := TX5) (N := 4) hx hb hts in_X5_spread_X5 hown hK hP 0 rfl rfl 2 (by decide) lk_2 (fun _ h9 => h9) rfl dX5_spread_45 ?_
              refine lv_lload hx hb dX5_spread_48 (lv_at hl 0 rfl) ?_
              refine W.lcmp hx hb dX5_spread_50 ?_
              refine lv_if_eq (tgt := 58) hx hb dX5_spread_51 (by decide) (fun c_17 => ?_) (fun c_17 => ?_)
              · have k_18 : u_13.2.1 = u_11.1 := ((lg_cmp_eq _ _).mp c_17)
                have h := cw_t k_18 h
                refine lv_iconst (v := (0 : Int32)) hx hb dX5_spread_58 (by decide) ?_
                refine lv_istore_n (lv' := [(2, .int (0 : Int32)), (4, .long u_11.1), (0, .ref q0), (1, .ref q1), (3, .int x3)]) hx hb dX5_spread_59 rfl hl (by decide) rfl (fun ls hl => ?_)
                refine lv_iinc (v := x3 + (1 : Int32)) (lv' := [(3, .int (x3 + (1 : Int32))), (2, .int (0 : Int32)), (4, .long u_11.1), (0, .ref q0), (1, .ref q1)]) hx hb dX5_spread_60 hl (k := 4) rfl rfl (by decide) rfl (fun ls hl => ?_)
                refine lv_goto (tgt := 4) hx hb dX5_spread_63 (by decide) ?_
                exact ih _ _ _ _ _ _ h _ _ _ hP hD hS (lv_sub hl [3, 4, 1, 0] rfl)
              · have k_18 : ¬ (u_13.2.1 = u_11.1) := (fun z9 => c_17 ((lg_cmp_eq _ _).mpr z9))
                have h := cw_f k_18 h
                refine lv_iconst (v := (1 : Int32)) hx hb dX5_spread_54 (by decide) ?_
                refine lv_goto (tgt := 59) hx hb dX5_spread_55 (by decide) ?_
                refine lv_istore_n (lv' := [(2, .int (1 : Int32)), (4, .long u_11.1), (0, .ref q0), (1, .ref q1), (3, .int x3)]) hx hb dX5_spread_59 rfl hl (by decide) rfl (fun ls hl => ?_)
                refine lv_iinc (v := x3 + (1 : Int32)) (lv' := [(3, .int (x3 + (1 : Int32))), (2, .int (1 : Int32)), (4, .long u_11.1), (0, .ref q0), (1, .ref q1)]) hx hb dX5_spread_60 hl (k := 4) rfl rfl (by decide) rfl (fun ls hl => ?_)
                refine lv_goto (tgt := 4) hx hb dX5_spread_63 (by decide) ?_
                exact ih _ _ _ _ _ _ h _ _ _ hP hD hS (lv_sub hl [3, 4, 1, 0] rfl)
            · have k_16 : ¬ (u_13.1 = true) := (kx_z c_15)
              have h := cw_f k_16 h
              refine lv_iconst (v := (0 : Int32)) hx hb dX5_spread_42 (by decide) ?_
              have h := Option.some.inj h
              subst h
              subst hQ
              exact W.zret (v := bI false) hx hb hr (bI_n false) (fun t ht hW => ⟨⟨bI false, (), rfl, ⟨rfl, trivial⟩, by rw [ht]; exact hP, hD⟩, hS.F ht⟩) hS.2.2 dX5_spread_43
  have h := hr0
  unfold D_X5_spread at h
  refine lv_iconst (v := (1 : Int32)) hx hb dX5_spread_0 (by decide) ?_
  refine lv_istore_n (lv' := [(2, .int (1 : Int32)), (0, .ref q0), (1, .ref q1)]) hx hb dX5_spread_1 rfl hl (by decide) rfl (fun ls hl => ?_)
  refine lv_iconst (v := (0 : Int32)) hx hb dX5_spread_2 (by decide) ?_
  refine lv_istore_n (lv' := [(3, .int (0 : Int32)), (2, .int (1 : Int32)), (0, .ref q0), (1, .ref q1)]) hx hb dX5_spread_3 rfl hl (by decide) rfl (fun ls hl => ?_)
  obtain ⟨n9, hn9⟩ := runw_some h
  exact (hloop n9) _ _ _ _ _ _ hn9 _ _ _ hP hD hS (lv_sub hl [2, 3, 1, 0] rfl)
theorem in_X5_leastOpen_X5 : ∀ w ∈ wsX50, w ∈ wsX5_leastOpen := by decide +kernel
theorem lk_0_X5_leastOpen : Cond.fieldLink RX5 28 "ParityClauses$Taking" "taken" "J" ∈ wsX5_leastOpen := by decide +kernel
theorem lk_1_X5_leastOpen : Cond.constantLong RX5 65 (-1) ∈ wsX5_leastOpen := by decide +kernel
theorem lk_2_X5_leastOpen : Cond.initialized RX7 ∈ wsX5_leastOpen := by decide +kernel
theorem lk_3_X5_leastOpen : Cond.static yX7_leastPlace ∈ wsX5_leastOpen := by decide +kernel
abbrev rm_X5_leastOpen : Room := { frames := 2, cells := 0, slots := 0, locals := 42 }
set_option maxHeartbeats 4000000 in
set_option maxRecDepth 100000 in
theorem cm_X5_leastOpen (l : Launch) (D : va_G) (cI cL : ClassId) (q0 : Nat) (f0_taken : Int64) (v0_n v0_rows v0_ones : Value) (r0 : Int32) (hr0 : D_X5_leastOpen f0_taken = some r0) (sz : Nat) : Met l yX5_leastOpen wsX5_leastOpen rm_X5_leastOpen (PcW D cI cL [.ref q0] [(q0, .inr (5, [v0_n, v0_rows, .long f0_taken, v0_ones]))] sz) (QiW D [(q0, .inr (5, [v0_n, v0_rows, .long f0_taken, v0_ones]))] r0 (fun _ : Unit => [(q0, .inr (5, [v0_n, v0_rows, .long f0_taken, v0_ones]))]) tU sz) 0 0 (va_A [(q0, .inr (5, [v0_n, v0_rows, .long f0_taken, v0_ones]))] sz) := by
  refine Met.ofW (cc := cX5_leastOpen) (maxL := 1) (ret := (some .int)) (by decide) rfl ?_
  intro p e s m args below meth c s₁ B hml hv
  obtain ⟨hargs, hsz, hP, hEV, hD0⟩ := hv
  have hx := B.exec
  have hb := B.bytes
  have hr := B.returns
  have hts := atoms_spec (ws := wsX5_leastOpen) B.pre
  have hown : s.vm.findClass RX5 = some m.cls := findClass_of_methodNamed B.named
  have hlocks := B.notSynchronized
  have hK := hEV.K
  have lk_0 := hts _ lk_0_X5_leastOpen
  have lk_1 := hts _ lk_1_X5_leastOpen
  have lk_2 := hts _ lk_2_X5_leastOpen
  have lk_3 := hts _ lk_3_X5_leastOpen
  subst hsz
  unfold QiW PoW
  have hD := hD0.self (sz := s.heap.size)
  generalize hAe : va_A [(q0, .inr (5, [v0_n, v0_rows, .long f0_taken, v0_ones]))] s.heap.size = A at hD ⊢
  have hA : ∀ q : Nat, s.heap.size ≤ q → A q := fun q h => by rw [← hAe]; exact Or.inr h
  have hent : entryFrame m args 1 = entryFrame m ([.ref q0] : List Value).toArray 1 := by rw [hargs]
  rw [hent]
  refine kx_Q (fun Q hQ => ?_)
  refine kx_H (fun H hH => ?_)
  have hP : va_P D vwCl [(q0, .inr (5, [v0_n, v0_rows, .long f0_taken, v0_ones]))] H := by rw [hH]; exact hP
  have hS : va_S A s.heap H [] := by rw [hH]; exact va_S.rf
  have hl := lv_entry ([.ref q0]) (n := 1) (Nat.le_of_ble_eq_true rfl)
  rw [lg_entry_eq]
  generalize (lg_sl ([.ref q0]) ++ List.replicate (1 - (lg_sl ([.ref q0])).length) Slot.unset).toArray = ls at hl ⊢
  have hl : lv_has ls 1 [(0, .ref q0)] := hl
  have h := hr0
  unfold D_X5_leastOpen at h
  refine lv_aload_n hx hb dX5_leastOpen_0 rfl (lv_at hl 0 rfl) ?_
  refine va_get (D := D) (ci := 5) (v := .long f0_taken) (C := RX5) (T := TX5) (N := 4) hx hb hts in_X5_leastOpen_X5 hown hK hP 0 rfl rfl 2 (by decide) lk_0 (fun _ h9 => h9) rfl dX5_leastOpen_1 ?_
  refine lv_ldc2 hx hb hown lk_1 dX5_leastOpen_4 ?_
  refine lv_lxor hx hb dX5_leastOpen_7 ?_
  obtain ⟨u_1, hu_2, h⟩ := co_b h
  refine kx_i (ws' := fun _ => [(q0, .inr (5, [v0_n, v0_rows, .long f0_taken, v0_ones]))]) hP hD hS hA [] [0] [0] rfl rfl (by decide) (by decide) (fun _ => rfl) (by decide) (va_runSN (As := [.long (f0_taken ^^^ (-1 : Int64))]) (rest := []) ⟨hx, hb, hml, hown, hts⟩ (cm_X7_leastPlace l D cI cL (x0 := f0_taken ^^^ (-1 : Int64)) (r0 := u_1) (hr0 := hu_2) (sz := H.size)) ⟨va_cnB 1 hts gX5_leastOpen_X7_leastPlace_n67 rfl rfl rfl hEV.2.2.2.2.2 lk_2 (by decide +kernel) ⟨Nat.le_of_ble_eq_true rfl, Nat.le_of_ble_eq_true rfl⟩, lk_3, trivial⟩ (kx_preS hEV hP hD [] rfl (by decide)) rfl rfl hl.1 rfl (lv_room (Nat.le_of_ble_eq_true rfl)) dX5_leastOpen_8 ⟨Nat.le_of_ble_eq_true rfl, Nat.le_of_ble_eq_true rfl⟩) (fun _ H locs _ hP hD hS => ?_)
  have h := Option.some.inj h
  subst h
  subst hQ
  exact W.iret (v := u_1) hx hb hr (fun t ht hW => ⟨⟨u_1, (), rfl, ⟨rfl, trivial⟩, by rw [ht]; exact hP, hD⟩, hS.F ht⟩) hS.2.2 dX5_leastOpen_11
theorem in_X5_isFull_X5 : ∀ w ∈ wsX50, w ∈ wsX5_isFull := by decide +kernel
theorem lk_0_X5_isFull : Cond.fieldLink RX5 9 "ParityClauses$Taking" "n" "I" ∈ wsX5_isFull := by decide +kernel
abbrev rm_X5_isFull : Room := { frames := 3, cells := 0, slots := 0, locals := 62 }
set_option maxHeartbeats 4000000 in
set_option maxRecDepth 100000 in
theorem cm_X5_isFull (l : Launch) (D : va_G) (cI cL : ClassId) (q0 : Nat) (f0_n : Int32) (f0_taken : Int64) (v0_rows v0_ones : Value) (r0 : Bool) (hr0 : D_X5_isFull f0_n f0_taken = some r0) (sz : Nat) : Met l yX5_isFull wsX5_isFull rm_X5_isFull (PcW D cI cL [.ref q0] [(q0, .inr (5, [.int f0_n, v0_rows, .long f0_taken, v0_ones]))] sz) (QiW D [(q0, .inr (5, [.int f0_n, v0_rows, .long f0_taken, v0_ones]))] (bI r0) (fun _ : Unit => [(q0, .inr (5, [.int f0_n, v0_rows, .long f0_taken, v0_ones]))]) tU sz) 0 0 (va_A [(q0, .inr (5, [.int f0_n, v0_rows, .long f0_taken, v0_ones]))] sz) := by
  refine Met.ofW (cc := cX5_isFull) (maxL := 1) (ret := (some .boolean)) (by decide) rfl ?_
  intro p e s m args below meth c s₁ B hml hv
  obtain ⟨hargs, hsz, hP, hEV, hD0⟩ := hv
  have hx := B.exec
  have hb := B.bytes
  have hr := B.returns
  have hts := atoms_spec (ws := wsX5_isFull) B.pre
  have hown : s.vm.findClass RX5 = some m.cls := findClass_of_methodNamed B.named
  have hlocks := B.notSynchronized
  have hK := hEV.K
  have lk_0 := hts _ lk_0_X5_isFull
  subst hsz
  unfold QiW PoW
  have hD := hD0.self (sz := s.heap.size)
  generalize hAe : va_A [(q0, .inr (5, [.int f0_n, v0_rows, .long f0_taken, v0_ones]))] s.heap.size = A at hD ⊢
  have hA : ∀ q : Nat, s.heap.size ≤ q → A q := fun q h => by rw [← hAe]; exact Or.inr h
  have hent : entryFrame m args 1 = entryFrame m ([.ref q0] : List Value).toArray 1 := by rw [hargs]
  rw [hent]
  refine kx_Q (fun Q hQ => ?_)
  refine kx_H (fun H hH => ?_)
  have hP : va_P D vwCl [(q0, .inr (5, [.int f0_n, v0_rows, .long f0_taken, v0_ones]))] H := by rw [hH]; exact hP
  have hS : va_S A s.heap H [] := by rw [hH]; exact va_S.rf
  have hl := lv_entry ([.ref q0]) (n := 1) (Nat.le_of_ble_eq_true rfl)
  rw [lg_entry_eq]
  generalize (lg_sl ([.ref q0]) ++ List.replicate (1 - (lg_sl ([.ref q0])).length) Slot.unset).toArray = ls at hl ⊢
  have hl : lv_has ls 1 [(0, .ref q0)] := hl
  have h := hr0
  unfold D_X5_isFull at h
  refine lv_aload_n hx hb dX5_isFull_0 rfl (lv_at hl 0 rfl) ?_
  obtain ⟨u_1, hu_2, h⟩ := co_b h
  refine kx_i (ws' := fun _ => [(q0, .inr (5, [.int f0_n, v0_rows, .long f0_taken, v0_ones]))]) hP hD hS hA [0] [] [0] rfl rfl (by decide) (by decide) (fun _ => rfl) (by decide) (va_runV (As := []) (rest := []) ⟨hx, hb, hml, hown, hts⟩ (cm_X5_leastOpen l D cI cL (q0 := q0) (f0_taken := f0_taken) (v0_n := .int f0_n) (v0_rows := v0_rows) (v0_ones := v0_ones) (r0 := u_1) (hr0 := hu_2) (sz := H.size)) (cwV 0 hts gX5_isFull_X5_leastOpen rfl rfl rfl (by decide +kernel) ⟨Nat.le_of_ble_eq_true rfl, Nat.le_of_ble_eq_true rfl⟩) (kx_preV hEV hP hD [0] rfl (by decide) (k0 := 0) (ci := 5) rfl rfl rfl) rfl rfl hl.1 rfl (lv_room (Nat.le_of_ble_eq_true rfl)) dX5_isFull_1 ⟨Nat.le_of_ble_eq_true rfl, Nat.le_of_ble_eq_true rfl⟩) (fun _ H locs _ hP hD hS => ?_)
  refine lv_aload_n hx hb dX5_isFull_4 rfl (lv_at hl 0 rfl) ?_
  refine va_get (D := D) (ci := 5) (v := .int f0_n) (C := RX5) (T := TX5) (N := 4) hx hb hts in_X5_isFull_X5 hown hK hP 0 rfl rfl 0 (by decide) lk_0 (fun _ h9 => h9) rfl dX5_isFull_5 ?_
  refine lv_icmp_lt (tgt := 15) hx hb dX5_isFull_8 (by decide) (fun c_3 => ?_) (fun c_3 => ?_)
  · have k_4 : u_1 < f0_n := c_3
    have h := co_t k_4 h
    refine lv_iconst (v := (0 : Int32)) hx hb dX5_isFull_15 (by decide) ?_
    have h := Option.some.inj h
    subst h
    subst hQ
    exact W.zret (v := bI false) hx hb hr (bI_n false) (fun t ht hW => ⟨⟨bI false, (), rfl, ⟨rfl, trivial⟩, by rw [ht]; exact hP, hD⟩, hS.F ht⟩) hS.2.2 dX5_isFull_16
  · have k_4 : ¬ (u_1 < f0_n) := c_3
    have h := co_f k_4 h
    refine lv_iconst (v := (1 : Int32)) hx hb dX5_isFull_11 (by decide) ?_
    refine lv_goto (tgt := 16) hx hb dX5_isFull_12 (by decide) ?_
    have h := Option.some.inj h
    subst h
    subst hQ
    exact W.zret (v := bI true) hx hb hr (bI_n true) (fun t ht hW => ⟨⟨bI true, (), rfl, ⟨rfl, trivial⟩, by rw [ht]; exact hP, hD⟩, hS.F ht⟩) hS.2.2 dX5_isFull_16
theorem in_X3_pile_X2 : ∀ w ∈ wsX20, w ∈ wsX3_pile := by decide +kernel
theorem in_X3_pile_X3 : ∀ w ∈ wsX30, w ∈ wsX3_pile := by decide +kernel
theorem in_X3_pile_X5 : ∀ w ∈ wsX50, w ∈ wsX3_pile := by decide +kernel
theorem lk_0_X3_pile : Cond.fieldLink RX3 36 "ParityClauses$Search" "pileSize" "I" ∈ wsX3_pile := by decide +kernel
theorem lk_1_X3_pile : Cond.fieldLink RX3 7 "ParityClauses$Search" "n" "I" ∈ wsX3_pile := by decide +kernel
theorem lk_2_X3_pile : Cond.fieldLink RX3 18 "ParityClauses$Search" "start" "LParityClauses$Taking;" ∈ wsX3_pile := by decide +kernel
theorem lk_3_X3_pile : Cond.fieldLink RX3 82 "ParityClauses$Rows" "byHead" "[J" ∈ wsX3_pile := by decide +kernel
theorem lk_4_X3_pile : Cond.fieldLink RX3 22 "ParityClauses$Search" "pileRows" "[J" ∈ wsX3_pile := by decide +kernel
theorem lk_5_X3_pile : Cond.methodLink RX3 87 arraycopyName ∈ wsX3_pile := by decide +kernel
theorem lk_6_X3_pile : Cond.native arraycopyName ∈ wsX3_pile := by decide +kernel
theorem lk_7_X3_pile : Cond.static arraycopyName ∈ wsX3_pile := by decide +kernel
theorem lk_8_X3_pile : Cond.initialized "java/lang/System" ∈ wsX3_pile := by decide +kernel
theorem lk_9_X3_pile : Cond.fieldLink RX3 26 "ParityClauses$Search" "pileTaken" "[J" ∈ wsX3_pile := by decide +kernel
theorem lk_10_X3_pile : Cond.fieldLink RX3 93 "ParityClauses$Taking" "taken" "J" ∈ wsX3_pile := by decide +kernel
theorem lk_11_X3_pile : Cond.fieldLink RX3 29 "ParityClauses$Search" "pileOnes" "[J" ∈ wsX3_pile := by decide +kernel
theorem lk_12_X3_pile : Cond.fieldLink RX3 57 "ParityClauses$Taking" "ones" "J" ∈ wsX3_pile := by decide +kernel
abbrev rm_X3_pile : Room := { frames := 1, cells := 0, slots := 0, locals := 40 }
set_option maxHeartbeats 4000000 in
set_option maxRecDepth 100000 in
theorem cm_X3_pile (l : Launch) (D : va_G) (cI cL : ClassId) (q0 q0_start q0_start_rows q0_start_rows_byHead q0_pileRows q0_pileTaken q0_pileOnes : Nat) (n0_start_rows_byHead n0_pileRows n0_pileTaken n0_pileOnes : Nat) (f0_n : Int32) (f0_pileSize : Int32) (f0_start_taken : Int64) (f0_start_ones : Int64) (h0_start_rows_byHead : Nat → Int64) (h0_pileRows : Nat → Int64) (h0_pileTaken : Nat → Int64) (h0_pileOnes : Nat → Int64) (v0_nodeCount v0_modelCount v0_lastModel v0_cut v0_start_n v0_start_rows_n v0_start_rows_impossible : Value) (r0 : Int32 × (Nat → Int64) × (Nat → Int64) × (Nat → Int64)) (hr0 : D_X3_pile f0_n f0_pileSize f0_start_taken f0_start_ones n0_start_rows_byHead h0_start_rows_byHead n0_pileRows h0_pileRows n0_pileTaken h0_pileTaken n0_pileOnes h0_pileOnes = some r0) (sz : Nat) : Met l yX3_pile wsX3_pile rm_X3_pile (PcW D cI cL [.ref q0] [(q0, .inr (3, [.int f0_n, .ref q0_start, .ref q0_pileRows, .ref q0_pileTaken, .ref q0_pileOnes, .int f0_pileSize, v0_nodeCount, v0_modelCount, v0_lastModel, v0_cut])), (q0_start, .inr (5, [v0_start_n, .ref q0_start_rows, .long f0_start_taken, .long f0_start_ones])), (q0_start_rows, .inr (2, [v0_start_rows_n, .ref q0_start_rows_byHead, v0_start_rows_impossible])), (q0_start_rows_byHead, .inl (cL, n0_start_rows_byHead, .inr (.inl h0_start_rows_byHead))), (q0_pileRows, .inl (cL, n0_pileRows, .inr (.inl h0_pileRows))), (q0_pileTaken, .inl (cL, n0_pileTaken, .inr (.inl h0_pileTaken))), (q0_pileOnes, .inl (cL, n0_pileOnes, .inr (.inl h0_pileOnes)))] sz) (QvW D [(q0, .inr (3, [.int f0_n, .ref q0_start, .ref q0_pileRows, .ref q0_pileTaken, .ref q0_pileOnes, .int f0_pileSize, v0_nodeCount, v0_modelCount, v0_lastModel, v0_cut])), (q0_start, .inr (5, [v0_start_n, .ref q0_start_rows, .long f0_start_taken, .long f0_start_ones])), (q0_start_rows, .inr (2, [v0_start_rows_n, .ref q0_start_rows_byHead, v0_start_rows_impossible])), (q0_start_rows_byHead, .inl (cL, n0_start_rows_byHead, .inr (.inl h0_start_rows_byHead))), (q0_pileRows, .inl (cL, n0_pileRows, .inr (.inl h0_pileRows))), (q0_pileTaken, .inl (cL, n0_pileTaken, .inr (.inl h0_pileTaken))), (q0_pileOnes, .inl (cL, n0_pileOnes, .inr (.inl h0_pileOnes)))] (fun _ : Unit => [(q0, .inr (3, [.int f0_n, .ref q0_start, .ref q0_pileRows, .ref q0_pileTaken, .ref q0_pileOnes, .int r0.1, v0_nodeCount, v0_modelCount, v0_lastModel, v0_cut])), (q0_start, .inr (5, [v0_start_n, .ref q0_start_rows, .long f0_start_taken, .long f0_start_ones])), (q0_start_rows, .inr (2, [v0_start_rows_n, .ref q0_start_rows_byHead, v0_start_rows_impossible])), (q0_start_rows_byHead, .inl (cL, n0_start_rows_byHead, .inr (.inl h0_start_rows_byHead))), (q0_pileRows, .inl (cL, n0_pileRows, .inr (.inl r0.2.1))), (q0_pileTaken, .inl (cL, n0_pileTaken, .inr (.inl r0.2.2.1))), (q0_pileOnes, .inl (cL, n0_pileOnes, .inr (.inl r0.2.2.2)))]) tU sz) 0 0 (va_A [(q0, .inr (3, [.int f0_n, .ref q0_start, .ref q0_pileRows, .ref q0_pileTaken, .ref q0_pileOnes, .int f0_pileSize, v0_nodeCount, v0_modelCount, v0_lastModel, v0_cut])), (q0_start, .inr (5, [v0_start_n, .ref q0_start_rows, .long f0_start_taken, .long f0_start_ones])), (q0_start_rows, .inr (2, [v0_start_rows_n, .ref q0_start_rows_byHead, v0_start_rows_impossible])), (q0_start_rows_byHead, .inl (cL, n0_start_rows_byHead, .inr (.inl h0_start_rows_byHead))), (q0_pileRows, .inl (cL, n0_pileRows, .inr (.inl h0_pileRows))), (q0_pileTaken, .inl (cL, n0_pileTaken, .inr (.inl h0_pileTaken))), (q0_pileOnes, .inl (cL, n0_pileOnes, .inr (.inl h0_pileOnes)))] sz) := by
  refine Met.ofW (cc := cX3_pile) (maxL := 1) (ret := none) (by decide) rfl ?_
  intro p e s m args below meth c s₁ B hml hv
  obtain ⟨hargs, hsz, hP, hEV, hD0⟩ := hv
  have hx := B.exec
  have hb := B.bytes
  have hr := B.returns
  have hts := atoms_spec (ws := wsX3_pile) B.pre
  have hown : s.vm.findClass RX3 = some m.cls := findClass_of_methodNamed B.named
  have hlocks := B.notSynchronized
  have hK := hEV.K
  have lk_0 := hts _ lk_0_X3_pile
  have lk_1 := hts _ lk_1_X3_pile
  have lk_2 := hts _ lk_2_X3_pile
  have lk_3 := hts _ lk_3_X3_pile
  have lk_4 := hts _ lk_4_X3_pile
  have lk_5 := hts _ lk_5_X3_pile
  have lk_6 := hts _ lk_6_X3_pile
  have lk_7 := hts _ lk_7_X3_pile
  have lk_8 := hts _ lk_8_X3_pile
  have lk_9 := hts _ lk_9_X3_pile
  have lk_10 := hts _ lk_10_X3_pile
  have lk_11 := hts _ lk_11_X3_pile
  have lk_12 := hts _ lk_12_X3_pile
  subst hsz
  unfold QvW PoW
  have hD := hD0.self (sz := s.heap.size)
  generalize hAe : va_A [(q0, .inr (3, [.int f0_n, .ref q0_start, .ref q0_pileRows, .ref q0_pileTaken, .ref q0_pileOnes, .int f0_pileSize, v0_nodeCount, v0_modelCount, v0_lastModel, v0_cut])), (q0_start, .inr (5, [v0_start_n, .ref q0_start_rows, .long f0_start_taken, .long f0_start_ones])), (q0_start_rows, .inr (2, [v0_start_rows_n, .ref q0_start_rows_byHead, v0_start_rows_impossible])), (q0_start_rows_byHead, .inl (cL, n0_start_rows_byHead, .inr (.inl h0_start_rows_byHead))), (q0_pileRows, .inl (cL, n0_pileRows, .inr (.inl h0_pileRows))), (q0_pileTaken, .inl (cL, n0_pileTaken, .inr (.inl h0_pileTaken))), (q0_pileOnes, .inl (cL, n0_pileOnes, .inr (.inl h0_pileOnes)))] s.heap.size = A at hD ⊢
  have hA : ∀ q : Nat, s.heap.size ≤ q → A q := fun q h => by rw [← hAe]; exact Or.inr h
  have hent : entryFrame m args 1 = entryFrame m ([.ref q0] : List Value).toArray 1 := by rw [hargs]
  rw [hent]
  refine kx_Q (fun Q hQ => ?_)
  refine kx_H (fun H hH => ?_)
  have hP : va_P D vwCl [(q0, .inr (3, [.int f0_n, .ref q0_start, .ref q0_pileRows, .ref q0_pileTaken, .ref q0_pileOnes, .int f0_pileSize, v0_nodeCount, v0_modelCount, v0_lastModel, v0_cut])), (q0_start, .inr (5, [v0_start_n, .ref q0_start_rows, .long f0_start_taken, .long f0_start_ones])), (q0_start_rows, .inr (2, [v0_start_rows_n, .ref q0_start_rows_byHead, v0_start_rows_impossible])), (q0_start_rows_byHead, .inl (cL, n0_start_rows_byHead, .inr (.inl h0_start_rows_byHead))), (q0_pileRows, .inl (cL, n0_pileRows, .inr (.inl h0_pileRows))), (q0_pileTaken, .inl (cL, n0_pileTaken, .inr (.inl h0_pileTaken))), (q0_pileOnes, .inl (cL, n0_pileOnes, .inr (.inl h0_pileOnes)))] H := by rw [hH]; exact hP
  have hS : va_S A s.heap H [] := by rw [hH]; exact va_S.rf
  have hl := lv_entry ([.ref q0]) (n := 1) (Nat.le_of_ble_eq_true rfl)
  rw [lg_entry_eq]
  generalize (lg_sl ([.ref q0]) ++ List.replicate (1 - (lg_sl ([.ref q0])).length) Slot.unset).toArray = ls at hl ⊢
  have hl : lv_has ls 1 [(0, .ref q0)] := hl
  have h := hr0
  unfold D_X3_pile at h
  refine lv_aload_n hx hb dX3_pile_0 rfl (lv_at hl 0 rfl) ?_
  refine va_get (D := D) (ci := 3) (v := .int f0_pileSize) (C := RX3) (T := TX3) (N := 10) hx hb hts in_X3_pile_X3 hown hK hP 0 rfl rfl 5 (by decide) lk_0 (fun _ h9 => h9) rfl dX3_pile_1 ?_
  refine lv_aload_n hx hb dX3_pile_4 rfl (lv_at hl 0 rfl) ?_
  refine va_get (D := D) (ci := 3) (v := .int f0_n) (C := RX3) (T := TX3) (N := 10) hx hb hts in_X3_pile_X3 hown hK hP 0 rfl rfl 0 (by decide) lk_1 (fun _ h9 => h9) rfl dX3_pile_5 ?_
  refine lv_icmp_ge (tgt := 84) hx hb dX3_pile_8 (by decide) (fun c_1 => ?_) (fun c_1 => ?_)
  · have k_2 : f0_n ≤ f0_pileSize := c_1
    have h := co_t k_2 h
    have h := Option.some.inj h
    subst h
    subst hQ
    exact W.vret hx hb hr (fun t ht hW => ⟨⟨(), rfl, trivial, by rw [ht]; exact hP, hD⟩, hS.F ht⟩) hS.2.2 dX3_pile_84
  · have k_2 : ¬ (f0_n ≤ f0_pileSize) := c_1
    have h := co_f k_2 h
    refine lv_aload_n hx hb dX3_pile_11 rfl (lv_at hl 0 rfl) ?_
    refine va_get (D := D) (ci := 3) (v := .ref q0_start) (C := RX3) (T := TX3) (N := 10) hx hb hts in_X3_pile_X3 hown hK hP 0 rfl rfl 1 (by decide) lk_2 (fun _ h9 => h9) rfl dX3_pile_12 ?_
    refine va_getN (D := D) (ci := 5) (v := .ref q0_start_rows) (C := RX5) (T := TX5) (N := 4) (host := "ParityClauses") hx hb hts in_X3_pile_X5 hown hK hP 1 rfl rfl 1 (by decide) (va_Nw.use rfl hEV.2.1) (fun _ h9 => h9) rfl dX3_pile_15 ?_
    refine va_get (D := D) (ci := 2) (v := .ref q0_start_rows_byHead) (C := RX2) (T := TX2) (N := 3) hx hb hts in_X3_pile_X2 hown hK hP 2 rfl rfl 1 (by decide) lk_3 (fun _ h9 => h9) rfl dX3_pile_18 ?_
    refine lv_iconst (v := (0 : Int32)) hx hb dX3_pile_21 (by decide) ?_
    refine lv_aload_n hx hb dX3_pile_22 rfl (lv_at hl 0 rfl) ?_
    refine va_get (D := D) (ci := 3) (v := .ref q0_pileRows) (C := RX3) (T := TX3) (N := 10) hx hb hts in_X3_pile_X3 hown hK hP 0 rfl rfl 2 (by decide) lk_4 (fun _ h9 => h9) rfl dX3_pile_23 ?_
    refine lv_aload_n hx hb dX3_pile_26 rfl (lv_at hl 0 rfl) ?_
    refine va_get (D := D) (ci := 3) (v := .int f0_pileSize) (C := RX3) (T := TX3) (N := 10) hx hb hts in_X3_pile_X3 hown hK hP 0 rfl rfl 5 (by decide) lk_0 (fun _ h9 => h9) rfl dX3_pile_27 ?_
    refine lv_aload_n hx hb dX3_pile_30 rfl (lv_at hl 0 rfl) ?_
    refine va_get (D := D) (ci := 3) (v := .int f0_n) (C := RX3) (T := TX3) (N := 10) hx hb hts in_X3_pile_X3 hown hK hP 0 rfl rfl 0 (by decide) lk_1 (fun _ h9 => h9) rfl dX3_pile_31 ?_
    refine lv_imul hx hb dX3_pile_34 ?_
    refine lv_aload_n hx hb dX3_pile_35 rfl (lv_at hl 0 rfl) ?_
    refine va_get (D := D) (ci := 3) (v := .int f0_n) (C := RX3) (T := TX3) (N := 10) hx hb hts in_X3_pile_X3 hown hK hP 0 rfl rfl 0 (by decide) lk_1 (fun _ h9 => h9) rfl dX3_pile_36 ?_
    obtain ⟨⟨b_31, b_32, b_33, b_34, b_35⟩, h⟩ := co_i h
    refine va_copyl (ty := .long) hx hb (by rw [hml]; exact hl.1.symm) hown lk_5 lk_6 lk_7 lk_8 hK hP hD hS 3 4 1 1 rfl rfl rfl rfl rfl b_31 b_32 b_33 b_34 b_35 (fun _ _ => rfl) (Nat.le_of_ble_eq_true rfl) (Nat.le_of_ble_eq_true rfl) dX3_pile_39 (fun H locs hP hD hS => ?_)
    have hP : va_P D vwCl [(q0, .inr (3, [.int f0_n, .ref q0_start, .ref q0_pileRows, .ref q0_pileTaken, .ref q0_pileOnes, .int f0_pileSize, v0_nodeCount, v0_modelCount, v0_lastModel, v0_cut])), (q0_start, .inr (5, [v0_start_n, .ref q0_start_rows, .long f0_start_taken, .long f0_start_ones])), (q0_start_rows, .inr (2, [v0_start_rows_n, .ref q0_start_rows_byHead, v0_start_rows_impossible])), (q0_start_rows_byHead, .inl (cL, n0_start_rows_byHead, .inr (.inl h0_start_rows_byHead))), (q0_pileRows, .inl (cL, n0_pileRows, .inr (.inl (va_cpy h0_start_rows_byHead h0_pileRows (0 : Int32).toNatClampNeg (f0_pileSize * f0_n).toNatClampNeg f0_n.toNatClampNeg)))), (q0_pileTaken, .inl (cL, n0_pileTaken, .inr (.inl h0_pileTaken))), (q0_pileOnes, .inl (cL, n0_pileOnes, .inr (.inl h0_pileOnes)))] H := hP
    have hD : va_D A [(q0, .inr (3, [.int f0_n, .ref q0_start, .ref q0_pileRows, .ref q0_pileTaken, .ref q0_pileOnes, .int f0_pileSize, v0_nodeCount, v0_modelCount, v0_lastModel, v0_cut])), (q0_start, .inr (5, [v0_start_n, .ref q0_start_rows, .long f0_start_taken, .long f0_start_ones])), (q0_start_rows, .inr (2, [v0_start_rows_n, .ref q0_start_rows_byHead, v0_start_rows_impossible])), (q0_start_rows_byHead, .inl (cL, n0_start_rows_byHead, .inr (.inl h0_start_rows_byHead))), (q0_pileRows, .inl (cL, n0_pileRows, .inr (.inl (va_cpy h0_start_rows_byHead h0_pileRows (0 : Int32).toNatClampNeg (f0_pileSize * f0_n).toNatClampNeg f0_n.toNatClampNeg)))), (q0_pileTaken, .inl (cL, n0_pileTaken, .inr (.inl h0_pileTaken))), (q0_pileOnes, .inl (cL, n0_pileOnes, .inr (.inl h0_pileOnes)))] := hD
    refine lv_aload_n hx hb dX3_pile_42 rfl (lv_at hl 0 rfl) ?_
    refine va_get (D := D) (ci := 3) (v := .ref q0_pileTaken) (C := RX3) (T := TX3) (N := 10) hx hb hts in_X3_pile_X3 hown hK hP 0 rfl rfl 3 (by decide) lk_9 (fun _ h9 => h9) rfl dX3_pile_43 ?_
    refine lv_aload_n hx hb dX3_pile_46 rfl (lv_at hl 0 rfl) ?_
    refine va_get (D := D) (ci := 3) (v := .int f0_pileSize) (C := RX3) (T := TX3) (N := 10) hx hb hts in_X3_pile_X3 hown hK hP 0 rfl rfl 5 (by decide) lk_0 (fun _ h9 => h9) rfl dX3_pile_47 ?_
    refine lv_aload_n hx hb dX3_pile_50 rfl (lv_at hl 0 rfl) ?_
    refine va_get (D := D) (ci := 3) (v := .ref q0_start) (C := RX3) (T := TX3) (N := 10) hx hb hts in_X3_pile_X3 hown hK hP 0 rfl rfl 1 (by decide) lk_2 (fun _ h9 => h9) rfl dX3_pile_51 ?_
    refine va_get (D := D) (ci := 5) (v := .long f0_start_taken) (C := RX5) (T := TX5) (N := 4) hx hb hts in_X3_pile_X5 hown hK hP 1 rfl rfl 2 (by decide) lk_10 (fun _ h9 => h9) rfl dX3_pile_54 ?_
    obtain ⟨b_4, h⟩ := co_i h
    refine va_last hx hb hK hP hD hS 5 1 rfl rfl b_4 dX3_pile_57 (fun H locs hP hD hS => ?_)
    have hP : va_P D vwCl [(q0, .inr (3, [.int f0_n, .ref q0_start, .ref q0_pileRows, .ref q0_pileTaken, .ref q0_pileOnes, .int f0_pileSize, v0_nodeCount, v0_modelCount, v0_lastModel, v0_cut])), (q0_start, .inr (5, [v0_start_n, .ref q0_start_rows, .long f0_start_taken, .long f0_start_ones])), (q0_start_rows, .inr (2, [v0_start_rows_n, .ref q0_start_rows_byHead, v0_start_rows_impossible])), (q0_start_rows_byHead, .inl (cL, n0_start_rows_byHead, .inr (.inl h0_start_rows_byHead))), (q0_pileRows, .inl (cL, n0_pileRows, .inr (.inl (va_cpy h0_start_rows_byHead h0_pileRows (0 : Int32).toNatClampNeg (f0_pileSize * f0_n).toNatClampNeg f0_n.toNatClampNeg)))), (q0_pileTaken, .inl (cL, n0_pileTaken, .inr (.inl (vp_updL h0_pileTaken f0_pileSize.toNatClampNeg f0_start_taken)))), (q0_pileOnes, .inl (cL, n0_pileOnes, .inr (.inl h0_pileOnes)))] H := hP
    have hD : va_D A [(q0, .inr (3, [.int f0_n, .ref q0_start, .ref q0_pileRows, .ref q0_pileTaken, .ref q0_pileOnes, .int f0_pileSize, v0_nodeCount, v0_modelCount, v0_lastModel, v0_cut])), (q0_start, .inr (5, [v0_start_n, .ref q0_start_rows, .long f0_start_taken, .long f0_start_ones])), (q0_start_rows, .inr (2, [v0_start_rows_n, .ref q0_start_rows_byHead, v0_start_rows_impossible])), (q0_start_rows_byHead, .inl (cL, n0_start_rows_byHead, .inr (.inl h0_start_rows_byHead))), (q0_pileRows, .inl (cL, n0_pileRows, .inr (.inl (va_cpy h0_start_rows_byHead h0_pileRows (0 : Int32).toNatClampNeg (f0_pileSize * f0_n).toNatClampNeg f0_n.toNatClampNeg)))), (q0_pileTaken, .inl (cL, n0_pileTaken, .inr (.inl (vp_updL h0_pileTaken f0_pileSize.toNatClampNeg f0_start_taken)))), (q0_pileOnes, .inl (cL, n0_pileOnes, .inr (.inl h0_pileOnes)))] := hD
    refine lv_aload_n hx hb dX3_pile_58 rfl (lv_at hl 0 rfl) ?_
    refine va_get (D := D) (ci := 3) (v := .ref q0_pileOnes) (C := RX3) (T := TX3) (N := 10) hx hb hts in_X3_pile_X3 hown hK hP 0 rfl rfl 4 (by decide) lk_11 (fun _ h9 => h9) rfl dX3_pile_59 ?_
    refine lv_aload_n hx hb dX3_pile_62 rfl (lv_at hl 0 rfl) ?_
    refine va_get (D := D) (ci := 3) (v := .int f0_pileSize) (C := RX3) (T := TX3) (N := 10) hx hb hts in_X3_pile_X3 hown hK hP 0 rfl rfl 5 (by decide) lk_0 (fun _ h9 => h9) rfl dX3_pile_63 ?_
    refine lv_aload_n hx hb dX3_pile_66 rfl (lv_at hl 0 rfl) ?_
    refine va_get (D := D) (ci := 3) (v := .ref q0_start) (C := RX3) (T := TX3) (N := 10) hx hb hts in_X3_pile_X3 hown hK hP 0 rfl rfl 1 (by decide) lk_2 (fun _ h9 => h9) rfl dX3_pile_67 ?_
    refine va_get (D := D) (ci := 5) (v := .long f0_start_ones) (C := RX5) (T := TX5) (N := 4) hx hb hts in_X3_pile_X5 hown hK hP 1 rfl rfl 3 (by decide) lk_12 (fun _ h9 => h9) rfl dX3_pile_70 ?_
    obtain ⟨b_5, h⟩ := co_i h
    refine va_last hx hb hK hP hD hS 6 1 rfl rfl b_5 dX3_pile_73 (fun H locs hP hD hS => ?_)
    have hP : va_P D vwCl [(q0, .inr (3, [.int f0_n, .ref q0_start, .ref q0_pileRows, .ref q0_pileTaken, .ref q0_pileOnes, .int f0_pileSize, v0_nodeCount, v0_modelCount, v0_lastModel, v0_cut])), (q0_start, .inr (5, [v0_start_n, .ref q0_start_rows, .long f0_start_taken, .long f0_start_ones])), (q0_start_rows, .inr (2, [v0_start_rows_n, .ref q0_start_rows_byHead, v0_start_rows_impossible])), (q0_start_rows_byHead, .inl (cL, n0_start_rows_byHead, .inr (.inl h0_start_rows_byHead))), (q0_pileRows, .inl (cL, n0_pileRows, .inr (.inl (va_cpy h0_start_rows_byHead h0_pileRows (0 : Int32).toNatClampNeg (f0_pileSize * f0_n).toNatClampNeg f0_n.toNatClampNeg)))), (q0_pileTaken, .inl (cL, n0_pileTaken, .inr (.inl (vp_updL h0_pileTaken f0_pileSize.toNatClampNeg f0_start_taken)))), (q0_pileOnes, .inl (cL, n0_pileOnes, .inr (.inl (vp_updL h0_pileOnes f0_pileSize.toNatClampNeg f0_start_ones))))] H := hP
    have hD : va_D A [(q0, .inr (3, [.int f0_n, .ref q0_start, .ref q0_pileRows, .ref q0_pileTaken, .ref q0_pileOnes, .int f0_pileSize, v0_nodeCount, v0_modelCount, v0_lastModel, v0_cut])), (q0_start, .inr (5, [v0_start_n, .ref q0_start_rows, .long f0_start_taken, .long f0_start_ones])), (q0_start_rows, .inr (2, [v0_start_rows_n, .ref q0_start_rows_byHead, v0_start_rows_impossible])), (q0_start_rows_byHead, .inl (cL, n0_start_rows_byHead, .inr (.inl h0_start_rows_byHead))), (q0_pileRows, .inl (cL, n0_pileRows, .inr (.inl (va_cpy h0_start_rows_byHead h0_pileRows (0 : Int32).toNatClampNeg (f0_pileSize * f0_n).toNatClampNeg f0_n.toNatClampNeg)))), (q0_pileTaken, .inl (cL, n0_pileTaken, .inr (.inl (vp_updL h0_pileTaken f0_pileSize.toNatClampNeg f0_start_taken)))), (q0_pileOnes, .inl (cL, n0_pileOnes, .inr (.inl (vp_updL h0_pileOnes f0_pileSize.toNatClampNeg f0_start_ones))))] := hD
    refine lv_aload_n hx hb dX3_pile_74 rfl (lv_at hl 0 rfl) ?_
    refine lv_dup hx hb dX3_pile_75 rfl ?_
    refine va_get (D := D) (ci := 3) (v := .int f0_pileSize) (C := RX3) (T := TX3) (N := 10) hx hb hts in_X3_pile_X3 hown hK hP 0 rfl rfl 5 (by decide) lk_0 (fun _ h9 => h9) rfl dX3_pile_76 ?_
    refine lv_iconst (v := (1 : Int32)) hx hb dX3_pile_79 (by decide) ?_
    refine lv_iadd hx hb dX3_pile_80 ?_
    refine va_put (D := D) (ci := 3) (v := .int (f0_pileSize + (1 : Int32))) (ty := .int) (C := RX3) (T := TX3) (N := 10) hx hb hts in_X3_pile_X3 tyX3 tyX3_ok nmX3 hown hK hP hD hS 0 rfl rfl 5 (by decide) lk_0 (fun _ h9 => h9) rfl (by decide +kernel) rfl rfl (Nat.le_of_ble_eq_true rfl) dX3_pile_81 (fun H locs hP hD hS => ?_)
    have hP : va_P D vwCl [(q0, .inr (3, [.int f0_n, .ref q0_start, .ref q0_pileRows, .ref q0_pileTaken, .ref q0_pileOnes, .int (f0_pileSize + (1 : Int32)), v0_nodeCount, v0_modelCount, v0_lastModel, v0_cut])), (q0_start, .inr (5, [v0_start_n, .ref q0_start_rows, .long f0_start_taken, .long f0_start_ones])), (q0_start_rows, .inr (2, [v0_start_rows_n, .ref q0_start_rows_byHead, v0_start_rows_impossible])), (q0_start_rows_byHead, .inl (cL, n0_start_rows_byHead, .inr (.inl h0_start_rows_byHead))), (q0_pileRows, .inl (cL, n0_pileRows, .inr (.inl (va_cpy h0_start_rows_byHead h0_pileRows (0 : Int32).toNatClampNeg (f0_pileSize * f0_n).toNatClampNeg f0_n.toNatClampNeg)))), (q0_pileTaken, .inl (cL, n0_pileTaken, .inr (.inl (vp_updL h0_pileTaken f0_pileSize.toNatClampNeg f0_start_taken)))), (q0_pileOnes, .inl (cL, n0_pileOnes, .inr (.inl (vp_updL h0_pileOnes f0_pileSize.toNatClampNeg f0_start_ones))))] H := hP
    have hD : va_D A [(q0, .inr (3, [.int f0_n, .ref q0_start, .ref q0_pileRows, .ref q0_pileTaken, .ref q0_pileOnes, .int (f0_pileSize + (1 : Int32)), v0_nodeCount, v0_modelCount, v0_lastModel, v0_cut])), (q0_start, .inr (5, [v0_start_n, .ref q0_start_rows, .long f0_start_taken, .long f0_start_ones])), (q0_start_rows, .inr (2, [v0_start_rows_n, .ref q0_start_rows_byHead, v0_start_rows_impossible])), (q0_start_rows_byHead, .inl (cL, n0_start_rows_byHead, .inr (.inl h0_start_rows_byHead))), (q0_pileRows, .inl (cL, n0_pileRows, .inr (.inl (va_cpy h0_start_rows_byHead h0_pileRows (0 : Int32).toNatClampNeg (f0_pileSize * f0_n).toNatClampNeg f0_n.toNatClampNeg)))), (q0_pileTaken, .inl (cL, n0_pileTaken, .inr (.inl (vp_updL h0_pileTaken f0_pileSize.toNatClampNeg f0_start_taken)))), (q0_pileOnes, .inl (cL, n0_pileOnes, .inr (.inl (vp_updL h0_pileOnes f0_pileSize.toNatClampNeg f0_start_ones))))] := hD
    have h := Option.some.inj h
    subst h
    subst hQ
    exact W.vret hx hb hr (fun t ht hW => ⟨⟨(), rfl, trivial, by rw [ht]; exact hP, hD⟩, hS.F ht⟩) hS.2.2 dX3_pile_84
