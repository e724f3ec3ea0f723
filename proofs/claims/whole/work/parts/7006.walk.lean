theorem in_X6_passZero_X6 : ∀ w ∈ wsX60, w ∈ wsX6_passZero := by decide +kernel
theorem lk_0_X6_passZero : Cond.fieldLink RX6 22 "ParityClauses$Tape" "place" "I" ∈ wsX6_passZero := by decide +kernel
abbrev rm_X6_passZero : Room := { frames := 1, cells := 0, slots := 0, locals := 22 }
set_option maxHeartbeats 4000000 in
set_option maxRecDepth 100000 in
theorem cm_X6_passZero (l : Launch) (D : va_G) (cI cL : ClassId) (q0 q0_bytes : Nat) (n0_bytes : Nat) (f0_length : Int32) (f0_fault : Int32) (f0_place : Int32) (h0_bytes : Nat → Int32) (v0_isEquation v0_first v0_second v0_rightIsOne : Value) (r0 : Bool × Int32 × Int32) (hr0 : D_X6_passZero f0_length f0_fault f0_place n0_bytes h0_bytes = some r0) (sz : Nat) : Met l yX6_passZero wsX6_passZero rm_X6_passZero (PcW D cI cL [.ref q0] [(q0, .inr (6, [.ref q0_bytes, .int f0_length, .int f0_fault, .int f0_place, v0_isEquation, v0_first, v0_second, v0_rightIsOne])), (q0_bytes, .inl (cI, n0_bytes, .inl h0_bytes))] sz) (QiW D [(q0, .inr (6, [.ref q0_bytes, .int f0_length, .int f0_fault, .int f0_place, v0_isEquation, v0_first, v0_second, v0_rightIsOne])), (q0_bytes, .inl (cI, n0_bytes, .inl h0_bytes))] (bI r0.1) (fun _ : Unit => [(q0, .inr (6, [.ref q0_bytes, .int f0_length, .int r0.2.1, .int r0.2.2, v0_isEquation, v0_first, v0_second, v0_rightIsOne])), (q0_bytes, .inl (cI, n0_bytes, .inl h0_bytes))]) tU sz) 0 0 (va_A [(q0, .inr (6, [.ref q0_bytes, .int f0_length, .int f0_fault, .int f0_place, v0_isEquation, v0_first, v0_second, v0_rightIsOne])), (q0_bytes, .inl (cI, n0_bytes, .inl h0_bytes))] sz) := by
  refine Met.ofW (cc := cX6_passZero) (maxL := 2) (ret := (some .boolean)) (by decide) rfl ?_
  intro p e s m args below meth c s₁ B hml hv
  obtain ⟨hargs, hsz, hP, hEV, hD0⟩ := hv
  have hx := B.exec
  have hb := B.bytes
  have hr := B.returns
  have hts := atoms_spec (ws := wsX6_passZero) B.pre
  have hown : s.vm.findClass RX6 = some m.cls := findClass_of_methodNamed B.named
  have hlocks := B.notSynchronized
  have hK := hEV.K
  have lk_0 := hts _ lk_0_X6_passZero
  subst hsz
  unfold QiW PoW
  have hD := hD0.self (sz := s.heap.size)
  generalize hAe : va_A [(q0, .inr (6, [.ref q0_bytes, .int f0_length, .int f0_fault, .int f0_place, v0_isEquation, v0_first, v0_second, v0_rightIsOne])), (q0_bytes, .inl (cI, n0_bytes, .inl h0_bytes))] s.heap.size = A at hD ⊢
  have hA : ∀ q : Nat, s.heap.size ≤ q → A q := fun q h => by rw [← hAe]; exact Or.inr h
  have hent : entryFrame m args 2 = entryFrame m ([.ref q0] : List Value).toArray 2 := by rw [hargs]
  rw [hent]
  refine kx_Q (fun Q hQ => ?_)
  refine kx_H (fun H hH => ?_)
  have hP : va_P D vwCl [(q0, .inr (6, [.ref q0_bytes, .int f0_length, .int f0_fault, .int f0_place, v0_isEquation, v0_first, v0_second, v0_rightIsOne])), (q0_bytes, .inl (cI, n0_bytes, .inl h0_bytes))] H := by rw [hH]; exact hP
  have hS : va_S A s.heap H [] := by rw [hH]; exact va_S.rf
  have hl := lv_entry ([.ref q0]) (n := 2) (Nat.le_of_ble_eq_true rfl)
  rw [lg_entry_eq]
  generalize (lg_sl ([.ref q0]) ++ List.replicate (2 - (lg_sl ([.ref q0])).length) Slot.unset).toArray = ls at hl ⊢
  have hl : lv_has ls 2 [(0, .ref q0)] := hl
  have h := hr0
  unfold D_X6_passZero at h
  refine lv_aload_n hx hb dX6_passZero_0 rfl (lv_at hl 0 rfl) ?_
  refine lv_dup hx hb dX6_passZero_1 rfl ?_
  refine va_get (D := D) (ci := 6) (v := .int f0_place) (C := RX6) (T := TX6) (N := 8) hx hb hts in_X6_passZero_X6 hown hK hP 0 rfl rfl 3 (by decide) lk_0 (fun _ h9 => h9) rfl dX6_passZero_2 ?_
  refine lv_iconst (v := (1 : Int32)) hx hb dX6_passZero_5 (by decide) ?_
  refine lv_iadd hx hb dX6_passZero_6 ?_
  refine va_put (D := D) (ci := 6) (v := .int (f0_place + (1 : Int32))) (ty := .int) (C := RX6) (T := TX6) (N := 8) hx hb hts in_X6_passZero_X6 tyX6 tyX6_ok nmX6 hown hK hP hD hS 0 rfl rfl 3 (by decide) lk_0 (fun _ h9 => h9) rfl (by decide +kernel) rfl rfl (Nat.le_of_ble_eq_true rfl) dX6_passZero_7 (fun H locs hP hD hS => ?_)
  have hP : va_P D vwCl [(q0, .inr (6, [.ref q0_bytes, .int f0_length, .int f0_fault, .int (f0_place + (1 : Int32)), v0_isEquation, v0_first, v0_second, v0_rightIsOne])), (q0_bytes, .inl (cI, n0_bytes, .inl h0_bytes))] H := hP
  have hD : va_D A [(q0, .inr (6, [.ref q0_bytes, .int f0_length, .int f0_fault, .int (f0_place + (1 : Int32)), v0_isEquation, v0_first, v0_second, v0_rightIsOne])), (q0_bytes, .inl (cI, n0_bytes, .inl h0_bytes))] := hD
  refine lv_aload_n hx hb dX6_passZero_10 rfl (lv_at hl 0 rfl) ?_
  refine lv_aload_n hx hb dX6_passZero_11 rfl (lv_at hl 0 rfl) ?_
  refine va_get (D := D) (ci := 6) (v := .int (f0_place + (1 : Int32))) (C := RX6) (T := TX6) (N := 8) hx hb hts in_X6_passZero_X6 hown hK hP 0 rfl rfl 3 (by decide) lk_0 (fun _ h9 => h9) rfl dX6_passZero_12 ?_
  obtain ⟨u_1, hu_2, h⟩ := co_b h
  refine kx_i (ws' := fun _ => [(q0, .inr (6, [.ref q0_bytes, .int f0_length, .int f0_fault, .int (f0_place + (1 : Int32)), v0_isEquation, v0_first, v0_second, v0_rightIsOne])), (q0_bytes, .inl (cI, n0_bytes, .inl h0_bytes))]) hP hD hS hA [0, 1] [] [0, 1] rfl rfl (by decide) (by decide) (fun _ => rfl) (by decide) (va_runV (As := [.int (f0_place + (1 : Int32))]) (rest := []) ⟨hx, hb, hml, hown, hts⟩ (cm_X6_byteAt l D cI cL (q0 := q0) (q0_bytes := q0_bytes) (n0_bytes := n0_bytes) (f0_length := f0_length) (h0_bytes := h0_bytes) (v0_fault := .int f0_fault) (v0_place := .int (f0_place + (1 : Int32))) (v0_isEquation := v0_isEquation) (v0_first := v0_first) (v0_second := v0_second) (v0_rightIsOne := v0_rightIsOne) (x1 := f0_place + (1 : Int32)) (r0 := u_1) (hr0 := hu_2) (sz := H.size)) (cwV 1 hts gX6_passZero_X6_byteAt rfl rfl rfl (by decide +kernel) ⟨Nat.le_of_ble_eq_true rfl, Nat.le_of_ble_eq_true rfl⟩) (kx_preV hEV hP hD [0, 1] rfl (by decide) (k0 := 0) (ci := 6) rfl rfl rfl) rfl rfl hl.1 rfl (lv_room (Nat.le_of_ble_eq_true rfl)) dX6_passZero_15 ⟨Nat.le_of_ble_eq_true rfl, Nat.le_of_ble_eq_true rfl⟩) (fun _ H locs _ hP hD hS => ?_)
  refine lv_istore_n (lv' := [(1, .int u_1), (0, .ref q0)]) hx hb dX6_passZero_18 rfl hl (by decide) rfl (fun ls hl => ?_)
  refine lv_iload_n hx hb dX6_passZero_19 rfl (lv_at hl 0 rfl) ?_
  refine lv_iconst (v := (-1 : Int32)) hx hb dX6_passZero_20 (by decide) ?_
  refine lv_icmp_eq (tgt := 43) hx hb dX6_passZero_21 (by decide) (fun c_3 => ?_) (fun c_3 => ?_)
  · have k_4 : u_1 = (-1 : Int32) := c_3
    have h := co_t k_4 h
    refine lv_iconst (v := (1 : Int32)) hx hb dX6_passZero_43 (by decide) ?_
    refine lv_goto (tgt := 48) hx hb dX6_passZero_44 (by decide) ?_
    have h := Option.some.inj h
    subst h
    subst hQ
    exact W.zret (v := bI true) hx hb hr (bI_n true) (fun t ht hW => ⟨⟨bI true, (), rfl, ⟨rfl, trivial⟩, by rw [ht]; exact hP, hD⟩, hS.F ht⟩) hS.2.2 dX6_passZero_48
  · have k_4 : ¬ (u_1 = (-1 : Int32)) := c_3
    have h := co_f k_4 h
    refine lv_iload_n hx hb dX6_passZero_24 rfl (lv_at hl 0 rfl) ?_
    obtain ⟨u_5, hu_6, h⟩ := co_b h
    refine kx_i (ws' := fun _ => [(q0, .inr (6, [.ref q0_bytes, .int f0_length, .int f0_fault, .int (f0_place + (1 : Int32)), v0_isEquation, v0_first, v0_second, v0_rightIsOne])), (q0_bytes, .inl (cI, n0_bytes, .inl h0_bytes))]) hP hD hS hA [] [0, 1] [0, 1] rfl rfl (by decide) (by decide) (fun _ => rfl) (by decide) (va_runS (As := [.int u_1]) (rest := []) ⟨hx, hb, hml, hown, hts⟩ (cm_X6_isBlank l D cI cL (x0 := u_1) (r0 := u_5) (hr0 := hu_6) (sz := H.size)) (va_cwS 1 hts gX6_passZero_X6_isBlank rfl rfl rfl (by decide +kernel) ⟨Nat.le_of_ble_eq_true rfl, Nat.le_of_ble_eq_true rfl⟩) (kx_preS hEV hP hD [] rfl (by decide)) rfl rfl hl.1 rfl (lv_room (Nat.le_of_ble_eq_true rfl)) dX6_passZero_25 ⟨Nat.le_of_ble_eq_true rfl, Nat.le_of_ble_eq_true rfl⟩) (fun _ H locs _ hP hD hS => ?_)
    refine lv_if_ne (tgt := 43) hx hb dX6_passZero_28 (by decide) (fun c_7 => ?_) (fun c_7 => ?_)
    · have k_8 : u_5 = true := (kx_nz c_7)
      have h := co_t k_8 h
      refine lv_iconst (v := (1 : Int32)) hx hb dX6_passZero_43 (by decide) ?_
      refine lv_goto (tgt := 48) hx hb dX6_passZero_44 (by decide) ?_
      have h := Option.some.inj h
      subst h
      subst hQ
      exact W.zret (v := bI true) hx hb hr (bI_n true) (fun t ht hW => ⟨⟨bI true, (), rfl, ⟨rfl, trivial⟩, by rw [ht]; exact hP, hD⟩, hS.F ht⟩) hS.2.2 dX6_passZero_48
    · have k_8 : ¬ (u_5 = true) := (kx_z c_7)
      have h := co_f k_8 h
      refine lv_aload_n hx hb dX6_passZero_31 rfl (lv_at hl 1 rfl) ?_
      refine lv_iconst (v := (1 : Int32)) hx hb dX6_passZero_32 (by decide) ?_
      refine lv_aload_n hx hb dX6_passZero_33 rfl (lv_at hl 1 rfl) ?_
      refine va_get (D := D) (ci := 6) (v := .int (f0_place + (1 : Int32))) (C := RX6) (T := TX6) (N := 8) hx hb hts in_X6_passZero_X6 hown hK hP 0 rfl rfl 3 (by decide) lk_0 (fun _ h9 => h9) rfl dX6_passZero_34 ?_
      obtain ⟨u_9, hu_10, h⟩ := co_b h
      refine kx_i (ws' := fun _ => [(q0, .inr (6, [.ref q0_bytes, .int f0_length, .int u_9.2.1, .int u_9.2.2, v0_isEquation, v0_first, v0_second, v0_rightIsOne])), (q0_bytes, .inl (cI, n0_bytes, .inl h0_bytes))]) hP hD hS hA [0] [1] [1, 0] rfl rfl (by decide) (by decide) (fun _ => rfl) (by decide) (va_runV (As := [.int (1 : Int32), .int (f0_place + (1 : Int32))]) (rest := []) ⟨hx, hb, hml, hown, hts⟩ (cm_X6_fail l D cI cL (q0 := q0) (f0_fault := f0_fault) (f0_place := f0_place + (1 : Int32)) (v0_bytes := .ref q0_bytes) (v0_length := .int f0_length) (v0_isEquation := v0_isEquation) (v0_first := v0_first) (v0_second := v0_second) (v0_rightIsOne := v0_rightIsOne) (x1 := (1 : Int32)) (x2 := f0_place + (1 : Int32)) (r0 := u_9) (hr0 := hu_10) (sz := H.size)) (cwV 2 hts gX6_passZero_X6_fail rfl rfl rfl (by decide +kernel) ⟨Nat.le_of_ble_eq_true rfl, Nat.le_of_ble_eq_true rfl⟩) (kx_preV hEV hP hD [0] rfl (by decide) (k0 := 0) (ci := 6) rfl rfl rfl) rfl rfl hl.1 rfl (lv_room (Nat.le_of_ble_eq_true rfl)) dX6_passZero_37 ⟨Nat.le_of_ble_eq_true rfl, Nat.le_of_ble_eq_true rfl⟩) (fun _ H locs _ hP hD hS => ?_)
      refine lv_if_eq (tgt := 47) hx hb dX6_passZero_40 (by decide) (fun c_11 => ?_) (fun c_11 => ?_)
      · have k_12 : ¬ (u_9.1 = true) := (kx_z c_11)
        have h := co_f k_12 h
        refine lv_iconst (v := (0 : Int32)) hx hb dX6_passZero_47 (by decide) ?_
        have h := Option.some.inj h
        subst h
        subst hQ
        exact W.zret (v := bI false) hx hb hr (bI_n false) (fun t ht hW => ⟨⟨bI false, (), rfl, ⟨rfl, trivial⟩, by rw [ht]; exact hP, hD⟩, hS.F ht⟩) hS.2.2 dX6_passZero_48
      · have k_12 : u_9.1 = true := (kx_nz c_11)
        have h := co_t k_12 h
        refine lv_iconst (v := (1 : Int32)) hx hb dX6_passZero_43 (by decide) ?_
        refine lv_goto (tgt := 48) hx hb dX6_passZero_44 (by decide) ?_
        have h := Option.some.inj h
        subst h
        subst hQ
        exact W.zret (v := bI true) hx hb hr (bI_n true) (fun t ht hW => ⟨⟨bI true, (), rfl, ⟨rfl, trivial⟩, by rw [ht]; exact hP, hD⟩, hS.F ht⟩) hS.2.2 dX6_passZero_48
theorem in_X6_readLines_X6 : ∀ w ∈ wsX60, w ∈ wsX6_readLines := by decide +kernel
theorem lk_0_X6_readLines : Cond.fieldLink RX6 19 "ParityClauses$Tape" "fault" "I" ∈ wsX6_readLines := by decide +kernel
theorem lk_1_X6_readLines : Cond.fieldLink RX6 22 "ParityClauses$Tape" "place" "I" ∈ wsX6_readLines := by decide +kernel
theorem lk_2_X6_readLines : Cond.fieldLink RX6 15 "ParityClauses$Tape" "length" "I" ∈ wsX6_readLines := by decide +kernel
abbrev rm_X6_readLines : Room := { frames := 4, cells := 0, slots := 0, locals := 92 }
set_option maxHeartbeats 4000000 in
set_option maxRecDepth 100000 in
theorem cm_X6_readLines (l : Launch) (D : va_G) (cI cL : ClassId) (q0 q0_bytes q1 q1_equations q1_yes q1_no : Nat) (n0_bytes n1_equations n1_yes n1_no : Nat) (f0_length : Int32) (f0_fault : Int32) (f0_place : Int32) (f0_isEquation : Bool) (f0_first : Int64) (f0_second : Int64) (f0_rightIsOne : Bool) (h0_bytes : Nat → Int32) (f1_equationCount : Int32) (f1_clauseCount : Int32) (h1_equations : Nat → Int64) (h1_yes : Nat → Int64) (h1_no : Nat → Int64) (v1_equationsBefore v1_clausesBefore v1_levelCount : Value) (x2 : Int32) (r0 : Int32 × Int32 × Int32 × Bool × Int64 × Int64 × Bool × Int32 × Int32 × (Nat → Int64) × (Nat → Int64) × (Nat → Int64)) (hr0 : D_X6_readLines f0_length f0_fault f0_place f0_isEquation f0_first f0_second f0_rightIsOne n0_bytes h0_bytes f1_equationCount f1_clauseCount n1_equations h1_equations n1_yes h1_yes n1_no h1_no x2 = some r0) (sz : Nat) : Met l yX6_readLines wsX6_readLines rm_X6_readLines (PcW D cI cL [.ref q0, .ref q1, .int x2] [(q0, .inr (6, [.ref q0_bytes, .int f0_length, .int f0_fault, .int f0_place, .int (bI f0_isEquation), .long f0_first, .long f0_second, .int (bI f0_rightIsOne)])), (q0_bytes, .inl (cI, n0_bytes, .inl h0_bytes)), (q1, .inr (4, [.ref q1_equations, .ref q1_yes, .ref q1_no, .int f1_equationCount, .int f1_clauseCount, v1_equationsBefore, v1_clausesBefore, v1_levelCount])), (q1_equations, .inl (cL, n1_equations, .inr (.inl h1_equations))), (q1_yes, .inl (cL, n1_yes, .inr (.inl h1_yes))), (q1_no, .inl (cL, n1_no, .inr (.inl h1_no)))] sz) (QiW D [(q0, .inr (6, [.ref q0_bytes, .int f0_length, .int f0_fault, .int f0_place, .int (bI f0_isEquation), .long f0_first, .long f0_second, .int (bI f0_rightIsOne)])), (q0_bytes, .inl (cI, n0_bytes, .inl h0_bytes)), (q1, .inr (4, [.ref q1_equations, .ref q1_yes, .ref q1_no, .int f1_equationCount, .int f1_clauseCount, v1_equationsBefore, v1_clausesBefore, v1_levelCount])), (q1_equations, .inl (cL, n1_equations, .inr (.inl h1_equations))), (q1_yes, .inl (cL, n1_yes, .inr (.inl h1_yes))), (q1_no, .inl (cL, n1_no, .inr (.inl h1_no)))] r0.1 (fun _ : Unit => [(q0, .inr (6, [.ref q0_bytes, .int f0_length, .int r0.2.1, .int r0.2.2.1, .int (bI r0.2.2.2.1), .long r0.2.2.2.2.1, .long r0.2.2.2.2.2.1, .int (bI r0.2.2.2.2.2.2.1)])), (q0_bytes, .inl (cI, n0_bytes, .inl h0_bytes)), (q1, .inr (4, [.ref q1_equations, .ref q1_yes, .ref q1_no, .int r0.2.2.2.2.2.2.2.1, .int r0.2.2.2.2.2.2.2.2.1, v1_equationsBefore, v1_clausesBefore, v1_levelCount])), (q1_equations, .inl (cL, n1_equations, .inr (.inl r0.2.2.2.2.2.2.2.2.2.1))), (q1_yes, .inl (cL, n1_yes, .inr (.inl r0.2.2.2.2.2.2.2.2.2.2.1))), (q1_no, .inl (cL, n1_no, .inr (.inl r0.2.2.2.2.2.2.2.2.2.2.2)))]) tU sz) 0 0 (va_A [(q0, .inr (6, [.ref q0_bytes, .int f0_length, .int f0_fault, .int f0_place, .int (bI f0_isEquation), .long f0_first, .long f0_second, .int (bI f0_rightIsOne)])), (q0_bytes, .inl (cI, n0_bytes, .inl h0_bytes)), (q1, .inr (4, [.ref q1_equations, .ref q1_yes, .ref q1_no, .int f1_equationCount, .int f1_clauseCount, v1_equationsBefore, v1_clausesBefore, v1_levelCount])), (q1_equations, .inl (cL, n1_equations, .inr (.inl h1_equations))), (q1_yes, .inl (cL, n1_yes, .inr (.inl h1_yes))), (q1_no, .inl (cL, n1_no, .inr (.inl h1_no)))] sz) := by
  refine Met.ofW (cc := cX6_readLines) (maxL := 5) (ret := (some .int)) (by decide) rfl ?_
  intro p e s m args below meth c s₁ B hml hv
  obtain ⟨hargs, hsz, hP, hEV, hD0⟩ := hv
  have hx := B.exec
  have hb := B.bytes
  have hr := B.returns
  have hts := atoms_spec (ws := wsX6_readLines) B.pre
  have hown : s.vm.findClass RX6 = some m.cls := findClass_of_methodNamed B.named
  have hlocks := B.notSynchronized
  have hK := hEV.K
  have lk_0 := hts _ lk_0_X6_readLines
  have lk_1 := hts _ lk_1_X6_readLines
  have lk_2 := hts _ lk_2_X6_readLines
  subst hsz
  unfold QiW PoW
  have hD := hD0.self (sz := s.heap.size)
  generalize hAe : va_A [(q0, .inr (6, [.ref q0_bytes, .int f0_length, .int f0_fault, .int f0_place, .int (bI f0_isEquation), .long f0_first, .long f0_second, .int (bI f0_rightIsOne)])), (q0_bytes, .inl (cI, n0_bytes, .inl h0_bytes)), (q1, .inr (4, [.ref q1_equations, .ref q1_yes, .ref q1_no, .int f1_equationCount, .int f1_clauseCount, v1_equationsBefore, v1_clausesBefore, v1_levelCount])), (q1_equations, .inl (cL, n1_equations, .inr (.inl h1_equations))), (q1_yes, .inl (cL, n1_yes, .inr (.inl h1_yes))), (q1_no, .inl (cL, n1_no, .inr (.inl h1_no)))] s.heap.size = A at hD ⊢
  have hA : ∀ q : Nat, s.heap.size ≤ q → A q := fun q h => by rw [← hAe]; exact Or.inr h
  have hent : entryFrame m args 5 = entryFrame m ([.ref q0, .ref q1, .int x2] : List Value).toArray 5 := by rw [hargs]
  rw [hent]
  refine kx_Q (fun Q hQ => ?_)
  refine kx_H (fun H hH => ?_)
  have hP : va_P D vwCl [(q0, .inr (6, [.ref q0_bytes, .int f0_length, .int f0_fault, .int f0_place, .int (bI f0_isEquation), .long f0_first, .long f0_second, .int (bI f0_rightIsOne)])), (q0_bytes, .inl (cI, n0_bytes, .inl h0_bytes)), (q1, .inr (4, [.ref q1_equations, .ref q1_yes, .ref q1_no, .int f1_equationCount, .int f1_clauseCount, v1_equationsBefore, v1_clausesBefore, v1_levelCount])), (q1_equations, .inl (cL, n1_equations, .inr (.inl h1_equations))), (q1_yes, .inl (cL, n1_yes, .inr (.inl h1_yes))), (q1_no, .inl (cL, n1_no, .inr (.inl h1_no)))] H := by rw [hH]; exact hP
  have hS : va_S A s.heap H [] := by rw [hH]; exact va_S.rf
  have hl := lv_entry ([.ref q0, .ref q1, .int x2]) (n := 5) (Nat.le_of_ble_eq_true rfl)
  rw [lg_entry_eq]
  generalize (lg_sl ([.ref q0, .ref q1, .int x2]) ++ List.replicate (5 - (lg_sl ([.ref q0, .ref q1, .int x2])).length) Slot.unset).toArray = ls at hl ⊢
  have hl : lv_has ls 5 [(0, .ref q0), (1, .ref q1), (2, .int x2)] := hl
  have hloop : ∀ n9 : Nat, (∀ (x3 : Int32) (x4 : Int32) (f0_fault : Int32) (f0_place : Int32) (f0_isEquation : Bool) (f0_first : Int64) (f0_second : Int64) (f0_rightIsOne : Bool) (f1_equationCount : Int32) (f1_clauseCount : Int32) (h1_equations : Nat → Int64) (h1_yes : Nat → Int64) (h1_no : Nat → Int64), iter (st_X6_readLines f0_length n0_bytes h0_bytes n1_equations n1_yes n1_no x2) n9 (x3, x4, f0_fault, f0_place, f0_isEquation, f0_first, f0_second, f0_rightIsOne, f1_equationCount, f1_clauseCount, h1_equations, h1_yes, h1_no) = some r0 → ∀ (H : Heap) (locs : List Loc) (ls : Array Slot), va_P D vwCl [(q0, .inr (6, [.ref q0_bytes, .int f0_length, .int f0_fault, .int f0_place, .int (bI f0_isEquation), .long f0_first, .long f0_second, .int (bI f0_rightIsOne)])), (q0_bytes, .inl (cI, n0_bytes, .inl h0_bytes)), (q1, .inr (4, [.ref q1_equations, .ref q1_yes, .ref q1_no, .int f1_equationCount, .int f1_clauseCount, v1_equationsBefore, v1_clausesBefore, v1_levelCount])), (q1_equations, .inl (cL, n1_equations, .inr (.inl h1_equations))), (q1_yes, .inl (cL, n1_yes, .inr (.inl h1_yes))), (q1_no, .inl (cL, n1_no, .inr (.inl h1_no)))] H → va_D A [(q0, .inr (6, [.ref q0_bytes, .int f0_length, .int f0_fault, .int f0_place, .int (bI f0_isEquation), .long f0_first, .long f0_second, .int (bI f0_rightIsOne)])), (q0_bytes, .inl (cI, n0_bytes, .inl h0_bytes)), (q1, .inr (4, [.ref q1_equations, .ref q1_yes, .ref q1_no, .int f1_equationCount, .int f1_clauseCount, v1_equationsBefore, v1_clausesBefore, v1_levelCount])), (q1_equations, .inl (cL, n1_equations, .inr (.inl h1_equations))), (q1_yes, .inl (cL, n1_yes, .inr (.inl h1_yes))), (q1_no, .inl (cL, n1_no, .inr (.inl h1_no)))] → va_S A s.heap H locs → lv_has ls 5 [(0, .ref q0), (1, .ref q1), (2, .int x2), (3, .int x3), (4, .int x4)] → W p l e (headSpec wsX6_readLines rm_X6_readLines).room s m args below meth c H locs 0 0 Q (F0 m 15 ls [])) := by
    intro n9
    induction n9 with
    | zero => exact (fun _ _ _ _ _ _ _ _ _ _ _ _ _ h => nomatch h)
    | succ n9 ih =>
      intro x3 x4 f0_fault f0_place f0_isEquation f0_first f0_second f0_rightIsOne f1_equationCount f1_clauseCount h1_equations h1_yes h1_no h H locs ls hP hD hS hl
      have h : run1 (iter (st_X6_readLines f0_length n0_bytes h0_bytes n1_equations n1_yes n1_no x2) n9) (b_X6_readLines_15 f0_length n0_bytes h0_bytes n1_equations n1_yes n1_no x2 x3 x4 f0_fault f0_place f0_isEquation f0_first f0_second f0_rightIsOne f1_equationCount f1_clauseCount h1_equations h1_yes h1_no) = some r0 := h
      unfold b_X6_readLines_15 at h
      refine lv_iload hx hb dX6_readLines_15 (lv_at hl 4 rfl) ?_
      refine lv_sipush (v := (500 : Int32)) hx hb dX6_readLines_17 (by decide) ?_
      refine lv_icmp_gt (tgt := 79) hx hb dX6_readLines_20 (by decide) (fun c_1 => ?_) (fun c_1 => ?_)
      · have k_2 : (500 : Int32) < x4 := c_1
        have h := cw_t k_2 h
        refine lv_iload_n hx hb dX6_readLines_79 rfl (lv_at hl 3 rfl) ?_
        have h := Option.some.inj h
        subst h
        subst hQ
        exact W.iret (v := x3) hx hb hr (fun t ht hW => ⟨⟨x3, (), rfl, ⟨rfl, trivial⟩, by rw [ht]; exact hP, hD⟩, hS.F ht⟩) hS.2.2 dX6_readLines_80
      · have k_2 : ¬ ((500 : Int32) < x4) := c_1
        have h := cw_f k_2 h
        refine lv_aload_n hx hb dX6_readLines_23 rfl (lv_at hl 0 rfl) ?_
        obtain ⟨u_3, hu_4, h⟩ := cw_b h
        refine kx_v (ws' := fun _ => [(q0, .inr (6, [.ref q0_bytes, .int f0_length, .int f0_fault, .int u_3, .int (bI f0_isEquation), .long f0_first, .long f0_second, .int (bI f0_rightIsOne)])), (q0_bytes, .inl (cI, n0_bytes, .inl h0_bytes)), (q1, .inr (4, [.ref q1_equations, .ref q1_yes, .ref q1_no, .int f1_equationCount, .int f1_clauseCount, v1_equationsBefore, v1_clausesBefore, v1_levelCount])), (q1_equations, .inl (cL, n1_equations, .inr (.inl h1_equations))), (q1_yes, .inl (cL, n1_yes, .inr (.inl h1_yes))), (q1_no, .inl (cL, n1_no, .inr (.inl h1_no)))]) hP hD hS hA [0, 1] [2, 3, 4, 5] [4, 5, 0, 1, 2, 3] rfl rfl (by decide) (by decide) (fun _ => rfl) (by decide) (va_runV (As := []) (rest := []) ⟨hx, hb, hml, hown, hts⟩ (cm_X6_skipBlanks l D cI cL (q0 := q0) (q0_bytes := q0_bytes) (n0_bytes := n0_bytes) (f0_length := f0_length) (f0_place := f0_place) (h0_bytes := h0_bytes) (v0_fault := .int f0_fault) (v0_isEquation := .int (bI f0_isEquation)) (v0_first := .long f0_first) (v0_second := .long f0_second) (v0_rightIsOne := .int (bI f0_rightIsOne)) (r0 := u_3) (hr0 := hu_4) (sz := H.size)) (cwV 0 hts gX6_readLines_X6_skipBlanks rfl rfl rfl (by decide +kernel) ⟨Nat.le_of_ble_eq_true rfl, Nat.le_of_ble_eq_true rfl⟩) (kx_preV hEV hP hD [0, 1] rfl (by decide) (k0 := 0) (ci := 6) rfl rfl rfl) rfl rfl hl.1 rfl (lv_room (Nat.le_of_ble_eq_true rfl)) dX6_readLines_24 ⟨Nat.le_of_ble_eq_true rfl, Nat.le_of_ble_eq_true rfl⟩) (fun _ H locs _ hP hD hS => ?_)
        refine lv_aload_n hx hb dX6_readLines_27 rfl (lv_at hl 0 rfl) ?_
        refine va_get (D := D) (ci := 6) (v := .int u_3) (C := RX6) (T := TX6) (N := 8) hx hb hts in_X6_readLines_X6 hown hK hP 0 rfl rfl 3 (by decide) lk_1 (fun _ h9 => h9) rfl dX6_readLines_28 ?_
        refine lv_aload_n hx hb dX6_readLines_31 rfl (lv_at hl 0 rfl) ?_
        refine va_get (D := D) (ci := 6) (v := .int f0_length) (C := RX6) (T := TX6) (N := 8) hx hb hts in_X6_readLines_X6 hown hK hP 0 rfl rfl 1 (by decide) lk_2 (fun _ h9 => h9) rfl dX6_readLines_32 ?_
        refine lv_icmp_lt (tgt := 40) hx hb dX6_readLines_35 (by decide) (fun c_5 => ?_) (fun c_5 => ?_)
        · have k_6 : u_3 < f0_length := c_5
          have h := cw_t k_6 h
          refine lv_aload_n hx hb dX6_readLines_40 rfl (lv_at hl 0 rfl) ?_
          refine lv_iload_n hx hb dX6_readLines_41 rfl (lv_at hl 2 rfl) ?_
          obtain ⟨u_7, hu_8, h⟩ := cw_b h
          refine kx_i (ws' := fun _ => [(q0, .inr (6, [.ref q0_bytes, .int f0_length, .int u_7.2.1, .int u_7.2.2.1, .int (bI u_7.2.2.2.1), .long u_7.2.2.2.2.1, .long u_7.2.2.2.2.2.1, .int (bI u_7.2.2.2.2.2.2)])), (q0_bytes, .inl (cI, n0_bytes, .inl h0_bytes)), (q1, .inr (4, [.ref q1_equations, .ref q1_yes, .ref q1_no, .int f1_equationCount, .int f1_clauseCount, v1_equationsBefore, v1_clausesBefore, v1_levelCount])), (q1_equations, .inl (cL, n1_equations, .inr (.inl h1_equations))), (q1_yes, .inl (cL, n1_yes, .inr (.inl h1_yes))), (q1_no, .inl (cL, n1_no, .inr (.inl h1_no)))]) hP hD hS hA [0, 1] [2, 3, 4, 5] [4, 5, 0, 1, 2, 3] rfl rfl (by decide) (by decide) (fun _ => rfl) (by decide) (va_runV (As := [.int x2]) (rest := []) ⟨hx, hb, hml, hown, hts⟩ (cm_X6_readLine l D cI cL (q0 := q0) (q0_bytes := q0_bytes) (n0_bytes := n0_bytes) (f0_length := f0_length) (f0_fault := f0_fault) (f0_place := u_3) (f0_isEquation := f0_isEquation) (f0_first := f0_first) (f0_second := f0_second) (f0_rightIsOne := f0_rightIsOne) (h0_bytes := h0_bytes) (x1 := x2) (r0 := u_7) (hr0 := hu_8) (sz := H.size)) (cwV 1 hts gX6_readLines_X6_readLine rfl rfl rfl (by decide +kernel) ⟨Nat.le_of_ble_eq_true rfl, Nat.le_of_ble_eq_true rfl⟩) (kx_preV hEV hP hD [0, 1] rfl (by decide) (k0 := 0) (ci := 6) rfl rfl rfl) rfl rfl hl.1 rfl (lv_room (Nat.le_of_ble_eq_true rfl)) dX6_readLines_42 ⟨Nat.le_of_ble_eq_true rfl, Nat.le_of_ble_eq_true rfl⟩) (fun _ H locs _ hP hD hS => ?_)
          refine lv_if_eq (tgt := 63) hx hb dX6_readLines_45 (by decide) (fun c_9 => ?_) (fun c_9 => ?_)
          · have k_10 : ¬ (u_7.1 = true) := (kx_z c_9)
            have h := cw_f k_10 h
            refine lv_iconst (v := (-1 : Int32)) hx hb dX6_readLines_63 (by decide) ?_
            refine lv_aload_n hx hb dX6_readLines_64 rfl (lv_at hl 0 rfl) ?_
            refine va_get (D := D) (ci := 6) (v := .int u_7.2.2.1) (C := RX6) (T := TX6) (N := 8) hx hb hts in_X6_readLines_X6 hown hK hP 0 rfl rfl 3 (by decide) lk_1 (fun _ h9 => h9) rfl dX6_readLines_65 ?_
            refine lv_isub hx hb dX6_readLines_68 ?_
            have h := Option.some.inj h
            subst h
            subst hQ
            exact W.iret (v := (-1 : Int32) - u_7.2.2.1) hx hb hr (fun t ht hW => ⟨⟨(-1 : Int32) - u_7.2.2.1, (), rfl, ⟨rfl, trivial⟩, by rw [ht]; exact hP, hD⟩, hS.F ht⟩) hS.2.2 dX6_readLines_69
          · have k_10 : u_7.1 = true := (kx_nz c_9)
            have h := cw_t k_10 h
            refine lv_aload_n hx hb dX6_readLines_48 rfl (lv_at hl 0 rfl) ?_
            refine lv_aload_n hx hb dX6_readLines_49 rfl (lv_at hl 1 rfl) ?_
            obtain ⟨u_11, hu_12, h⟩ := cw_b h
            refine kx_i (ws' := fun _ => [(q0, .inr (6, [.ref q0_bytes, .int f0_length, .int u_11.2.1, .int u_11.2.2.1, .int (bI u_7.2.2.2.1), .long u_7.2.2.2.2.1, .long u_7.2.2.2.2.2.1, .int (bI u_7.2.2.2.2.2.2)])), (q0_bytes, .inl (cI, n0_bytes, .inl h0_bytes)), (q1, .inr (4, [.ref q1_equations, .ref q1_yes, .ref q1_no, .int u_11.2.2.2.1, .int u_11.2.2.2.2.1, v1_equationsBefore, v1_clausesBefore, v1_levelCount])), (q1_equations, .inl (cL, n1_equations, .inr (.inl u_11.2.2.2.2.2.1))), (q1_yes, .inl (cL, n1_yes, .inr (.inl u_11.2.2.2.2.2.2.1))), (q1_no, .inl (cL, n1_no, .inr (.inl u_11.2.2.2.2.2.2.2)))]) hP hD hS hA [0, 2, 3, 4, 5] [1] [1, 0, 2, 3, 4, 5] rfl rfl (by decide) (by decide) (fun _ => rfl) (by decide) (va_runV (As := [.ref q1]) (rest := []) ⟨hx, hb, hml, hown, hts⟩ (cm_X6_keepLine l D cI cL (q0 := q0) (q1 := q1) (q1_equations := q1_equations) (q1_yes := q1_yes) (q1_no := q1_no) (n1_equations := n1_equations) (n1_yes := n1_yes) (n1_no := n1_no) (f0_fault := u_7.2.1) (f0_place := u_7.2.2.1) (f0_isEquation := u_7.2.2.2.1) (f0_first := u_7.2.2.2.2.1) (f0_second := u_7.2.2.2.2.2.1) (f0_rightIsOne := u_7.2.2.2.2.2.2) (f1_equationCount := f1_equationCount) (f1_clauseCount := f1_clauseCount) (h1_equations := h1_equations) (h1_yes := h1_yes) (h1_no := h1_no) (v0_bytes := .ref q0_bytes) (v0_length := .int f0_length) (v1_equationsBefore := v1_equationsBefore) (v1_clausesBefore := v1_clausesBefore) (v1_levelCount := v1_levelCount) (r0 := u_11) (hr0 := hu_12) (sz := H.size)) (cwV 1 hts gX6_readLines_X6_keepLine rfl rfl rfl (by decide +kernel) ⟨Nat.le_of_ble_eq_true rfl, Nat.le_of_ble_eq_true rfl⟩) (kx_preV hEV hP hD [0, 2, 3, 4, 5] rfl (by decide) (k0 := 0) (ci := 6) rfl rfl rfl) rfl rfl hl.1 rfl (lv_room (Nat.le_of_ble_eq_true rfl)) dX6_readLines_50 ⟨Nat.le_of_ble_eq_true rfl, Nat.le_of_ble_eq_true rfl⟩) (fun _ H locs _ hP hD hS => ?_)
            refine lv_if_eq (tgt := 63) hx hb dX6_readLines_53 (by decide) (fun c_13 => ?_) (fun c_13 => ?_)
            · have k_14 : ¬ (u_11.1 = true) := (kx_z c_13)
              have h := cw_f k_14 h
              refine lv_iconst (v := (-1 : Int32)) hx hb dX6_readLines_63 (by decide) ?_
              refine lv_aload_n hx hb dX6_readLines_64 rfl (lv_at hl 0 rfl) ?_
              refine va_get (D := D) (ci := 6) (v := .int u_11.2.2.1) (C := RX6) (T := TX6) (N := 8) hx hb hts in_X6_readLines_X6 hown hK hP 0 rfl rfl 3 (by decide) lk_1 (fun _ h9 => h9) rfl dX6_readLines_65 ?_
              refine lv_isub hx hb dX6_readLines_68 ?_
              have h := Option.some.inj h
              subst h
              subst hQ
              exact W.iret (v := (-1 : Int32) - u_11.2.2.1) hx hb hr (fun t ht hW => ⟨⟨(-1 : Int32) - u_11.2.2.1, (), rfl, ⟨rfl, trivial⟩, by rw [ht]; exact hP, hD⟩, hS.F ht⟩) hS.2.2 dX6_readLines_69
            · have k_14 : u_11.1 = true := (kx_nz c_13)
              have h := cw_t k_14 h
              refine lv_aload_n hx hb dX6_readLines_56 rfl (lv_at hl 0 rfl) ?_
              obtain ⟨u_15, hu_16, h⟩ := cw_b h
              refine kx_i (ws' := fun _ => [(q0, .inr (6, [.ref q0_bytes, .int f0_length, .int u_15.2.1, .int u_15.2.2, .int (bI u_7.2.2.2.1), .long u_7.2.2.2.2.1, .long u_7.2.2.2.2.2.1, .int (bI u_7.2.2.2.2.2.2)])), (q0_bytes, .inl (cI, n0_bytes, .inl h0_bytes)), (q1, .inr (4, [.ref q1_equations, .ref q1_yes, .ref q1_no, .int u_11.2.2.2.1, .int u_11.2.2.2.2.1, v1_equationsBefore, v1_clausesBefore, v1_levelCount])), (q1_equations, .inl (cL, n1_equations, .inr (.inl u_11.2.2.2.2.2.1))), (q1_yes, .inl (cL, n1_yes, .inr (.inl u_11.2.2.2.2.2.2.1))), (q1_no, .inl (cL, n1_no, .inr (.inl u_11.2.2.2.2.2.2.2)))]) hP hD hS hA [0, 1] [2, 3, 4, 5] [4, 5, 0, 1, 2, 3] rfl rfl (by decide) (by decide) (fun _ => rfl) (by decide) (va_runV (As := []) (rest := []) ⟨hx, hb, hml, hown, hts⟩ (cm_X6_passZero l D cI cL (q0 := q0) (q0_bytes := q0_bytes) (n0_bytes := n0_bytes) (f0_length := f0_length) (f0_fault := u_11.2.1) (f0_place := u_11.2.2.1) (h0_bytes := h0_bytes) (v0_isEquation := .int (bI u_7.2.2.2.1)) (v0_first := .long u_7.2.2.2.2.1) (v0_second := .long u_7.2.2.2.2.2.1) (v0_rightIsOne := .int (bI u_7.2.2.2.2.2.2)) (r0 := u_15) (hr0 := hu_16) (sz := H.size)) (cwV 0 hts gX6_readLines_X6_passZero rfl rfl rfl (by decide +kernel) ⟨Nat.le_of_ble_eq_true rfl, Nat.le_of_ble_eq_true rfl⟩) (kx_preV hEV hP hD [0, 1] rfl (by decide) (k0 := 0) (ci := 6) rfl rfl rfl) rfl rfl hl.1 rfl (lv_room (Nat.le_of_ble_eq_true rfl)) dX6_readLines_57 ⟨Nat.le_of_ble_eq_true rfl, Nat.le_of_ble_eq_true rfl⟩) (fun _ H locs _ hP hD hS => ?_)
              refine lv_if_ne (tgt := 70) hx hb dX6_readLines_60 (by decide) (fun c_17 => ?_) (fun c_17 => ?_)
              · have k_18 : u_15.1 = true := (kx_nz c_17)
                have h := cw_t k_18 h
                refine lv_iinc (v := x3 + (1 : Int32)) (lv' := [(3, .int (x3 + (1 : Int32))), (0, .ref q0), (1, .ref q1), (2, .int x2), (4, .int x4)]) hx hb dX6_readLines_70 hl (k := 3) rfl rfl (by decide) rfl (fun ls hl => ?_)
                refine lv_iinc (v := x4 + (1 : Int32)) (lv' := [(4, .int (x4 + (1 : Int32))), (3, .int (x3 + (1 : Int32))), (0, .ref q0), (1, .ref q1), (2, .int x2)]) hx hb dX6_readLines_73 hl (k := 4) rfl rfl (by decide) rfl (fun ls hl => ?_)
                refine lv_goto (tgt := 15) hx hb dX6_readLines_76 (by decide) ?_
                exact ih _ _ _ _ _ _ _ _ _ _ _ _ _ h _ _ _ hP hD hS (lv_sub hl [2, 3, 4, 1, 0] rfl)
              · have k_18 : ¬ (u_15.1 = true) := (kx_z c_17)
                have h := cw_f k_18 h
                refine lv_iconst (v := (-1 : Int32)) hx hb dX6_readLines_63 (by decide) ?_
                refine lv_aload_n hx hb dX6_readLines_64 rfl (lv_at hl 0 rfl) ?_
                refine va_get (D := D) (ci := 6) (v := .int u_15.2.2) (C := RX6) (T := TX6) (N := 8) hx hb hts in_X6_readLines_X6 hown hK hP 0 rfl rfl 3 (by decide) lk_1 (fun _ h9 => h9) rfl dX6_readLines_65 ?_
                refine lv_isub hx hb dX6_readLines_68 ?_
                have h := Option.some.inj h
                subst h
                subst hQ
                exact W.iret (v := (-1 : Int32) - u_15.2.2) hx hb hr (fun t ht hW => ⟨⟨(-1 : Int32) - u_15.2.2, (), rfl, ⟨rfl, trivial⟩, by rw [ht]; exact hP, hD⟩, hS.F ht⟩) hS.2.2 dX6_readLines_69
        · have k_6 : ¬ (u_3 < f0_length) := c_5
          have h := cw_f k_6 h
          refine lv_iload_n hx hb dX6_readLines_38 rfl (lv_at hl 3 rfl) ?_
          have h := Option.some.inj h
          subst h
          subst hQ
          exact W.iret (v := x3) hx hb hr (fun t ht hW => ⟨⟨x3, (), rfl, ⟨rfl, trivial⟩, by rw [ht]; exact hP, hD⟩, hS.F ht⟩) hS.2.2 dX6_readLines_39
  have h := hr0
  unfold D_X6_readLines at h
  refine lv_aload_n hx hb dX6_readLines_0 rfl (lv_at hl 0 rfl) ?_
  refine lv_iconst (v := (0 : Int32)) hx hb dX6_readLines_1 (by decide) ?_
  refine va_put (D := D) (ci := 6) (v := .int (0 : Int32)) (ty := .int) (C := RX6) (T := TX6) (N := 8) hx hb hts in_X6_readLines_X6 tyX6 tyX6_ok nmX6 hown hK hP hD hS 0 rfl rfl 2 (by decide) lk_0 (fun _ h9 => h9) rfl (by decide +kernel) rfl rfl (Nat.le_of_ble_eq_true rfl) dX6_readLines_2 (fun H locs hP hD hS => ?_)
  have hP : va_P D vwCl [(q0, .inr (6, [.ref q0_bytes, .int f0_length, .int (0 : Int32), .int f0_place, .int (bI f0_isEquation), .long f0_first, .long f0_second, .int (bI f0_rightIsOne)])), (q0_bytes, .inl (cI, n0_bytes, .inl h0_bytes)), (q1, .inr (4, [.ref q1_equations, .ref q1_yes, .ref q1_no, .int f1_equationCount, .int f1_clauseCount, v1_equationsBefore, v1_clausesBefore, v1_levelCount])), (q1_equations, .inl (cL, n1_equations, .inr (.inl h1_equations))), (q1_yes, .inl (cL, n1_yes, .inr (.inl h1_yes))), (q1_no, .inl (cL, n1_no, .inr (.inl h1_no)))] H := hP
  have hD : va_D A [(q0, .inr (6, [.ref q0_bytes, .int f0_length, .int (0 : Int32), .int f0_place, .int (bI f0_isEquation), .long f0_first, .long f0_second, .int (bI f0_rightIsOne)])), (q0_bytes, .inl (cI, n0_bytes, .inl h0_bytes)), (q1, .inr (4, [.ref q1_equations, .ref q1_yes, .ref q1_no, .int f1_equationCount, .int f1_clauseCount, v1_equationsBefore, v1_clausesBefore, v1_levelCount])), (q1_equations, .inl (cL, n1_equations, .inr (.inl h1_equations))), (q1_yes, .inl (cL, n1_yes, .inr (.inl h1_yes))), (q1_no, .inl (cL, n1_no, .inr (.inl h1_no)))] := hD
  refine lv_aload_n hx hb dX6_readLines_5 rfl (lv_at hl 0 rfl) ?_
  refine lv_iconst (v := (0 : Int32)) hx hb dX6_readLines_6 (by decide) ?_
  refine va_put (D := D) (ci := 6) (v := .int (0 : Int32)) (ty := .int) (C := RX6) (T := TX6) (N := 8) hx hb hts in_X6_readLines_X6 tyX6 tyX6_ok nmX6 hown hK hP hD hS 0 rfl rfl 3 (by decide) lk_1 (fun _ h9 => h9) rfl (by decide +kernel) rfl rfl (Nat.le_of_ble_eq_true rfl) dX6_readLines_7 (fun H locs hP hD hS => ?_)
  have hP : va_P D vwCl [(q0, .inr (6, [.ref q0_bytes, .int f0_length, .int (0 : Int32), .int (0 : Int32), .int (bI f0_isEquation), .long f0_first, .long f0_second, .int (bI f0_rightIsOne)])), (q0_bytes, .inl (cI, n0_bytes, .inl h0_bytes)), (q1, .inr (4, [.ref q1_equations, .ref q1_yes, .ref q1_no, .int f1_equationCount, .int f1_clauseCount, v1_equationsBefore, v1_clausesBefore, v1_levelCount])), (q1_equations, .inl (cL, n1_equations, .inr (.inl h1_equations))), (q1_yes, .inl (cL, n1_yes, .inr (.inl h1_yes))), (q1_no, .inl (cL, n1_no, .inr (.inl h1_no)))] H := hP
  have hD : va_D A [(q0, .inr (6, [.ref q0_bytes, .int f0_length, .int (0 : Int32), .int (0 : Int32), .int (bI f0_isEquation), .long f0_first, .long f0_second, .int (bI f0_rightIsOne)])), (q0_bytes, .inl (cI, n0_bytes, .inl h0_bytes)), (q1, .inr (4, [.ref q1_equations, .ref q1_yes, .ref q1_no, .int f1_equationCount, .int f1_clauseCount, v1_equationsBefore, v1_clausesBefore, v1_levelCount])), (q1_equations, .inl (cL, n1_equations, .inr (.inl h1_equations))), (q1_yes, .inl (cL, n1_yes, .inr (.inl h1_yes))), (q1_no, .inl (cL, n1_no, .inr (.inl h1_no)))] := hD
  refine lv_iconst (v := (0 : Int32)) hx hb dX6_readLines_10 (by decide) ?_
  refine lv_istore_n (lv' := [(3, .int (0 : Int32)), (0, .ref q0), (1, .ref q1), (2, .int x2)]) hx hb dX6_readLines_11 rfl hl (by decide) rfl (fun ls hl => ?_)
  refine lv_iconst (v := (0 : Int32)) hx hb dX6_readLines_12 (by decide) ?_
  refine lv_istore (lv' := [(4, .int (0 : Int32)), (3, .int (0 : Int32)), (0, .ref q0), (1, .ref q1), (2, .int x2)]) hx hb dX6_readLines_13 hl (by decide) rfl (fun ls hl => ?_)
  obtain ⟨n9, hn9⟩ := runw_some h
  exact (hloop n9) _ _ _ _ _ _ _ _ _ _ _ _ _ hn9 _ _ _ hP hD hS (lv_sub hl [2, 3, 4, 1, 0] rfl)
theorem in_X7_areVariables_X7 : ∀ w ∈ wsX70, w ∈ wsX7_areVariables := by decide +kernel
theorem lk_0_X7_areVariables : Cond.fieldLink RX7 22 "ParityClauses" "variables" "J" ∈ wsX7_areVariables := by decide +kernel
theorem lk_1_X7_areVariables : Cond.constantLong RX7 77 (-1) ∈ wsX7_areVariables := by decide +kernel
abbrev rm_X7_areVariables : Room := { frames := 0, cells := 0, slots := 0, locals := 0 }
set_option maxHeartbeats 4000000 in
set_option maxRecDepth 100000 in
theorem cm_X7_areVariables (l : Launch) (D : va_G) (cI cL : ClassId) (q0 : Nat) (f0_variables : Int64) (v0_n v0_store v0_tape v0_base v0_blamed v0_gateList v0_taking v0_search v0_rowsFresh v0_gatesFresh v0_latestFault v0_latestNodes v0_latestModel : Value) (x1 : Int64) (r0 : Bool) (hr0 : D_X7_areVariables f0_variables x1 = some r0) (sz : Nat) : Met l yX7_areVariables wsX7_areVariables rm_X7_areVariables (PcW D cI cL [.ref q0, .long x1] [(q0, .inr (7, [v0_n, .long f0_variables, v0_store, v0_tape, v0_base, v0_blamed, v0_gateList, v0_taking, v0_search, v0_rowsFresh, v0_gatesFresh, v0_latestFault, v0_latestNodes, v0_latestModel]))] sz) (QiW D [(q0, .inr (7, [v0_n, .long f0_variables, v0_store, v0_tape, v0_base, v0_blamed, v0_gateList, v0_taking, v0_search, v0_rowsFresh, v0_gatesFresh, v0_latestFault, v0_latestNodes, v0_latestModel]))] (bI r0) (fun _ : Unit => [(q0, .inr (7, [v0_n, .long f0_variables, v0_store, v0_tape, v0_base, v0_blamed, v0_gateList, v0_taking, v0_search, v0_rowsFresh, v0_gatesFresh, v0_latestFault, v0_latestNodes, v0_latestModel]))]) tU sz) 0 0 (va_A [(q0, .inr (7, [v0_n, .long f0_variables, v0_store, v0_tape, v0_base, v0_blamed, v0_gateList, v0_taking, v0_search, v0_rowsFresh, v0_gatesFresh, v0_latestFault, v0_latestNodes, v0_latestModel]))] sz) := by
  refine Met.ofW (cc := cX7_areVariables) (maxL := 3) (ret := (some .boolean)) (by decide) rfl ?_
  intro p e s m args below meth c s₁ B hml hv
  obtain ⟨hargs, hsz, hP, hEV, hD0⟩ := hv
  have hx := B.exec
  have hb := B.bytes
  have hr := B.returns
  have hts := atoms_spec (ws := wsX7_areVariables) B.pre
  have hown : s.vm.findClass RX7 = some m.cls := findClass_of_methodNamed B.named
  have hlocks := B.notSynchronized
  have hK := hEV.K
  have lk_0 := hts _ lk_0_X7_areVariables
  have lk_1 := hts _ lk_1_X7_areVariables
  subst hsz
  unfold QiW PoW
  have hD := hD0.self (sz := s.heap.size)
  generalize hAe : va_A [(q0, .inr (7, [v0_n, .long f0_variables, v0_store, v0_tape, v0_base, v0_blamed, v0_gateList, v0_taking, v0_search, v0_rowsFresh, v0_gatesFresh, v0_latestFault, v0_latestNodes, v0_latestModel]))] s.heap.size = A at hD ⊢
  have hA : ∀ q : Nat, s.heap.size ≤ q → A q := fun q h => by rw [← hAe]; exact Or.inr h
  have hent : entryFrame m args 3 = entryFrame m ([.ref q0, .long x1] : List Value).toArray 3 := by rw [hargs]
  rw [hent]
  refine kx_Q (fun Q hQ => ?_)
  refine kx_H (fun H hH => ?_)
  have hP : va_P D vwCl [(q0, .inr (7, [v0_n, .long f0_variables, v0_store, v0_tape, v0_base, v0_blamed, v0_gateList, v0_taking, v0_search, v0_rowsFresh, v0_gatesFresh, v0_latestFault, v0_latestNodes, v0_latestModel]))] H := by rw [hH]; exact hP
  have hS : va_S A s.heap H [] := by rw [hH]; exact va_S.rf
  have hl := lv_entry ([.ref q0, .long x1]) (n := 3) (Nat.le_of_ble_eq_true rfl)
  rw [lg_entry_eq]
  generalize (lg_sl ([.ref q0, .long x1]) ++ List.replicate (3 - (lg_sl ([.ref q0, .long x1])).length) Slot.unset).toArray = ls at hl ⊢
  have hl : lv_has ls 3 [(0, .ref q0), (1, .long x1)] := hl
  have h := hr0
  unfold D_X7_areVariables at h
  refine lv_lload_n hx hb dX7_areVariables_0 rfl (lv_at hl 1 rfl) ?_
  refine lv_aload_n hx hb dX7_areVariables_1 rfl (lv_at hl 0 rfl) ?_
  refine va_get (D := D) (ci := 7) (v := .long f0_variables) (C := RX7) (T := TX7) (N := 14) hx hb hts in_X7_areVariables_X7 hown hK hP 0 rfl rfl 1 (by decide) lk_0 (fun _ h9 => h9) rfl dX7_areVariables_2 ?_
  refine lv_ldc2 hx hb hown lk_1 dX7_areVariables_5 ?_
  refine lv_lxor hx hb dX7_areVariables_8 ?_
  refine lv_land hx hb dX7_areVariables_9 ?_
  refine lv_lconst (v := (0 : Int64)) hx hb dX7_areVariables_10 (by decide) ?_
  refine W.lcmp hx hb dX7_areVariables_11 ?_
  refine lv_if_ne (tgt := 19) hx hb dX7_areVariables_12 (by decide) (fun c_1 => ?_) (fun c_1 => ?_)
  · have k_2 : ¬ ((x1 &&& (f0_variables ^^^ (-1 : Int64))) = (0 : Int64)) := (fun z9 => c_1 ((lg_cmp_eq _ _).mpr z9))
    have h := co_f k_2 h
    refine lv_iconst (v := (0 : Int32)) hx hb dX7_areVariables_19 (by decide) ?_
    have h := Option.some.inj h
    subst h
    subst hQ
    exact W.zret (v := bI false) hx hb hr (bI_n false) (fun t ht hW => ⟨⟨bI false, (), rfl, ⟨rfl, trivial⟩, by rw [ht]; exact hP, hD⟩, hS.F ht⟩) hS.2.2 dX7_areVariables_20
  · have k_2 : (x1 &&& (f0_variables ^^^ (-1 : Int64))) = (0 : Int64) := ((lg_cmp_eq _ _).mp c_1)
    have h := co_t k_2 h
    refine lv_iconst (v := (1 : Int32)) hx hb dX7_areVariables_15 (by decide) ?_
    refine lv_goto (tgt := 20) hx hb dX7_areVariables_16 (by decide) ?_
    have h := Option.some.inj h
    subst h
    subst hQ
    exact W.zret (v := bI true) hx hb hr (bI_n true) (fun t ht hW => ⟨⟨bI true, (), rfl, ⟨rfl, trivial⟩, by rw [ht]; exact hP, hD⟩, hS.F ht⟩) hS.2.2 dX7_areVariables_20
theorem in_X7_forget_X7 : ∀ w ∈ wsX70, w ∈ wsX7_forget := by decide +kernel
theorem lk_0_X7_forget : Cond.fieldLink RX7 283 "ParityClauses" "rowsFresh" "Z" ∈ wsX7_forget := by decide +kernel
theorem lk_1_X7_forget : Cond.fieldLink RX7 286 "ParityClauses" "gatesFresh" "Z" ∈ wsX7_forget := by decide +kernel
abbrev rm_X7_forget : Room := { frames := 0, cells := 0, slots := 0, locals := 0 }
set_option maxHeartbeats 4000000 in
set_option maxRecDepth 100000 in
theorem cm_X7_forget (l : Launch) (D : va_G) (cI cL : ClassId) (q0 : Nat) (f0_rowsFresh : Bool) (f0_gatesFresh : Bool) (v0_n v0_variables v0_store v0_tape v0_base v0_blamed v0_gateList v0_taking v0_search v0_latestFault v0_latestNodes v0_latestModel : Value) (r0 : Bool × Bool) (hr0 : D_X7_forget f0_rowsFresh f0_gatesFresh = some r0) (sz : Nat) : Met l yX7_forget wsX7_forget rm_X7_forget (PcW D cI cL [.ref q0] [(q0, .inr (7, [v0_n, v0_variables, v0_store, v0_tape, v0_base, v0_blamed, v0_gateList, v0_taking, v0_search, .int (bI f0_rowsFresh), .int (bI f0_gatesFresh), v0_latestFault, v0_latestNodes, v0_latestModel]))] sz) (QvW D [(q0, .inr (7, [v0_n, v0_variables, v0_store, v0_tape, v0_base, v0_blamed, v0_gateList, v0_taking, v0_search, .int (bI f0_rowsFresh), .int (bI f0_gatesFresh), v0_latestFault, v0_latestNodes, v0_latestModel]))] (fun _ : Unit => [(q0, .inr (7, [v0_n, v0_variables, v0_store, v0_tape, v0_base, v0_blamed, v0_gateList, v0_taking, v0_search, .int (bI r0.1), .int (bI r0.2), v0_latestFault, v0_latestNodes, v0_latestModel]))]) tU sz) 0 0 (va_A [(q0, .inr (7, [v0_n, v0_variables, v0_store, v0_tape, v0_base, v0_blamed, v0_gateList, v0_taking, v0_search, .int (bI f0_rowsFresh), .int (bI f0_gatesFresh), v0_latestFault, v0_latestNodes, v0_latestModel]))] sz) := by
  refine Met.ofW (cc := cX7_forget) (maxL := 1) (ret := none) (by decide) rfl ?_
  intro p e s m args below meth c s₁ B hml hv
  obtain ⟨hargs, hsz, hP, hEV, hD0⟩ := hv
  have hx := B.exec
  have hb := B.bytes
  have hr := B.returns
  have hts := atoms_spec (ws := wsX7_forget) B.pre
  have hown : s.vm.findClass RX7 = some m.cls := findClass_of_methodNamed B.named
  have hlocks := B.notSynchronized
  have hK := hEV.K
  have lk_0 := hts _ lk_0_X7_forget
  have lk_1 := hts _ lk_1_X7_forget
  subst hsz
  unfold QvW PoW
  have hD := hD0.self (sz := s.heap.size)
  generalize hAe : va_A [(q0, .inr (7, [v0_n, v0_variables, v0_store, v0_tape, v0_base, v0_blamed, v0_gateList, v0_taking, v0_search, .int (bI f0_rowsFresh), .int (bI f0_gatesFresh), v0_latestFault, v0_latestNodes, v0_latestModel]))] s.heap.size = A at hD ⊢
  have hA : ∀ q : Nat, s.heap.size ≤ q → A q := fun q h => by rw [← hAe]; exact Or.inr h
  have hent : entryFrame m args 1 = entryFrame m ([.ref q0] : List Value).toArray 1 := by rw [hargs]
  rw [hent]
  refine kx_Q (fun Q hQ => ?_)
  refine kx_H (fun H hH => ?_)
  have hP : va_P D vwCl [(q0, .inr (7, [v0_n, v0_variables, v0_store, v0_tape, v0_base, v0_blamed, v0_gateList, v0_taking, v0_search, .int (bI f0_rowsFresh), .int (bI f0_gatesFresh), v0_latestFault, v0_latestNodes, v0_latestModel]))] H := by rw [hH]; exact hP
  have hS : va_S A s.heap H [] := by rw [hH]; exact va_S.rf
  have hl := lv_entry ([.ref q0]) (n := 1) (Nat.le_of_ble_eq_true rfl)
  rw [lg_entry_eq]
  generalize (lg_sl ([.ref q0]) ++ List.replicate (1 - (lg_sl ([.ref q0])).length) Slot.unset).toArray = ls at hl ⊢
  have hl : lv_has ls 1 [(0, .ref q0)] := hl
  have h := hr0
  unfold D_X7_forget at h
  refine lv_aload_n hx hb dX7_forget_0 rfl (lv_at hl 0 rfl) ?_
  refine lv_iconst (v := (0 : Int32)) hx hb dX7_forget_1 (by decide) ?_
  refine va_put (D := D) (ci := 7) (v := .int (bI false)) (ty := .boolean) (C := RX7) (T := TX7) (N := 14) hx hb hts in_X7_forget_X7 tyX7 tyX7_ok nmX7 hown hK hP hD hS 0 rfl rfl 9 (by decide) lk_0 (fun _ h9 => h9) rfl (by decide +kernel) (bI_n false) (bI_fit false) (Nat.le_of_ble_eq_true rfl) dX7_forget_2 (fun H locs hP hD hS => ?_)
  have hP : va_P D vwCl [(q0, .inr (7, [v0_n, v0_variables, v0_store, v0_tape, v0_base, v0_blamed, v0_gateList, v0_taking, v0_search, .int (bI false), .int (bI f0_gatesFresh), v0_latestFault, v0_latestNodes, v0_latestModel]))] H := hP
  have hD : va_D A [(q0, .inr (7, [v0_n, v0_variables, v0_store, v0_tape, v0_base, v0_blamed, v0_gateList, v0_taking, v0_search, .int (bI false), .int (bI f0_gatesFresh), v0_latestFault, v0_latestNodes, v0_latestModel]))] := hD
  refine lv_aload_n hx hb dX7_forget_5 rfl (lv_at hl 0 rfl) ?_
  refine lv_iconst (v := (0 : Int32)) hx hb dX7_forget_6 (by decide) ?_
  refine va_put (D := D) (ci := 7) (v := .int (bI false)) (ty := .boolean) (C := RX7) (T := TX7) (N := 14) hx hb hts in_X7_forget_X7 tyX7 tyX7_ok nmX7 hown hK hP hD hS 0 rfl rfl 10 (by decide) lk_1 (fun _ h9 => h9) rfl (by decide +kernel) (bI_n false) (bI_fit false) (Nat.le_of_ble_eq_true rfl) dX7_forget_7 (fun H locs hP hD hS => ?_)
  have hP : va_P D vwCl [(q0, .inr (7, [v0_n, v0_variables, v0_store, v0_tape, v0_base, v0_blamed, v0_gateList, v0_taking, v0_search, .int (bI false), .int (bI false), v0_latestFault, v0_latestNodes, v0_latestModel]))] H := hP
  have hD : va_D A [(q0, .inr (7, [v0_n, v0_variables, v0_store, v0_tape, v0_base, v0_blamed, v0_gateList, v0_taking, v0_search, .int (bI false), .int (bI false), v0_latestFault, v0_latestNodes, v0_latestModel]))] := hD
  have h := Option.some.inj h
  subst h
  subst hQ
  exact W.vret hx hb hr (fun t ht hW => ⟨⟨(), rfl, trivial, by rw [ht]; exact hP, hD⟩, hS.F ht⟩) hS.2.2 dX7_forget_10
abbrev rm_X7_areTwoSets : Room := { frames := 1, cells := 0, slots := 0, locals := 22 }
set_option maxHeartbeats 4000000 in
set_option maxRecDepth 100000 in
theorem cm_X7_areTwoSets (l : Launch) (D : va_G) (cI cL : ClassId) (q0 : Nat) (f0_variables : Int64) (v0_n v0_store v0_tape v0_base v0_blamed v0_gateList v0_taking v0_search v0_rowsFresh v0_gatesFresh v0_latestFault v0_latestNodes v0_latestModel : Value) (x1 : Int64) (x3 : Int64) (r0 : Bool) (hr0 : D_X7_areTwoSets f0_variables x1 x3 = some r0) (sz : Nat) : Met l yX7_areTwoSets wsX7_areTwoSets rm_X7_areTwoSets (PcW D cI cL [.ref q0, .long x1, .long x3] [(q0, .inr (7, [v0_n, .long f0_variables, v0_store, v0_tape, v0_base, v0_blamed, v0_gateList, v0_taking, v0_search, v0_rowsFresh, v0_gatesFresh, v0_latestFault, v0_latestNodes, v0_latestModel]))] sz) (QiW D [(q0, .inr (7, [v0_n, .long f0_variables, v0_store, v0_tape, v0_base, v0_blamed, v0_gateList, v0_taking, v0_search, v0_rowsFresh, v0_gatesFresh, v0_latestFault, v0_latestNodes, v0_latestModel]))] (bI r0) (fun _ : Unit => [(q0, .inr (7, [v0_n, .long f0_variables, v0_store, v0_tape, v0_base, v0_blamed, v0_gateList, v0_taking, v0_search, v0_rowsFresh, v0_gatesFresh, v0_latestFault, v0_latestNodes, v0_latestModel]))]) tU sz) 0 0 (va_A [(q0, .inr (7, [v0_n, .long f0_variables, v0_store, v0_tape, v0_base, v0_blamed, v0_gateList, v0_taking, v0_search, v0_rowsFresh, v0_gatesFresh, v0_latestFault, v0_latestNodes, v0_latestModel]))] sz) := by
  refine Met.ofW (cc := cX7_areTwoSets) (maxL := 5) (ret := (some .boolean)) (by decide) rfl ?_
  intro p e s m args below meth c s₁ B hml hv
  obtain ⟨hargs, hsz, hP, hEV, hD0⟩ := hv
  have hx := B.exec
  have hb := B.bytes
  have hr := B.returns
  have hts := atoms_spec (ws := wsX7_areTwoSets) B.pre
  have hown : s.vm.findClass RX7 = some m.cls := findClass_of_methodNamed B.named
  have hlocks := B.notSynchronized
  have hK := hEV.K
  subst hsz
  unfold QiW PoW
  have hD := hD0.self (sz := s.heap.size)
  generalize hAe : va_A [(q0, .inr (7, [v0_n, .long f0_variables, v0_store, v0_tape, v0_base, v0_blamed, v0_gateList, v0_taking, v0_search, v0_rowsFresh, v0_gatesFresh, v0_latestFault, v0_latestNodes, v0_latestModel]))] s.heap.size = A at hD ⊢
  have hA : ∀ q : Nat, s.heap.size ≤ q → A q := fun q h => by rw [← hAe]; exact Or.inr h
  have hent : entryFrame m args 5 = entryFrame m ([.ref q0, .long x1, .long x3] : List Value).toArray 5 := by rw [hargs]
  rw [hent]
  refine kx_Q (fun Q hQ => ?_)
  refine kx_H (fun H hH => ?_)
  have hP : va_P D vwCl [(q0, .inr (7, [v0_n, .long f0_variables, v0_store, v0_tape, v0_base, v0_blamed, v0_gateList, v0_taking, v0_search, v0_rowsFresh, v0_gatesFresh, v0_latestFault, v0_latestNodes, v0_latestModel]))] H := by rw [hH]; exact hP
  have hS : va_S A s.heap H [] := by rw [hH]; exact va_S.rf
  have hl := lv_entry ([.ref q0, .long x1, .long x3]) (n := 5) (Nat.le_of_ble_eq_true rfl)
  rw [lg_entry_eq]
  generalize (lg_sl ([.ref q0, .long x1, .long x3]) ++ List.replicate (5 - (lg_sl ([.ref q0, .long x1, .long x3])).length) Slot.unset).toArray = ls at hl ⊢
  have hl : lv_has ls 5 [(0, .ref q0), (1, .long x1), (3, .long x3)] := hl
  have h := hr0
  unfold D_X7_areTwoSets at h
  refine lv_aload_n hx hb dX7_areTwoSets_0 rfl (lv_at hl 0 rfl) ?_
  refine lv_lload_n hx hb dX7_areTwoSets_1 rfl (lv_at hl 1 rfl) ?_
  refine lv_lload_n hx hb dX7_areTwoSets_2 rfl (lv_at hl 2 rfl) ?_
  refine lv_lor hx hb dX7_areTwoSets_3 ?_
  obtain ⟨u_1, hu_2, h⟩ := co_b h
  refine kx_i (ws' := fun _ => [(q0, .inr (7, [v0_n, .long f0_variables, v0_store, v0_tape, v0_base, v0_blamed, v0_gateList, v0_taking, v0_search, v0_rowsFresh, v0_gatesFresh, v0_latestFault, v0_latestNodes, v0_latestModel]))]) hP hD hS hA [0] [] [0] rfl rfl (by decide) (by decide) (fun _ => rfl) (by decide) (va_runV (As := [.long (x1 ||| x3)]) (rest := []) ⟨hx, hb, hml, hown, hts⟩ (cm_X7_areVariables l D cI cL (q0 := q0) (f0_variables := f0_variables) (v0_n := v0_n) (v0_store := v0_store) (v0_tape := v0_tape) (v0_base := v0_base) (v0_blamed := v0_blamed) (v0_gateList := v0_gateList) (v0_taking := v0_taking) (v0_search := v0_search) (v0_rowsFresh := v0_rowsFresh) (v0_gatesFresh := v0_gatesFresh) (v0_latestFault := v0_latestFault) (v0_latestNodes := v0_latestNodes) (v0_latestModel := v0_latestModel) (x1 := x1 ||| x3) (r0 := u_1) (hr0 := hu_2) (sz := H.size)) (cwV 1 hts gX7_areTwoSets_X7_areVariables rfl rfl rfl (by decide +kernel) ⟨Nat.le_of_ble_eq_true rfl, Nat.le_of_ble_eq_true rfl⟩) (kx_preV hEV hP hD [0] rfl (by decide) (k0 := 0) (ci := 7) rfl rfl rfl) rfl rfl hl.1 rfl (lv_room (Nat.le_of_ble_eq_true rfl)) dX7_areTwoSets_4 ⟨Nat.le_of_ble_eq_true rfl, Nat.le_of_ble_eq_true rfl⟩) (fun _ H locs _ hP hD hS => ?_)
  refine lv_if_eq (tgt := 22) hx hb dX7_areTwoSets_7 (by decide) (fun c_3 => ?_) (fun c_3 => ?_)
  · have k_4 : ¬ (u_1 = true) := (kx_z c_3)
    have h := co_f k_4 h
    refine lv_iconst (v := (0 : Int32)) hx hb dX7_areTwoSets_22 (by decide) ?_
    have h := Option.some.inj h
    subst h
    subst hQ
    exact W.zret (v := bI false) hx hb hr (bI_n false) (fun t ht hW => ⟨⟨bI false, (), rfl, ⟨rfl, trivial⟩, by rw [ht]; exact hP, hD⟩, hS.F ht⟩) hS.2.2 dX7_areTwoSets_23
  · have k_4 : u_1 = true := (kx_nz c_3)
    have h := co_t k_4 h
    refine lv_lload_n hx hb dX7_areTwoSets_10 rfl (lv_at hl 1 rfl) ?_
    refine lv_lload_n hx hb dX7_areTwoSets_11 rfl (lv_at hl 2 rfl) ?_
    refine lv_land hx hb dX7_areTwoSets_12 ?_
    refine lv_lconst (v := (0 : Int64)) hx hb dX7_areTwoSets_13 (by decide) ?_
    refine W.lcmp hx hb dX7_areTwoSets_14 ?_
    refine lv_if_ne (tgt := 22) hx hb dX7_areTwoSets_15 (by decide) (fun c_5 => ?_) (fun c_5 => ?_)
    · have k_6 : ¬ ((x1 &&& x3) = (0 : Int64)) := (fun z9 => c_5 ((lg_cmp_eq _ _).mpr z9))
      have h := co_f k_6 h
      refine lv_iconst (v := (0 : Int32)) hx hb dX7_areTwoSets_22 (by decide) ?_
      have h := Option.some.inj h
      subst h
      subst hQ
      exact W.zret (v := bI false) hx hb hr (bI_n false) (fun t ht hW => ⟨⟨bI false, (), rfl, ⟨rfl, trivial⟩, by rw [ht]; exact hP, hD⟩, hS.F ht⟩) hS.2.2 dX7_areTwoSets_23
    · have k_6 : (x1 &&& x3) = (0 : Int64) := ((lg_cmp_eq _ _).mp c_5)
      have h := co_t k_6 h
      refine lv_iconst (v := (1 : Int32)) hx hb dX7_areTwoSets_18 (by decide) ?_
      refine lv_goto (tgt := 23) hx hb dX7_areTwoSets_19 (by decide) ?_
      have h := Option.some.inj h
      subst h
      subst hQ
      exact W.zret (v := bI true) hx hb hr (bI_n true) (fun t ht hW => ⟨⟨bI true, (), rfl, ⟨rfl, trivial⟩, by rw [ht]; exact hP, hD⟩, hS.F ht⟩) hS.2.2 dX7_areTwoSets_23
theorem in_X7_read_X4 : ∀ w ∈ wsX40, w ∈ wsX7_read := by decide +kernel
theorem in_X7_read_X6 : ∀ w ∈ wsX60, w ∈ wsX7_read := by decide +kernel
theorem in_X7_read_X7 : ∀ w ∈ wsX70, w ∈ wsX7_read := by decide +kernel
theorem lk_0_X7_read : Cond.fieldLink RX7 29 "ParityClauses" "store" "LParityClauses$Store;" ∈ wsX7_read := by decide +kernel
theorem lk_1_X7_read : Cond.fieldLink RX7 93 "ParityClauses$Store" "equationCount" "I" ∈ wsX7_read := by decide +kernel
theorem lk_2_X7_read : Cond.fieldLink RX7 115 "ParityClauses$Store" "clauseCount" "I" ∈ wsX7_read := by decide +kernel
theorem lk_3_X7_read : Cond.fieldLink RX7 36 "ParityClauses" "tape" "LParityClauses$Tape;" ∈ wsX7_read := by decide +kernel
theorem lk_4_X7_read : Cond.fieldLink RX7 18 "ParityClauses" "n" "I" ∈ wsX7_read := by decide +kernel
theorem lk_5_X7_read : Cond.fieldLink RX7 141 "ParityClauses$Tape" "fault" "I" ∈ wsX7_read := by decide +kernel
theorem lk_6_X7_read : Cond.fieldLink RX7 144 "ParityClauses" "latestFault" "I" ∈ wsX7_read := by decide +kernel
theorem lk_7_X7_read : Cond.fieldLink RX7 125 "ParityClauses$Tape" "length" "I" ∈ wsX7_read := by decide +kernel
abbrev rm_X7_read : Room := { frames := 5, cells := 0, slots := 0, locals := 116 }
set_option maxHeartbeats 4000000 in
set_option maxRecDepth 100000 in
theorem cm_X7_read (l : Launch) (D : va_G) (cI cL : ClassId) (q0 q0_store q0_store_equations q0_store_yes q0_store_no q0_tape q0_tape_bytes : Nat) (n0_store_equations n0_store_yes n0_store_no n0_tape_bytes : Nat) (f0_n : Int32) (f0_rowsFresh : Bool) (f0_gatesFresh : Bool) (f0_latestFault : Int32) (f0_store_equationCount : Int32) (f0_store_clauseCount : Int32) (h0_store_equations : Nat → Int64) (h0_store_yes : Nat → Int64) (h0_store_no : Nat → Int64) (f0_tape_length : Int32) (f0_tape_fault : Int32) (f0_tape_place : Int32) (f0_tape_isEquation : Bool) (f0_tape_first : Int64) (f0_tape_second : Int64) (f0_tape_rightIsOne : Bool) (h0_tape_bytes : Nat → Int32) (v0_variables v0_base v0_blamed v0_gateList v0_taking v0_search v0_latestNodes v0_latestModel v0_store_equationsBefore v0_store_clausesBefore v0_store_levelCount : Value) (r0 : Int32 × Bool × Bool × Int32 × Int32 × Int32 × (Nat → Int64) × (Nat → Int64) × (Nat → Int64) × Int32 × Int32 × Int32 × Bool × Int64 × Int64 × Bool) (hr0 : D_X7_read f0_n f0_rowsFresh f0_gatesFresh f0_latestFault f0_store_equationCount f0_store_clauseCount n0_store_equations h0_store_equations n0_store_yes h0_store_yes n0_store_no h0_store_no f0_tape_length f0_tape_fault f0_tape_place f0_tape_isEquation f0_tape_first f0_tape_second f0_tape_rightIsOne n0_tape_bytes h0_tape_bytes = some r0) (sz : Nat) : Met l yX7_read wsX7_read rm_X7_read (PcW D cI cL [.ref q0] [(q0, .inr (7, [.int f0_n, v0_variables, .ref q0_store, .ref q0_tape, v0_base, v0_blamed, v0_gateList, v0_taking, v0_search, .int (bI f0_rowsFresh), .int (bI f0_gatesFresh), .int f0_latestFault, v0_latestNodes, v0_latestModel])), (q0_store, .inr (4, [.ref q0_store_equations, .ref q0_store_yes, .ref q0_store_no, .int f0_store_equationCount, .int f0_store_clauseCount, v0_store_equationsBefore, v0_store_clausesBefore, v0_store_levelCount])), (q0_store_equations, .inl (cL, n0_store_equations, .inr (.inl h0_store_equations))), (q0_store_yes, .inl (cL, n0_store_yes, .inr (.inl h0_store_yes))), (q0_store_no, .inl (cL, n0_store_no, .inr (.inl h0_store_no))), (q0_tape, .inr (6, [.ref q0_tape_bytes, .int f0_tape_length, .int f0_tape_fault, .int f0_tape_place, .int (bI f0_tape_isEquation), .long f0_tape_first, .long f0_tape_second, .int (bI f0_tape_rightIsOne)])), (q0_tape_bytes, .inl (cI, n0_tape_bytes, .inl h0_tape_bytes))] sz) (QiW D [(q0, .inr (7, [.int f0_n, v0_variables, .ref q0_store, .ref q0_tape, v0_base, v0_blamed, v0_gateList, v0_taking, v0_search, .int (bI f0_rowsFresh), .int (bI f0_gatesFresh), .int f0_latestFault, v0_latestNodes, v0_latestModel])), (q0_store, .inr (4, [.ref q0_store_equations, .ref q0_store_yes, .ref q0_store_no, .int f0_store_equationCount, .int f0_store_clauseCount, v0_store_equationsBefore, v0_store_clausesBefore, v0_store_levelCount])), (q0_store_equations, .inl (cL, n0_store_equations, .inr (.inl h0_store_equations))), (q0_store_yes, .inl (cL, n0_store_yes, .inr (.inl h0_store_yes))), (q0_store_no, .inl (cL, n0_store_no, .inr (.inl h0_store_no))), (q0_tape, .inr (6, [.ref q0_tape_bytes, .int f0_tape_length, .int f0_tape_fault, .int f0_tape_place, .int (bI f0_tape_isEquation), .long f0_tape_first, .long f0_tape_second, .int (bI f0_tape_rightIsOne)])), (q0_tape_bytes, .inl (cI, n0_tape_bytes, .inl h0_tape_bytes))] r0.1 (fun _ : Unit => [(q0, .inr (7, [.int f0_n, v0_variables, .ref q0_store, .ref q0_tape, v0_base, v0_blamed, v0_gateList, v0_taking, v0_search, .int (bI r0.2.1), .int (bI r0.2.2.1), .int r0.2.2.2.1, v0_latestNodes, v0_latestModel])), (q0_store, .inr (4, [.ref q0_store_equations, .ref q0_store_yes, .ref q0_store_no, .int r0.2.2.2.2.1, .int r0.2.2.2.2.2.1, v0_store_equationsBefore, v0_store_clausesBefore, v0_store_levelCount])), (q0_store_equations, .inl (cL, n0_store_equations, .inr (.inl r0.2.2.2.2.2.2.1))), (q0_store_yes, .inl (cL, n0_store_yes, .inr (.inl r0.2.2.2.2.2.2.2.1))), (q0_store_no, .inl (cL, n0_store_no, .inr (.inl r0.2.2.2.2.2.2.2.2.1))), (q0_tape, .inr (6, [.ref q0_tape_bytes, .int r0.2.2.2.2.2.2.2.2.2.1, .int r0.2.2.2.2.2.2.2.2.2.2.1, .int r0.2.2.2.2.2.2.2.2.2.2.2.1, .int (bI r0.2.2.2.2.2.2.2.2.2.2.2.2.1), .long r0.2.2.2.2.2.2.2.2.2.2.2.2.2.1, .long r0.2.2.2.2.2.2.2.2.2.2.2.2.2.2.1, .int (bI r0.2.2.2.2.2.2.2.2.2.2.2.2.2.2.2)])), (q0_tape_bytes, .inl (cI, n0_tape_bytes, .inl h0_tape_bytes))]) tU sz) 0 0 (va_A [(q0, .inr (7, [.int f0_n, v0_variables, .ref q0_store, .ref q0_tape, v0_base, v0_blamed, v0_gateList, v0_taking, v0_search, .int (bI f0_rowsFresh), .int (bI f0_gatesFresh), .int f0_latestFault, v0_latestNodes, v0_latestModel])), (q0_store, .inr (4, [.ref q0_store_equations, .ref q0_store_yes, .ref q0_store_no, .int f0_store_equationCount, .int f0_store_clauseCount, v0_store_equationsBefore, v0_store_clausesBefore, v0_store_levelCount])), (q0_store_equations, .inl (cL, n0_store_equations, .inr (.inl h0_store_equations))), (q0_store_yes, .inl (cL, n0_store_yes, .inr (.inl h0_store_yes))), (q0_store_no, .inl (cL, n0_store_no, .inr (.inl h0_store_no))), (q0_tape, .inr (6, [.ref q0_tape_bytes, .int f0_tape_length, .int f0_tape_fault, .int f0_tape_place, .int (bI f0_tape_isEquation), .long f0_tape_first, .long f0_tape_second, .int (bI f0_tape_rightIsOne)])), (q0_tape_bytes, .inl (cI, n0_tape_bytes, .inl h0_tape_bytes))] sz) := by
  refine Met.ofW (cc := cX7_read) (maxL := 4) (ret := (some .int)) (by decide) rfl ?_
  intro p e s m args below meth c s₁ B hml hv
  obtain ⟨hargs, hsz, hP, hEV, hD0⟩ := hv
  have hx := B.exec
  have hb := B.bytes
  have hr := B.returns
  have hts := atoms_spec (ws := wsX7_read) B.pre
  have hown : s.vm.findClass RX7 = some m.cls := findClass_of_methodNamed B.named
  have hlocks := B.notSynchronized
  have hK := hEV.K
  have lk_0 := hts _ lk_0_X7_read
  have lk_1 := hts _ lk_1_X7_read
  have lk_2 := hts _ lk_2_X7_read
  have lk_3 := hts _ lk_3_X7_read
  have lk_4 := hts _ lk_4_X7_read
  have lk_5 := hts _ lk_5_X7_read
  have lk_6 := hts _ lk_6_X7_read
  have lk_7 := hts _ lk_7_X7_read
  subst hsz
  unfold QiW PoW
  have hD := hD0.self (sz := s.heap.size)
  generalize hAe : va_A [(q0, .inr (7, [.int f0_n, v0_variables, .ref q0_store, .ref q0_tape, v0_base, v0_blamed, v0_gateList, v0_taking, v0_search, .int (bI f0_rowsFresh), .int (bI f0_gatesFresh), .int f0_latestFault, v0_latestNodes, v0_latestModel])), (q0_store, .inr (4, [.ref q0_store_equations, .ref q0_store_yes, .ref q0_store_no, .int f0_store_equationCount, .int f0_store_clauseCount, v0_store_equationsBefore, v0_store_clausesBefore, v0_store_levelCount])), (q0_store_equations, .inl (cL, n0_store_equations, .inr (.inl h0_store_equations))), (q0_store_yes, .inl (cL, n0_store_yes, .inr (.inl h0_store_yes))), (q0_store_no, .inl (cL, n0_store_no, .inr (.inl h0_store_no))), (q0_tape, .inr (6, [.ref q0_tape_bytes, .int f0_tape_length, .int f0_tape_fault, .int f0_tape_place, .int (bI f0_tape_isEquation), .long f0_tape_first, .long f0_tape_second, .int (bI f0_tape_rightIsOne)])), (q0_tape_bytes, .inl (cI, n0_tape_bytes, .inl h0_tape_bytes))] s.heap.size = A at hD ⊢
  have hA : ∀ q : Nat, s.heap.size ≤ q → A q := fun q h => by rw [← hAe]; exact Or.inr h
  have hent : entryFrame m args 4 = entryFrame m ([.ref q0] : List Value).toArray 4 := by rw [hargs]
  rw [hent]
  refine kx_Q (fun Q hQ => ?_)
  refine kx_H (fun H hH => ?_)
  have hP : va_P D vwCl [(q0, .inr (7, [.int f0_n, v0_variables, .ref q0_store, .ref q0_tape, v0_base, v0_blamed, v0_gateList, v0_taking, v0_search, .int (bI f0_rowsFresh), .int (bI f0_gatesFresh), .int f0_latestFault, v0_latestNodes, v0_latestModel])), (q0_store, .inr (4, [.ref q0_store_equations, .ref q0_store_yes, .ref q0_store_no, .int f0_store_equationCount, .int f0_store_clauseCount, v0_store_equationsBefore, v0_store_clausesBefore, v0_store_levelCount])), (q0_store_equations, .inl (cL, n0_store_equations, .inr (.inl h0_store_equations))), (q0_store_yes, .inl (cL, n0_store_yes, .inr (.inl h0_store_yes))), (q0_store_no, .inl (cL, n0_store_no, .inr (.inl h0_store_no))), (q0_tape, .inr (6, [.ref q0_tape_bytes, .int f0_tape_length, .int f0_tape_fault, .int f0_tape_place, .int (bI f0_tape_isEquation), .long f0_tape_first, .long f0_tape_second, .int (bI f0_tape_rightIsOne)])), (q0_tape_bytes, .inl (cI, n0_tape_bytes, .inl h0_tape_bytes))] H := by rw [hH]; exact hP
  have hS : va_S A s.heap H [] := by rw [hH]; exact va_S.rf
  have hl := lv_entry ([.ref q0]) (n := 4) (Nat.le_of_ble_eq_true rfl)
  rw [lg_entry_eq]
  generalize (lg_sl ([.ref q0]) ++ List.replicate (4 - (lg_sl ([.ref q0])).length) Slot.unset).toArray = ls at hl ⊢
  have hl : lv_has ls 4 [(0, .ref q0)] := hl
  have h := hr0
  unfold D_X7_read at h
  refine lv_aload_n hx hb dX7_read_0 rfl (lv_at hl 0 rfl) ?_
  refine va_get (D := D) (ci := 7) (v := .ref q0_store) (C := RX7) (T := TX7) (N := 14) hx hb hts in_X7_read_X7 hown hK hP 0 rfl rfl 2 (by decide) lk_0 (fun _ h9 => h9) rfl dX7_read_1 ?_
  refine va_get (D := D) (ci := 4) (v := .int f0_store_equationCount) (C := RX4) (T := TX4) (N := 8) hx hb hts in_X7_read_X4 hown hK hP 1 rfl rfl 3 (by decide) lk_1 (fun _ h9 => h9) rfl dX7_read_4 ?_
  refine lv_istore_n (lv' := [(1, .int f0_store_equationCount), (0, .ref q0)]) hx hb dX7_read_7 rfl hl (by decide) rfl (fun ls hl => ?_)
  refine lv_aload_n hx hb dX7_read_8 rfl (lv_at hl 1 rfl) ?_
  refine va_get (D := D) (ci := 7) (v := .ref q0_store) (C := RX7) (T := TX7) (N := 14) hx hb hts in_X7_read_X7 hown hK hP 0 rfl rfl 2 (by decide) lk_0 (fun _ h9 => h9) rfl dX7_read_9 ?_
  refine va_get (D := D) (ci := 4) (v := .int f0_store_clauseCount) (C := RX4) (T := TX4) (N := 8) hx hb hts in_X7_read_X4 hown hK hP 1 rfl rfl 4 (by decide) lk_2 (fun _ h9 => h9) rfl dX7_read_12 ?_
  refine lv_istore_n (lv' := [(2, .int f0_store_clauseCount), (1, .int f0_store_equationCount), (0, .ref q0)]) hx hb dX7_read_15 rfl hl (by decide) rfl (fun ls hl => ?_)
  refine lv_aload_n hx hb dX7_read_16 rfl (lv_at hl 2 rfl) ?_
  refine va_get (D := D) (ci := 7) (v := .ref q0_tape) (C := RX7) (T := TX7) (N := 14) hx hb hts in_X7_read_X7 hown hK hP 0 rfl rfl 3 (by decide) lk_3 (fun _ h9 => h9) rfl dX7_read_17 ?_
  refine lv_aload_n hx hb dX7_read_20 rfl (lv_at hl 2 rfl) ?_
  refine va_get (D := D) (ci := 7) (v := .ref q0_store) (C := RX7) (T := TX7) (N := 14) hx hb hts in_X7_read_X7 hown hK hP 0 rfl rfl 2 (by decide) lk_0 (fun _ h9 => h9) rfl dX7_read_21 ?_
  refine lv_aload_n hx hb dX7_read_24 rfl (lv_at hl 2 rfl) ?_
  refine va_get (D := D) (ci := 7) (v := .int f0_n) (C := RX7) (T := TX7) (N := 14) hx hb hts in_X7_read_X7 hown hK hP 0 rfl rfl 0 (by decide) lk_4 (fun _ h9 => h9) rfl dX7_read_25 ?_
  obtain ⟨u_1, hu_2, h⟩ := co_b h
  refine kx_i (ws' := fun _ => [(q0, .inr (7, [.int f0_n, v0_variables, .ref q0_store, .ref q0_tape, v0_base, v0_blamed, v0_gateList, v0_taking, v0_search, .int (bI f0_rowsFresh), .int (bI f0_gatesFresh), .int f0_latestFault, v0_latestNodes, v0_latestModel])), (q0_store, .inr (4, [.ref q0_store_equations, .ref q0_store_yes, .ref q0_store_no, .int u_1.2.2.2.2.2.2.2.1, .int u_1.2.2.2.2.2.2.2.2.1, v0_store_equationsBefore, v0_store_clausesBefore, v0_store_levelCount])), (q0_store_equations, .inl (cL, n0_store_equations, .inr (.inl u_1.2.2.2.2.2.2.2.2.2.1))), (q0_store_yes, .inl (cL, n0_store_yes, .inr (.inl u_1.2.2.2.2.2.2.2.2.2.2.1))), (q0_store_no, .inl (cL, n0_store_no, .inr (.inl u_1.2.2.2.2.2.2.2.2.2.2.2))), (q0_tape, .inr (6, [.ref q0_tape_bytes, .int f0_tape_length, .int u_1.2.1, .int u_1.2.2.1, .int (bI u_1.2.2.2.1), .long u_1.2.2.2.2.1, .long u_1.2.2.2.2.2.1, .int (bI u_1.2.2.2.2.2.2.1)])), (q0_tape_bytes, .inl (cI, n0_tape_bytes, .inl h0_tape_bytes))]) hP hD hS hA [5, 6, 1, 2, 3, 4] [0] [0, 3, 4, 5, 6, 1, 2] rfl rfl (by decide) (by decide) (fun _ => rfl) (by decide) (va_runV (As := [.ref q0_store, .int f0_n]) (rest := []) ⟨hx, hb, hml, hown, hts⟩ (cm_X6_readLines l D cI cL (q0 := q0_tape) (q0_bytes := q0_tape_bytes) (q1 := q0_store) (q1_equations := q0_store_equations) (q1_yes := q0_store_yes) (q1_no := q0_store_no) (n0_bytes := n0_tape_bytes) (n1_equations := n0_store_equations) (n1_yes := n0_store_yes) (n1_no := n0_store_no) (f0_length := f0_tape_length) (f0_fault := f0_tape_fault) (f0_place := f0_tape_place) (f0_isEquation := f0_tape_isEquation) (f0_first := f0_tape_first) (f0_second := f0_tape_second) (f0_rightIsOne := f0_tape_rightIsOne) (h0_bytes := h0_tape_bytes) (f1_equationCount := f0_store_equationCount) (f1_clauseCount := f0_store_clauseCount) (h1_equations := h0_store_equations) (h1_yes := h0_store_yes) (h1_no := h0_store_no) (v1_equationsBefore := v0_store_equationsBefore) (v1_clausesBefore := v0_store_clausesBefore) (v1_levelCount := v0_store_levelCount) (x2 := f0_n) (r0 := u_1) (hr0 := hu_2) (sz := H.size)) (cwV 2 hts gX7_read_X6_readLines rfl rfl rfl (by decide +kernel) ⟨Nat.le_of_ble_eq_true rfl, Nat.le_of_ble_eq_true rfl⟩) (kx_preV hEV hP hD [5, 6, 1, 2, 3, 4] rfl (by decide) (k0 := 5) (ci := 6) rfl rfl rfl) rfl rfl hl.1 rfl (lv_room (Nat.le_of_ble_eq_true rfl)) dX7_read_28 ⟨Nat.le_of_ble_eq_true rfl, Nat.le_of_ble_eq_true rfl⟩) (fun _ H locs _ hP hD hS => ?_)
  refine lv_istore_n (lv' := [(3, .int u_1.1), (2, .int f0_store_clauseCount), (1, .int f0_store_equationCount), (0, .ref q0)]) hx hb dX7_read_31 rfl hl (by decide) rfl (fun ls hl => ?_)
  refine lv_iload_n hx hb dX7_read_32 rfl (lv_at hl 0 rfl) ?_
  refine lv_if_ge (tgt := 45) hx hb dX7_read_33 (by decide) (fun c_3 => ?_) (fun c_3 => ?_)
  · have k_4 : 0 ≤ u_1.1 := c_3
    have h := co_t k_4 h
    refine lv_aload_n hx hb dX7_read_45 rfl (lv_at hl 3 rfl) ?_
    refine lv_aload_n hx hb dX7_read_46 rfl (lv_at hl 3 rfl) ?_
    refine va_get (D := D) (ci := 7) (v := .ref q0_tape) (C := RX7) (T := TX7) (N := 14) hx hb hts in_X7_read_X7 hown hK hP 0 rfl rfl 3 (by decide) lk_3 (fun _ h9 => h9) rfl dX7_read_47 ?_
    refine va_get (D := D) (ci := 6) (v := .int u_1.2.1) (C := RX6) (T := TX6) (N := 8) hx hb hts in_X7_read_X6 hown hK hP 5 rfl rfl 2 (by decide) lk_5 (fun _ h9 => h9) rfl dX7_read_50 ?_
    refine va_put (D := D) (ci := 7) (v := .int u_1.2.1) (ty := .int) (C := RX7) (T := TX7) (N := 14) hx hb hts in_X7_read_X7 tyX7 tyX7_ok nmX7 hown hK hP hD hS 0 rfl rfl 11 (by decide) lk_6 (fun _ h9 => h9) rfl (by decide +kernel) rfl rfl (Nat.le_of_ble_eq_true rfl) dX7_read_53 (fun H locs hP hD hS => ?_)
    have hP : va_P D vwCl [(q0, .inr (7, [.int f0_n, v0_variables, .ref q0_store, .ref q0_tape, v0_base, v0_blamed, v0_gateList, v0_taking, v0_search, .int (bI f0_rowsFresh), .int (bI f0_gatesFresh), .int u_1.2.1, v0_latestNodes, v0_latestModel])), (q0_store, .inr (4, [.ref q0_store_equations, .ref q0_store_yes, .ref q0_store_no, .int u_1.2.2.2.2.2.2.2.1, .int u_1.2.2.2.2.2.2.2.2.1, v0_store_equationsBefore, v0_store_clausesBefore, v0_store_levelCount])), (q0_store_equations, .inl (cL, n0_store_equations, .inr (.inl u_1.2.2.2.2.2.2.2.2.2.1))), (q0_store_yes, .inl (cL, n0_store_yes, .inr (.inl u_1.2.2.2.2.2.2.2.2.2.2.1))), (q0_store_no, .inl (cL, n0_store_no, .inr (.inl u_1.2.2.2.2.2.2.2.2.2.2.2))), (q0_tape, .inr (6, [.ref q0_tape_bytes, .int f0_tape_length, .int u_1.2.1, .int u_1.2.2.1, .int (bI u_1.2.2.2.1), .long u_1.2.2.2.2.1, .long u_1.2.2.2.2.2.1, .int (bI u_1.2.2.2.2.2.2.1)])), (q0_tape_bytes, .inl (cI, n0_tape_bytes, .inl h0_tape_bytes))] H := hP
    have hD : va_D A [(q0, .inr (7, [.int f0_n, v0_variables, .ref q0_store, .ref q0_tape, v0_base, v0_blamed, v0_gateList, v0_taking, v0_search, .int (bI f0_rowsFresh), .int (bI f0_gatesFresh), .int u_1.2.1, v0_latestNodes, v0_latestModel])), (q0_store, .inr (4, [.ref q0_store_equations, .ref q0_store_yes, .ref q0_store_no, .int u_1.2.2.2.2.2.2.2.1, .int u_1.2.2.2.2.2.2.2.2.1, v0_store_equationsBefore, v0_store_clausesBefore, v0_store_levelCount])), (q0_store_equations, .inl (cL, n0_store_equations, .inr (.inl u_1.2.2.2.2.2.2.2.2.2.1))), (q0_store_yes, .inl (cL, n0_store_yes, .inr (.inl u_1.2.2.2.2.2.2.2.2.2.2.1))), (q0_store_no, .inl (cL, n0_store_no, .inr (.inl u_1.2.2.2.2.2.2.2.2.2.2.2))), (q0_tape, .inr (6, [.ref q0_tape_bytes, .int f0_tape_length, .int u_1.2.1, .int u_1.2.2.1, .int (bI u_1.2.2.2.1), .long u_1.2.2.2.2.1, .long u_1.2.2.2.2.2.1, .int (bI u_1.2.2.2.2.2.2.1)])), (q0_tape_bytes, .inl (cI, n0_tape_bytes, .inl h0_tape_bytes))] := hD
    refine lv_aload_n hx hb dX7_read_56 rfl (lv_at hl 3 rfl) ?_
    refine va_get (D := D) (ci := 7) (v := .ref q0_tape) (C := RX7) (T := TX7) (N := 14) hx hb hts in_X7_read_X7 hown hK hP 0 rfl rfl 3 (by decide) lk_3 (fun _ h9 => h9) rfl dX7_read_57 ?_
    refine lv_iconst (v := (0 : Int32)) hx hb dX7_read_60 (by decide) ?_
    refine va_put (D := D) (ci := 6) (v := .int (0 : Int32)) (ty := .int) (C := RX6) (T := TX6) (N := 8) hx hb hts in_X7_read_X6 tyX6 tyX6_ok nmX6 hown hK hP hD hS 5 rfl rfl 1 (by decide) lk_7 (fun _ h9 => h9) rfl (by decide +kernel) rfl rfl (Nat.le_of_ble_eq_true rfl) dX7_read_61 (fun H locs hP hD hS => ?_)
    have hP : va_P D vwCl [(q0, .inr (7, [.int f0_n, v0_variables, .ref q0_store, .ref q0_tape, v0_base, v0_blamed, v0_gateList, v0_taking, v0_search, .int (bI f0_rowsFresh), .int (bI f0_gatesFresh), .int u_1.2.1, v0_latestNodes, v0_latestModel])), (q0_store, .inr (4, [.ref q0_store_equations, .ref q0_store_yes, .ref q0_store_no, .int u_1.2.2.2.2.2.2.2.1, .int u_1.2.2.2.2.2.2.2.2.1, v0_store_equationsBefore, v0_store_clausesBefore, v0_store_levelCount])), (q0_store_equations, .inl (cL, n0_store_equations, .inr (.inl u_1.2.2.2.2.2.2.2.2.2.1))), (q0_store_yes, .inl (cL, n0_store_yes, .inr (.inl u_1.2.2.2.2.2.2.2.2.2.2.1))), (q0_store_no, .inl (cL, n0_store_no, .inr (.inl u_1.2.2.2.2.2.2.2.2.2.2.2))), (q0_tape, .inr (6, [.ref q0_tape_bytes, .int (0 : Int32), .int u_1.2.1, .int u_1.2.2.1, .int (bI u_1.2.2.2.1), .long u_1.2.2.2.2.1, .long u_1.2.2.2.2.2.1, .int (bI u_1.2.2.2.2.2.2.1)])), (q0_tape_bytes, .inl (cI, n0_tape_bytes, .inl h0_tape_bytes))] H := hP
    have hD : va_D A [(q0, .inr (7, [.int f0_n, v0_variables, .ref q0_store, .ref q0_tape, v0_base, v0_blamed, v0_gateList, v0_taking, v0_search, .int (bI f0_rowsFresh), .int (bI f0_gatesFresh), .int u_1.2.1, v0_latestNodes, v0_latestModel])), (q0_store, .inr (4, [.ref q0_store_equations, .ref q0_store_yes, .ref q0_store_no, .int u_1.2.2.2.2.2.2.2.1, .int u_1.2.2.2.2.2.2.2.2.1, v0_store_equationsBefore, v0_store_clausesBefore, v0_store_levelCount])), (q0_store_equations, .inl (cL, n0_store_equations, .inr (.inl u_1.2.2.2.2.2.2.2.2.2.1))), (q0_store_yes, .inl (cL, n0_store_yes, .inr (.inl u_1.2.2.2.2.2.2.2.2.2.2.1))), (q0_store_no, .inl (cL, n0_store_no, .inr (.inl u_1.2.2.2.2.2.2.2.2.2.2.2))), (q0_tape, .inr (6, [.ref q0_tape_bytes, .int (0 : Int32), .int u_1.2.1, .int u_1.2.2.1, .int (bI u_1.2.2.2.1), .long u_1.2.2.2.2.1, .long u_1.2.2.2.2.2.1, .int (bI u_1.2.2.2.2.2.2.1)])), (q0_tape_bytes, .inl (cI, n0_tape_bytes, .inl h0_tape_bytes))] := hD
    refine lv_aload_n hx hb dX7_read_64 rfl (lv_at hl 3 rfl) ?_
    obtain ⟨u_5, hu_6, h⟩ := co_b h
    refine kx_v (ws' := fun _ => [(q0, .inr (7, [.int f0_n, v0_variables, .ref q0_store, .ref q0_tape, v0_base, v0_blamed, v0_gateList, v0_taking, v0_search, .int (bI u_5.1), .int (bI u_5.2), .int u_1.2.1, v0_latestNodes, v0_latestModel])), (q0_store, .inr (4, [.ref q0_store_equations, .ref q0_store_yes, .ref q0_store_no, .int u_1.2.2.2.2.2.2.2.1, .int u_1.2.2.2.2.2.2.2.2.1, v0_store_equationsBefore, v0_store_clausesBefore, v0_store_levelCount])), (q0_store_equations, .inl (cL, n0_store_equations, .inr (.inl u_1.2.2.2.2.2.2.2.2.2.1))), (q0_store_yes, .inl (cL, n0_store_yes, .inr (.inl u_1.2.2.2.2.2.2.2.2.2.2.1))), (q0_store_no, .inl (cL, n0_store_no, .inr (.inl u_1.2.2.2.2.2.2.2.2.2.2.2))), (q0_tape, .inr (6, [.ref q0_tape_bytes, .int (0 : Int32), .int u_1.2.1, .int u_1.2.2.1, .int (bI u_1.2.2.2.1), .long u_1.2.2.2.2.1, .long u_1.2.2.2.2.2.1, .int (bI u_1.2.2.2.2.2.2.1)])), (q0_tape_bytes, .inl (cI, n0_tape_bytes, .inl h0_tape_bytes))]) hP hD hS hA [0] [1, 2, 3, 4, 5, 6] [6, 0, 1, 2, 3, 4, 5] rfl rfl (by decide) (by decide) (fun _ => rfl) (by decide) (va_runV (As := []) (rest := []) ⟨hx, hb, hml, hown, hts⟩ (cm_X7_forget l D cI cL (q0 := q0) (f0_rowsFresh := f0_rowsFresh) (f0_gatesFresh := f0_gatesFresh) (v0_n := .int f0_n) (v0_variables := v0_variables) (v0_store := .ref q0_store) (v0_tape := .ref q0_tape) (v0_base := v0_base) (v0_blamed := v0_blamed) (v0_gateList := v0_gateList) (v0_taking := v0_taking) (v0_search := v0_search) (v0_latestFault := .int u_1.2.1) (v0_latestNodes := v0_latestNodes) (v0_latestModel := v0_latestModel) (r0 := u_5) (hr0 := hu_6) (sz := H.size)) (cwV 0 hts gX7_read_X7_forget rfl rfl rfl (by decide +kernel) ⟨Nat.le_of_ble_eq_true rfl, Nat.le_of_ble_eq_true rfl⟩) (kx_preV hEV hP hD [0] rfl (by decide) (k0 := 0) (ci := 7) rfl rfl rfl) rfl rfl hl.1 rfl (lv_room (Nat.le_of_ble_eq_true rfl)) dX7_read_65 ⟨Nat.le_of_ble_eq_true rfl, Nat.le_of_ble_eq_true rfl⟩) (fun _ H locs _ hP hD hS => ?_)
    refine lv_iload_n hx hb dX7_read_68 rfl (lv_at hl 0 rfl) ?_
    have h := Option.some.inj h
    subst h
    subst hQ
    exact W.iret (v := u_1.1) hx hb hr (fun t ht hW => ⟨⟨u_1.1, (), rfl, ⟨rfl, trivial⟩, by rw [ht]; exact hP, hD⟩, hS.F ht⟩) hS.2.2 dX7_read_69
  · have k_4 : ¬ (0 ≤ u_1.1) := c_3
    have h := co_f k_4 h
    refine lv_aload_n hx hb dX7_read_36 rfl (lv_at hl 3 rfl) ?_
    refine va_get (D := D) (ci := 7) (v := .ref q0_store) (C := RX7) (T := TX7) (N := 14) hx hb hts in_X7_read_X7 hown hK hP 0 rfl rfl 2 (by decide) lk_0 (fun _ h9 => h9) rfl dX7_read_37 ?_
    refine lv_iload_n hx hb dX7_read_40 rfl (lv_at hl 2 rfl) ?_
    refine lv_iload_n hx hb dX7_read_41 rfl (lv_at hl 1 rfl) ?_
    obtain ⟨u_7, hu_8, h⟩ := co_b h
    refine kx_v (ws' := fun _ => [(q0, .inr (7, [.int f0_n, v0_variables, .ref q0_store, .ref q0_tape, v0_base, v0_blamed, v0_gateList, v0_taking, v0_search, .int (bI f0_rowsFresh), .int (bI f0_gatesFresh), .int f0_latestFault, v0_latestNodes, v0_latestModel])), (q0_store, .inr (4, [.ref q0_store_equations, .ref q0_store_yes, .ref q0_store_no, .int u_7.1, .int u_7.2, v0_store_equationsBefore, v0_store_clausesBefore, v0_store_levelCount])), (q0_store_equations, .inl (cL, n0_store_equations, .inr (.inl u_1.2.2.2.2.2.2.2.2.2.1))), (q0_store_yes, .inl (cL, n0_store_yes, .inr (.inl u_1.2.2.2.2.2.2.2.2.2.2.1))), (q0_store_no, .inl (cL, n0_store_no, .inr (.inl u_1.2.2.2.2.2.2.2.2.2.2.2))), (q0_tape, .inr (6, [.ref q0_tape_bytes, .int f0_tape_length, .int u_1.2.1, .int u_1.2.2.1, .int (bI u_1.2.2.2.1), .long u_1.2.2.2.2.1, .long u_1.2.2.2.2.2.1, .int (bI u_1.2.2.2.2.2.2.1)])), (q0_tape_bytes, .inl (cI, n0_tape_bytes, .inl h0_tape_bytes))]) hP hD hS hA [1] [0, 2, 3, 4, 5, 6] [0, 6, 1, 2, 3, 4, 5] rfl rfl (by decide) (by decide) (fun _ => rfl) (by decide) (va_runV (As := [.int f0_store_equationCount, .int f0_store_clauseCount]) (rest := []) ⟨hx, hb, hml, hown, hts⟩ (cm_X4_cutTo l D cI cL (q0 := q0_store) (f0_equationCount := u_1.2.2.2.2.2.2.2.1) (f0_clauseCount := u_1.2.2.2.2.2.2.2.2.1) (v0_equations := .ref q0_store_equations) (v0_yes := .ref q0_store_yes) (v0_no := .ref q0_store_no) (v0_equationsBefore := v0_store_equationsBefore) (v0_clausesBefore := v0_store_clausesBefore) (v0_levelCount := v0_store_levelCount) (x1 := f0_store_equationCount) (x2 := f0_store_clauseCount) (r0 := u_7) (hr0 := hu_8) (sz := H.size)) (cwV 2 hts gX7_read_X4_cutTo rfl rfl rfl (by decide +kernel) ⟨Nat.le_of_ble_eq_true rfl, Nat.le_of_ble_eq_true rfl⟩) (kx_preV hEV hP hD [1] rfl (by decide) (k0 := 1) (ci := 4) rfl rfl rfl) rfl rfl hl.1 rfl (lv_room (Nat.le_of_ble_eq_true rfl)) dX7_read_42 ⟨Nat.le_of_ble_eq_true rfl, Nat.le_of_ble_eq_true rfl⟩) (fun _ H locs _ hP hD hS => ?_)
    refine lv_aload_n hx hb dX7_read_45 rfl (lv_at hl 3 rfl) ?_
    refine lv_aload_n hx hb dX7_read_46 rfl (lv_at hl 3 rfl) ?_
    refine va_get (D := D) (ci := 7) (v := .ref q0_tape) (C := RX7) (T := TX7) (N := 14) hx hb hts in_X7_read_X7 hown hK hP 0 rfl rfl 3 (by decide) lk_3 (fun _ h9 => h9) rfl dX7_read_47 ?_
    refine va_get (D := D) (ci := 6) (v := .int u_1.2.1) (C := RX6) (T := TX6) (N := 8) hx hb hts in_X7_read_X6 hown hK hP 5 rfl rfl 2 (by decide) lk_5 (fun _ h9 => h9) rfl dX7_read_50 ?_
    refine va_put (D := D) (ci := 7) (v := .int u_1.2.1) (ty := .int) (C := RX7) (T := TX7) (N := 14) hx hb hts in_X7_read_X7 tyX7 tyX7_ok nmX7 hown hK hP hD hS 0 rfl rfl 11 (by decide) lk_6 (fun _ h9 => h9) rfl (by decide +kernel) rfl rfl (Nat.le_of_ble_eq_true rfl) dX7_read_53 (fun H locs hP hD hS => ?_)
    have hP : va_P D vwCl [(q0, .inr (7, [.int f0_n, v0_variables, .ref q0_store, .ref q0_tape, v0_base, v0_blamed, v0_gateList, v0_taking, v0_search, .int (bI f0_rowsFresh), .int (bI f0_gatesFresh), .int u_1.2.1, v0_latestNodes, v0_latestModel])), (q0_store, .inr (4, [.ref q0_store_equations, .ref q0_store_yes, .ref q0_store_no, .int u_7.1, .int u_7.2, v0_store_equationsBefore, v0_store_clausesBefore, v0_store_levelCount])), (q0_store_equations, .inl (cL, n0_store_equations, .inr (.inl u_1.2.2.2.2.2.2.2.2.2.1))), (q0_store_yes, .inl (cL, n0_store_yes, .inr (.inl u_1.2.2.2.2.2.2.2.2.2.2.1))), (q0_store_no, .inl (cL, n0_store_no, .inr (.inl u_1.2.2.2.2.2.2.2.2.2.2.2))), (q0_tape, .inr (6, [.ref q0_tape_bytes, .int f0_tape_length, .int u_1.2.1, .int u_1.2.2.1, .int (bI u_1.2.2.2.1), .long u_1.2.2.2.2.1, .long u_1.2.2.2.2.2.1, .int (bI u_1.2.2.2.2.2.2.1)])), (q0_tape_bytes, .inl (cI, n0_tape_bytes, .inl h0_tape_bytes))] H := hP
    have hD : va_D A [(q0, .inr (7, [.int f0_n, v0_variables, .ref q0_store, .ref q0_tape, v0_base, v0_blamed, v0_gateList, v0_taking, v0_search, .int (bI f0_rowsFresh), .int (bI f0_gatesFresh), .int u_1.2.1, v0_latestNodes, v0_latestModel])), (q0_store, .inr (4, [.ref q0_store_equations, .ref q0_store_yes, .ref q0_store_no, .int u_7.1, .int u_7.2, v0_store_equationsBefore, v0_store_clausesBefore, v0_store_levelCount])), (q0_store_equations, .inl (cL, n0_store_equations, .inr (.inl u_1.2.2.2.2.2.2.2.2.2.1))), (q0_store_yes, .inl (cL, n0_store_yes, .inr (.inl u_1.2.2.2.2.2.2.2.2.2.2.1))), (q0_store_no, .inl (cL, n0_store_no, .inr (.inl u_1.2.2.2.2.2.2.2.2.2.2.2))), (q0_tape, .inr (6, [.ref q0_tape_bytes, .int f0_tape_length, .int u_1.2.1, .int u_1.2.2.1, .int (bI u_1.2.2.2.1), .long u_1.2.2.2.2.1, .long u_1.2.2.2.2.2.1, .int (bI u_1.2.2.2.2.2.2.1)])), (q0_tape_bytes, .inl (cI, n0_tape_bytes, .inl h0_tape_bytes))] := hD
    refine lv_aload_n hx hb dX7_read_56 rfl (lv_at hl 3 rfl) ?_
    refine va_get (D := D) (ci := 7) (v := .ref q0_tape) (C := RX7) (T := TX7) (N := 14) hx hb hts in_X7_read_X7 hown hK hP 0 rfl rfl 3 (by decide) lk_3 (fun _ h9 => h9) rfl dX7_read_57 ?_
    refine lv_iconst (v := (0 : Int32)) hx hb dX7_read_60 (by decide) ?_
    refine va_put (D := D) (ci := 6) (v := .int (0 : Int32)) (ty := .int) (C := RX6) (T := TX6) (N := 8) hx hb hts in_X7_read_X6 tyX6 tyX6_ok nmX6 hown hK hP hD hS 5 rfl rfl 1 (by decide) lk_7 (fun _ h9 => h9) rfl (by decide +kernel) rfl rfl (Nat.le_of_ble_eq_true rfl) dX7_read_61 (fun H locs hP hD hS => ?_)
    have hP : va_P D vwCl [(q0, .inr (7, [.int f0_n, v0_variables, .ref q0_store, .ref q0_tape, v0_base, v0_blamed, v0_gateList, v0_taking, v0_search, .int (bI f0_rowsFresh), .int (bI f0_gatesFresh), .int u_1.2.1, v0_latestNodes, v0_latestModel])), (q0_store, .inr (4, [.ref q0_store_equations, .ref q0_store_yes, .ref q0_store_no, .int u_7.1, .int u_7.2, v0_store_equationsBefore, v0_store_clausesBefore, v0_store_levelCount])), (q0_store_equations, .inl (cL, n0_store_equations, .inr (.inl u_1.2.2.2.2.2.2.2.2.2.1))), (q0_store_yes, .inl (cL, n0_store_yes, .inr (.inl u_1.2.2.2.2.2.2.2.2.2.2.1))), (q0_store_no, .inl (cL, n0_store_no, .inr (.inl u_1.2.2.2.2.2.2.2.2.2.2.2))), (q0_tape, .inr (6, [.ref q0_tape_bytes, .int (0 : Int32), .int u_1.2.1, .int u_1.2.2.1, .int (bI u_1.2.2.2.1), .long u_1.2.2.2.2.1, .long u_1.2.2.2.2.2.1, .int (bI u_1.2.2.2.2.2.2.1)])), (q0_tape_bytes, .inl (cI, n0_tape_bytes, .inl h0_tape_bytes))] H := hP
    have hD : va_D A [(q0, .inr (7, [.int f0_n, v0_variables, .ref q0_store, .ref q0_tape, v0_base, v0_blamed, v0_gateList, v0_taking, v0_search, .int (bI f0_rowsFresh), .int (bI f0_gatesFresh), .int u_1.2.1, v0_latestNodes, v0_latestModel])), (q0_store, .inr (4, [.ref q0_store_equations, .ref q0_store_yes, .ref q0_store_no, .int u_7.1, .int u_7.2, v0_store_equationsBefore, v0_store_clausesBefore, v0_store_levelCount])), (q0_store_equations, .inl (cL, n0_store_equations, .inr (.inl u_1.2.2.2.2.2.2.2.2.2.1))), (q0_store_yes, .inl (cL, n0_store_yes, .inr (.inl u_1.2.2.2.2.2.2.2.2.2.2.1))), (q0_store_no, .inl (cL, n0_store_no, .inr (.inl u_1.2.2.2.2.2.2.2.2.2.2.2))), (q0_tape, .inr (6, [.ref q0_tape_bytes, .int (0 : Int32), .int u_1.2.1, .int u_1.2.2.1, .int (bI u_1.2.2.2.1), .long u_1.2.2.2.2.1, .long u_1.2.2.2.2.2.1, .int (bI u_1.2.2.2.2.2.2.1)])), (q0_tape_bytes, .inl (cI, n0_tape_bytes, .inl h0_tape_bytes))] := hD
    refine lv_aload_n hx hb dX7_read_64 rfl (lv_at hl 3 rfl) ?_
    obtain ⟨u_9, hu_10, h⟩ := co_b h
    refine kx_v (ws' := fun _ => [(q0, .inr (7, [.int f0_n, v0_variables, .ref q0_store, .ref q0_tape, v0_base, v0_blamed, v0_gateList, v0_taking, v0_search, .int (bI u_9.1), .int (bI u_9.2), .int u_1.2.1, v0_latestNodes, v0_latestModel])), (q0_store, .inr (4, [.ref q0_store_equations, .ref q0_store_yes, .ref q0_store_no, .int u_7.1, .int u_7.2, v0_store_equationsBefore, v0_store_clausesBefore, v0_store_levelCount])), (q0_store_equations, .inl (cL, n0_store_equations, .inr (.inl u_1.2.2.2.2.2.2.2.2.2.1))), (q0_store_yes, .inl (cL, n0_store_yes, .inr (.inl u_1.2.2.2.2.2.2.2.2.2.2.1))), (q0_store_no, .inl (cL, n0_store_no, .inr (.inl u_1.2.2.2.2.2.2.2.2.2.2.2))), (q0_tape, .inr (6, [.ref q0_tape_bytes, .int (0 : Int32), .int u_1.2.1, .int u_1.2.2.1, .int (bI u_1.2.2.2.1), .long u_1.2.2.2.2.1, .long u_1.2.2.2.2.2.1, .int (bI u_1.2.2.2.2.2.2.1)])), (q0_tape_bytes, .inl (cI, n0_tape_bytes, .inl h0_tape_bytes))]) hP hD hS hA [0] [1, 2, 3, 4, 5, 6] [6, 0, 1, 2, 3, 4, 5] rfl rfl (by decide) (by decide) (fun _ => rfl) (by decide) (va_runV (As := []) (rest := []) ⟨hx, hb, hml, hown, hts⟩ (cm_X7_forget l D cI cL (q0 := q0) (f0_rowsFresh := f0_rowsFresh) (f0_gatesFresh := f0_gatesFresh) (v0_n := .int f0_n) (v0_variables := v0_variables) (v0_store := .ref q0_store) (v0_tape := .ref q0_tape) (v0_base := v0_base) (v0_blamed := v0_blamed) (v0_gateList := v0_gateList) (v0_taking := v0_taking) (v0_search := v0_search) (v0_latestFault := .int u_1.2.1) (v0_latestNodes := v0_latestNodes) (v0_latestModel := v0_latestModel) (r0 := u_9) (hr0 := hu_10) (sz := H.size)) (cwV 0 hts gX7_read_X7_forget rfl rfl rfl (by decide +kernel) ⟨Nat.le_of_ble_eq_true rfl, Nat.le_of_ble_eq_true rfl⟩) (kx_preV hEV hP hD [0] rfl (by decide) (k0 := 0) (ci := 7) rfl rfl rfl) rfl rfl hl.1 rfl (lv_room (Nat.le_of_ble_eq_true rfl)) dX7_read_65 ⟨Nat.le_of_ble_eq_true rfl, Nat.le_of_ble_eq_true rfl⟩) (fun _ H locs _ hP hD hS => ?_)
    refine lv_iload_n hx hb dX7_read_68 rfl (lv_at hl 0 rfl) ?_
    have h := Option.some.inj h
    subst h
    subst hQ
    exact W.iret (v := u_1.1) hx hb hr (fun t ht hW => ⟨⟨u_1.1, (), rfl, ⟨rfl, trivial⟩, by rw [ht]; exact hP, hD⟩, hS.F ht⟩) hS.2.2 dX7_read_69
theorem in_X7_fault_X7 : ∀ w ∈ wsX70, w ∈ wsX7_fault := by decide +kernel
theorem lk_0_X7_fault : Cond.fieldLink RX7 144 "ParityClauses" "latestFault" "I" ∈ wsX7_fault := by decide +kernel
abbrev rm_X7_fault : Room := { frames := 0, cells := 0, slots := 0, locals := 0 }
set_option maxHeartbeats 4000000 in
set_option maxRecDepth 100000 in
theorem cm_X7_fault (l : Launch) (D : va_G) (cI cL : ClassId) (q0 : Nat) (f0_latestFault : Int32) (v0_n v0_variables v0_store v0_tape v0_base v0_blamed v0_gateList v0_taking v0_search v0_rowsFresh v0_gatesFresh v0_latestNodes v0_latestModel : Value) (r0 : Int32) (hr0 : D_X7_fault f0_latestFault = some r0) (sz : Nat) : Met l yX7_fault wsX7_fault rm_X7_fault (PcW D cI cL [.ref q0] [(q0, .inr (7, [v0_n, v0_variables, v0_store, v0_tape, v0_base, v0_blamed, v0_gateList, v0_taking, v0_search, v0_rowsFresh, v0_gatesFresh, .int f0_latestFault, v0_latestNodes, v0_latestModel]))] sz) (QiW D [(q0, .inr (7, [v0_n, v0_variables, v0_store, v0_tape, v0_base, v0_blamed, v0_gateList, v0_taking, v0_search, v0_rowsFresh, v0_gatesFresh, .int f0_latestFault, v0_latestNodes, v0_latestModel]))] r0 (fun _ : Unit => [(q0, .inr (7, [v0_n, v0_variables, v0_store, v0_tape, v0_base, v0_blamed, v0_gateList, v0_taking, v0_search, v0_rowsFresh, v0_gatesFresh, .int f0_latestFault, v0_latestNodes, v0_latestModel]))]) tU sz) 0 0 (va_A [(q0, .inr (7, [v0_n, v0_variables, v0_store, v0_tape, v0_base, v0_blamed, v0_gateList, v0_taking, v0_search, v0_rowsFresh, v0_gatesFresh, .int f0_latestFault, v0_latestNodes, v0_latestModel]))] sz) := by
  refine Met.ofW (cc := cX7_fault) (maxL := 1) (ret := (some .int)) (by decide) rfl ?_
  intro p e s m args below meth c s₁ B hml hv
  obtain ⟨hargs, hsz, hP, hEV, hD0⟩ := hv
  have hx := B.exec
  have hb := B.bytes
  have hr := B.returns
  have hts := atoms_spec (ws := wsX7_fault) B.pre
  have hown : s.vm.findClass RX7 = some m.cls := findClass_of_methodNamed B.named
  have hlocks := B.notSynchronized
  have hK := hEV.K
  have lk_0 := hts _ lk_0_X7_fault
  subst hsz
  unfold QiW PoW
  have hD := hD0.self (sz := s.heap.size)
  generalize hAe : va_A [(q0, .inr (7, [v0_n, v0_variables, v0_store, v0_tape, v0_base, v0_blamed, v0_gateList, v0_taking, v0_search, v0_rowsFresh, v0_gatesFresh, .int f0_latestFault, v0_latestNodes, v0_latestModel]))] s.heap.size = A at hD ⊢
  have hA : ∀ q : Nat, s.heap.size ≤ q → A q := fun q h => by rw [← hAe]; exact Or.inr h
  have hent : entryFrame m args 1 = entryFrame m ([.ref q0] : List Value).toArray 1 := by rw [hargs]
  rw [hent]
  refine kx_Q (fun Q hQ => ?_)
  refine kx_H (fun H hH => ?_)
  have hP : va_P D vwCl [(q0, .inr (7, [v0_n, v0_variables, v0_store, v0_tape, v0_base, v0_blamed, v0_gateList, v0_taking, v0_search, v0_rowsFresh, v0_gatesFresh, .int f0_latestFault, v0_latestNodes, v0_latestModel]))] H := by rw [hH]; exact hP
  have hS : va_S A s.heap H [] := by rw [hH]; exact va_S.rf
  have hl := lv_entry ([.ref q0]) (n := 1) (Nat.le_of_ble_eq_true rfl)
  rw [lg_entry_eq]
  generalize (lg_sl ([.ref q0]) ++ List.replicate (1 - (lg_sl ([.ref q0])).length) Slot.unset).toArray = ls at hl ⊢
  have hl : lv_has ls 1 [(0, .ref q0)] := hl
  have h := hr0
  unfold D_X7_fault at h
  refine lv_aload_n hx hb dX7_fault_0 rfl (lv_at hl 0 rfl) ?_
  refine va_get (D := D) (ci := 7) (v := .int f0_latestFault) (C := RX7) (T := TX7) (N := 14) hx hb hts in_X7_fault_X7 hown hK hP 0 rfl rfl 11 (by decide) lk_0 (fun _ h9 => h9) rfl dX7_fault_1 ?_
  have h := Option.some.inj h
  subst h
  subst hQ
  exact W.iret (v := f0_latestFault) hx hb hr (fun t ht hW => ⟨⟨f0_latestFault, (), rfl, ⟨rfl, trivial⟩, by rw [ht]; exact hP, hD⟩, hS.F ht⟩) hS.2.2 dX7_fault_4
theorem in_X7_freshenRows_X7 : ∀ w ∈ wsX70, w ∈ wsX7_freshenRows := by decide +kernel
theorem lk_0_X7_freshenRows : Cond.fieldLink RX7 283 "ParityClauses" "rowsFresh" "Z" ∈ wsX7_freshenRows := by decide +kernel
theorem lk_1_X7_freshenRows : Cond.fieldLink RX7 45 "ParityClauses" "base" "LParityClauses$Rows;" ∈ wsX7_freshenRows := by decide +kernel
theorem lk_2_X7_freshenRows : Cond.fieldLink RX7 29 "ParityClauses" "store" "LParityClauses$Store;" ∈ wsX7_freshenRows := by decide +kernel
abbrev rm_X7_freshenRows : Room := { frames := 3, cells := 0, slots := 0, locals := 69 }
set_option maxHeartbeats 4000000 in
set_option maxRecDepth 100000 in
theorem cm_X7_freshenRows (l : Launch) (D : va_G) (cI cL : ClassId) (q0 q0_store q0_store_equations q0_base q0_base_byHead : Nat) (n0_store_equations n0_base_byHead : Nat) (f0_rowsFresh : Bool) (f0_store_equationCount : Int32) (h0_store_equations : Nat → Int64) (f0_base_n : Int32) (f0_base_impossible : Bool) (h0_base_byHead : Nat → Int64) (v0_n v0_variables v0_tape v0_blamed v0_gateList v0_taking v0_search v0_gatesFresh v0_latestFault v0_latestNodes v0_latestModel v0_store_yes v0_store_no v0_store_clauseCount v0_store_equationsBefore v0_store_clausesBefore v0_store_levelCount : Value) (r0 : Bool × Bool × (Nat → Int64)) (hr0 : D_X7_freshenRows f0_rowsFresh f0_store_equationCount n0_store_equations h0_store_equations f0_base_n f0_base_impossible n0_base_byHead h0_base_byHead = some r0) (sz : Nat) : Met l yX7_freshenRows wsX7_freshenRows rm_X7_freshenRows (PcW D cI cL [.ref q0] [(q0, .inr (7, [v0_n, v0_variables, .ref q0_store, v0_tape, .ref q0_base, v0_blamed, v0_gateList, v0_taking, v0_search, .int (bI f0_rowsFresh), v0_gatesFresh, v0_latestFault, v0_latestNodes, v0_latestModel])), (q0_store, .inr (4, [.ref q0_store_equations, v0_store_yes, v0_store_no, .int f0_store_equationCount, v0_store_clauseCount, v0_store_equationsBefore, v0_store_clausesBefore, v0_store_levelCount])), (q0_store_equations, .inl (cL, n0_store_equations, .inr (.inl h0_store_equations))), (q0_base, .inr (2, [.int f0_base_n, .ref q0_base_byHead, .int (bI f0_base_impossible)])), (q0_base_byHead, .inl (cL, n0_base_byHead, .inr (.inl h0_base_byHead)))] sz) (QvW D [(q0, .inr (7, [v0_n, v0_variables, .ref q0_store, v0_tape, .ref q0_base, v0_blamed, v0_gateList, v0_taking, v0_search, .int (bI f0_rowsFresh), v0_gatesFresh, v0_latestFault, v0_latestNodes, v0_latestModel])), (q0_store, .inr (4, [.ref q0_store_equations, v0_store_yes, v0_store_no, .int f0_store_equationCount, v0_store_clauseCount, v0_store_equationsBefore, v0_store_clausesBefore, v0_store_levelCount])), (q0_store_equations, .inl (cL, n0_store_equations, .inr (.inl h0_store_equations))), (q0_base, .inr (2, [.int f0_base_n, .ref q0_base_byHead, .int (bI f0_base_impossible)])), (q0_base_byHead, .inl (cL, n0_base_byHead, .inr (.inl h0_base_byHead)))] (fun _ : Unit => [(q0, .inr (7, [v0_n, v0_variables, .ref q0_store, v0_tape, .ref q0_base, v0_blamed, v0_gateList, v0_taking, v0_search, .int (bI r0.1), v0_gatesFresh, v0_latestFault, v0_latestNodes, v0_latestModel])), (q0_store, .inr (4, [.ref q0_store_equations, v0_store_yes, v0_store_no, .int f0_store_equationCount, v0_store_clauseCount, v0_store_equationsBefore, v0_store_clausesBefore, v0_store_levelCount])), (q0_store_equations, .inl (cL, n0_store_equations, .inr (.inl h0_store_equations))), (q0_base, .inr (2, [.int f0_base_n, .ref q0_base_byHead, .int (bI r0.2.1)])), (q0_base_byHead, .inl (cL, n0_base_byHead, .inr (.inl r0.2.2)))]) tU sz) 0 0 (va_A [(q0, .inr (7, [v0_n, v0_variables, .ref q0_store, v0_tape, .ref q0_base, v0_blamed, v0_gateList, v0_taking, v0_search, .int (bI f0_rowsFresh), v0_gatesFresh, v0_latestFault, v0_latestNodes, v0_latestModel])), (q0_store, .inr (4, [.ref q0_store_equations, v0_store_yes, v0_store_no, .int f0_store_equationCount, v0_store_clauseCount, v0_store_equationsBefore, v0_store_clausesBefore, v0_store_levelCount])), (q0_store_equations, .inl (cL, n0_store_equations, .inr (.inl h0_store_equations))), (q0_base, .inr (2, [.int f0_base_n, .ref q0_base_byHead, .int (bI f0_base_impossible)])), (q0_base_byHead, .inl (cL, n0_base_byHead, .inr (.inl h0_base_byHead)))] sz) := by
  refine Met.ofW (cc := cX7_freshenRows) (maxL := 1) (ret := none) (by decide) rfl ?_
  intro p e s m args below meth c s₁ B hml hv
  obtain ⟨hargs, hsz, hP, hEV, hD0⟩ := hv
  have hx := B.exec
  have hb := B.bytes
  have hr := B.returns
  have hts := atoms_spec (ws := wsX7_freshenRows) B.pre
  have hown : s.vm.findClass RX7 = some m.cls := findClass_of_methodNamed B.named
  have hlocks := B.notSynchronized
  have hK := hEV.K
  have lk_0 := hts _ lk_0_X7_freshenRows
  have lk_1 := hts _ lk_1_X7_freshenRows
  have lk_2 := hts _ lk_2_X7_freshenRows
  subst hsz
  unfold QvW PoW
  have hD := hD0.self (sz := s.heap.size)
  generalize hAe : va_A [(q0, .inr (7, [v0_n, v0_variables, .ref q0_store, v0_tape, .ref q0_base, v0_blamed, v0_gateList, v0_taking, v0_search, .int (bI f0_rowsFresh), v0_gatesFresh, v0_latestFault, v0_latestNodes, v0_latestModel])), (q0_store, .inr (4, [.ref q0_store_equations, v0_store_yes, v0_store_no, .int f0_store_equationCount, v0_store_clauseCount, v0_store_equationsBefore, v0_store_clausesBefore, v0_store_levelCount])), (q0_store_equations, .inl (cL, n0_store_equations, .inr (.inl h0_store_equations))), (q0_base, .inr (2, [.int f0_base_n, .ref q0_base_byHead, .int (bI f0_base_impossible)])), (q0_base_byHead, .inl (cL, n0_base_byHead, .inr (.inl h0_base_byHead)))] s.heap.size = A at hD ⊢
  have hA : ∀ q : Nat, s.heap.size ≤ q → A q := fun q h => by rw [← hAe]; exact Or.inr h
  have hent : entryFrame m args 1 = entryFrame m ([.ref q0] : List Value).toArray 1 := by rw [hargs]
  rw [hent]
  refine kx_Q (fun Q hQ => ?_)
  refine kx_H (fun H hH => ?_)
  have hP : va_P D vwCl [(q0, .inr (7, [v0_n, v0_variables, .ref q0_store, v0_tape, .ref q0_base, v0_blamed, v0_gateList, v0_taking, v0_search, .int (bI f0_rowsFresh), v0_gatesFresh, v0_latestFault, v0_latestNodes, v0_latestModel])), (q0_store, .inr (4, [.ref q0_store_equations, v0_store_yes, v0_store_no, .int f0_store_equationCount, v0_store_clauseCount, v0_store_equationsBefore, v0_store_clausesBefore, v0_store_levelCount])), (q0_store_equations, .inl (cL, n0_store_equations, .inr (.inl h0_store_equations))), (q0_base, .inr (2, [.int f0_base_n, .ref q0_base_byHead, .int (bI f0_base_impossible)])), (q0_base_byHead, .inl (cL, n0_base_byHead, .inr (.inl h0_base_byHead)))] H := by rw [hH]; exact hP
  have hS : va_S A s.heap H [] := by rw [hH]; exact va_S.rf
  have hl := lv_entry ([.ref q0]) (n := 1) (Nat.le_of_ble_eq_true rfl)
  rw [lg_entry_eq]
  generalize (lg_sl ([.ref q0]) ++ List.replicate (1 - (lg_sl ([.ref q0])).length) Slot.unset).toArray = ls at hl ⊢
  have hl : lv_has ls 1 [(0, .ref q0)] := hl
  have h := hr0
  unfold D_X7_freshenRows at h
  refine lv_aload_n hx hb dX7_freshenRows_0 rfl (lv_at hl 0 rfl) ?_
  refine va_get (D := D) (ci := 7) (v := .int (bI f0_rowsFresh)) (C := RX7) (T := TX7) (N := 14) hx hb hts in_X7_freshenRows_X7 hown hK hP 0 rfl rfl 9 (by decide) lk_0 (fun _ h9 => h9) rfl dX7_freshenRows_1 ?_
  refine lv_if_ne (tgt := 23) hx hb dX7_freshenRows_4 (by decide) (fun c_1 => ?_) (fun c_1 => ?_)
  · have k_2 : f0_rowsFresh = true := (kx_nz c_1)
    have h := co_t k_2 h
    have h := Option.some.inj h
    subst h
    subst hQ
    exact W.vret hx hb hr (fun t ht hW => ⟨⟨(), rfl, trivial, by rw [ht]; exact hP, hD⟩, hS.F ht⟩) hS.2.2 dX7_freshenRows_23
  · have k_2 : ¬ (f0_rowsFresh = true) := (kx_z c_1)
    have h := co_f k_2 h
    refine lv_aload_n hx hb dX7_freshenRows_7 rfl (lv_at hl 0 rfl) ?_
    refine va_get (D := D) (ci := 7) (v := .ref q0_base) (C := RX7) (T := TX7) (N := 14) hx hb hts in_X7_freshenRows_X7 hown hK hP 0 rfl rfl 4 (by decide) lk_1 (fun _ h9 => h9) rfl dX7_freshenRows_8 ?_
    refine lv_aload_n hx hb dX7_freshenRows_11 rfl (lv_at hl 0 rfl) ?_
    refine va_get (D := D) (ci := 7) (v := .ref q0_store) (C := RX7) (T := TX7) (N := 14) hx hb hts in_X7_freshenRows_X7 hown hK hP 0 rfl rfl 2 (by decide) lk_2 (fun _ h9 => h9) rfl dX7_freshenRows_12 ?_
    obtain ⟨u_3, hu_4, h⟩ := co_b h
    refine kx_v (ws' := fun _ => [(q0, .inr (7, [v0_n, v0_variables, .ref q0_store, v0_tape, .ref q0_base, v0_blamed, v0_gateList, v0_taking, v0_search, .int (bI f0_rowsFresh), v0_gatesFresh, v0_latestFault, v0_latestNodes, v0_latestModel])), (q0_store, .inr (4, [.ref q0_store_equations, v0_store_yes, v0_store_no, .int f0_store_equationCount, v0_store_clauseCount, v0_store_equationsBefore, v0_store_clausesBefore, v0_store_levelCount])), (q0_store_equations, .inl (cL, n0_store_equations, .inr (.inl h0_store_equations))), (q0_base, .inr (2, [.int f0_base_n, .ref q0_base_byHead, .int (bI u_3.1)])), (q0_base_byHead, .inl (cL, n0_base_byHead, .inr (.inl u_3.2)))]) hP hD hS hA [3, 4, 1, 2] [0] [0, 3, 4, 1, 2] rfl rfl (by decide) (by decide) (fun _ => rfl) (by decide) (va_runV (As := [.ref q0_store]) (rest := []) ⟨hx, hb, hml, hown, hts⟩ (cm_X2_build l D cI cL (q0 := q0_base) (q0_byHead := q0_base_byHead) (q1 := q0_store) (q1_equations := q0_store_equations) (n0_byHead := n0_base_byHead) (n1_equations := n0_store_equations) (f0_n := f0_base_n) (f0_impossible := f0_base_impossible) (h0_byHead := h0_base_byHead) (f1_equationCount := f0_store_equationCount) (h1_equations := h0_store_equations) (v1_yes := v0_store_yes) (v1_no := v0_store_no) (v1_clauseCount := v0_store_clauseCount) (v1_equationsBefore := v0_store_equationsBefore) (v1_clausesBefore := v0_store_clausesBefore) (v1_levelCount := v0_store_levelCount) (r0 := u_3) (hr0 := hu_4) (sz := H.size)) (cwV 1 hts gX7_freshenRows_X2_build rfl rfl rfl (by decide +kernel) ⟨Nat.le_of_ble_eq_true rfl, Nat.le_of_ble_eq_true rfl⟩) (kx_preV hEV hP hD [3, 4, 1, 2] rfl (by decide) (k0 := 3) (ci := 2) rfl rfl rfl) rfl rfl hl.1 rfl (lv_room (Nat.le_of_ble_eq_true rfl)) dX7_freshenRows_15 ⟨Nat.le_of_ble_eq_true rfl, Nat.le_of_ble_eq_true rfl⟩) (fun _ H locs _ hP hD hS => ?_)
    refine lv_aload_n hx hb dX7_freshenRows_18 rfl (lv_at hl 0 rfl) ?_
    refine lv_iconst (v := (1 : Int32)) hx hb dX7_freshenRows_19 (by decide) ?_
    refine va_put (D := D) (ci := 7) (v := .int (bI true)) (ty := .boolean) (C := RX7) (T := TX7) (N := 14) hx hb hts in_X7_freshenRows_X7 tyX7 tyX7_ok nmX7 hown hK hP hD hS 0 rfl rfl 9 (by decide) lk_0 (fun _ h9 => h9) rfl (by decide +kernel) (bI_n true) (bI_fit true) (Nat.le_of_ble_eq_true rfl) dX7_freshenRows_20 (fun H locs hP hD hS => ?_)
    have hP : va_P D vwCl [(q0, .inr (7, [v0_n, v0_variables, .ref q0_store, v0_tape, .ref q0_base, v0_blamed, v0_gateList, v0_taking, v0_search, .int (bI true), v0_gatesFresh, v0_latestFault, v0_latestNodes, v0_latestModel])), (q0_store, .inr (4, [.ref q0_store_equations, v0_store_yes, v0_store_no, .int f0_store_equationCount, v0_store_clauseCount, v0_store_equationsBefore, v0_store_clausesBefore, v0_store_levelCount])), (q0_store_equations, .inl (cL, n0_store_equations, .inr (.inl h0_store_equations))), (q0_base, .inr (2, [.int f0_base_n, .ref q0_base_byHead, .int (bI u_3.1)])), (q0_base_byHead, .inl (cL, n0_base_byHead, .inr (.inl u_3.2)))] H := hP
    have hD : va_D A [(q0, .inr (7, [v0_n, v0_variables, .ref q0_store, v0_tape, .ref q0_base, v0_blamed, v0_gateList, v0_taking, v0_search, .int (bI true), v0_gatesFresh, v0_latestFault, v0_latestNodes, v0_latestModel])), (q0_store, .inr (4, [.ref q0_store_equations, v0_store_yes, v0_store_no, .int f0_store_equationCount, v0_store_clauseCount, v0_store_equationsBefore, v0_store_clausesBefore, v0_store_levelCount])), (q0_store_equations, .inl (cL, n0_store_equations, .inr (.inl h0_store_equations))), (q0_base, .inr (2, [.int f0_base_n, .ref q0_base_byHead, .int (bI u_3.1)])), (q0_base_byHead, .inl (cL, n0_base_byHead, .inr (.inl u_3.2)))] := hD
    have h := Option.some.inj h
    subst h
    subst hQ
    exact W.vret hx hb hr (fun t ht hW => ⟨⟨(), rfl, trivial, by rw [ht]; exact hP, hD⟩, hS.F ht⟩) hS.2.2 dX7_freshenRows_23
theorem in_X7_rows_X2 : ∀ w ∈ wsX20, w ∈ wsX7_rows := by decide +kernel
theorem in_X7_rows_X7 : ∀ w ∈ wsX70, w ∈ wsX7_rows := by decide +kernel
theorem lk_0_X7_rows : Cond.fieldLink RX7 45 "ParityClauses" "base" "LParityClauses$Rows;" ∈ wsX7_rows := by decide +kernel
theorem lk_1_X7_rows : Cond.fieldLink RX7 182 "ParityClauses$Rows" "impossible" "Z" ∈ wsX7_rows := by decide +kernel
abbrev rm_X7_rows : Room := { frames := 4, cells := 0, slots := 0, locals := 89 }
set_option maxHeartbeats 4000000 in
set_option maxRecDepth 100000 in
theorem cm_X7_rows (l : Launch) (D : va_G) (cI cL : ClassId) (q0 q0_store q0_store_equations q0_base q0_base_byHead : Nat) (n0_store_equations n0_base_byHead : Nat) (f0_rowsFresh : Bool) (f0_store_equationCount : Int32) (h0_store_equations : Nat → Int64) (f0_base_n : Int32) (f0_base_impossible : Bool) (h0_base_byHead : Nat → Int64) (v0_n v0_variables v0_tape v0_blamed v0_gateList v0_taking v0_search v0_gatesFresh v0_latestFault v0_latestNodes v0_latestModel v0_store_yes v0_store_no v0_store_clauseCount v0_store_equationsBefore v0_store_clausesBefore v0_store_levelCount : Value) (r0 : Int32 × Bool × Bool × (Nat → Int64)) (hr0 : D_X7_rows f0_rowsFresh f0_store_equationCount n0_store_equations h0_store_equations f0_base_n f0_base_impossible n0_base_byHead h0_base_byHead = some r0) (sz : Nat) : Met l yX7_rows wsX7_rows rm_X7_rows (PcW D cI cL [.ref q0] [(q0, .inr (7, [v0_n, v0_variables, .ref q0_store, v0_tape, .ref q0_base, v0_blamed, v0_gateList, v0_taking, v0_search, .int (bI f0_rowsFresh), v0_gatesFresh, v0_latestFault, v0_latestNodes, v0_latestModel])), (q0_store, .inr (4, [.ref q0_store_equations, v0_store_yes, v0_store_no, .int f0_store_equationCount, v0_store_clauseCount, v0_store_equationsBefore, v0_store_clausesBefore, v0_store_levelCount])), (q0_store_equations, .inl (cL, n0_store_equations, .inr (.inl h0_store_equations))), (q0_base, .inr (2, [.int f0_base_n, .ref q0_base_byHead, .int (bI f0_base_impossible)])), (q0_base_byHead, .inl (cL, n0_base_byHead, .inr (.inl h0_base_byHead)))] sz) (QiW D [(q0, .inr (7, [v0_n, v0_variables, .ref q0_store, v0_tape, .ref q0_base, v0_blamed, v0_gateList, v0_taking, v0_search, .int (bI f0_rowsFresh), v0_gatesFresh, v0_latestFault, v0_latestNodes, v0_latestModel])), (q0_store, .inr (4, [.ref q0_store_equations, v0_store_yes, v0_store_no, .int f0_store_equationCount, v0_store_clauseCount, v0_store_equationsBefore, v0_store_clausesBefore, v0_store_levelCount])), (q0_store_equations, .inl (cL, n0_store_equations, .inr (.inl h0_store_equations))), (q0_base, .inr (2, [.int f0_base_n, .ref q0_base_byHead, .int (bI f0_base_impossible)])), (q0_base_byHead, .inl (cL, n0_base_byHead, .inr (.inl h0_base_byHead)))] r0.1 (fun _ : Unit => [(q0, .inr (7, [v0_n, v0_variables, .ref q0_store, v0_tape, .ref q0_base, v0_blamed, v0_gateList, v0_taking, v0_search, .int (bI r0.2.1), v0_gatesFresh, v0_latestFault, v0_latestNodes, v0_latestModel])), (q0_store, .inr (4, [.ref q0_store_equations, v0_store_yes, v0_store_no, .int f0_store_equationCount, v0_store_clauseCount, v0_store_equationsBefore, v0_store_clausesBefore, v0_store_levelCount])), (q0_store_equations, .inl (cL, n0_store_equations, .inr (.inl h0_store_equations))), (q0_base, .inr (2, [.int f0_base_n, .ref q0_base_byHead, .int (bI r0.2.2.1)])), (q0_base_byHead, .inl (cL, n0_base_byHead, .inr (.inl r0.2.2.2)))]) tU sz) 0 0 (va_A [(q0, .inr (7, [v0_n, v0_variables, .ref q0_store, v0_tape, .ref q0_base, v0_blamed, v0_gateList, v0_taking, v0_search, .int (bI f0_rowsFresh), v0_gatesFresh, v0_latestFault, v0_latestNodes, v0_latestModel])), (q0_store, .inr (4, [.ref q0_store_equations, v0_store_yes, v0_store_no, .int f0_store_equationCount, v0_store_clauseCount, v0_store_equationsBefore, v0_store_clausesBefore, v0_store_levelCount])), (q0_store_equations, .inl (cL, n0_store_equations, .inr (.inl h0_store_equations))), (q0_base, .inr (2, [.int f0_base_n, .ref q0_base_byHead, .int (bI f0_base_impossible)])), (q0_base_byHead, .inl (cL, n0_base_byHead, .inr (.inl h0_base_byHead)))] sz) := by
  refine Met.ofW (cc := cX7_rows) (maxL := 1) (ret := (some .int)) (by decide) rfl ?_
  intro p e s m args below meth c s₁ B hml hv
  obtain ⟨hargs, hsz, hP, hEV, hD0⟩ := hv
  have hx := B.exec
  have hb := B.bytes
  have hr := B.returns
  have hts := atoms_spec (ws := wsX7_rows) B.pre
  have hown : s.vm.findClass RX7 = some m.cls := findClass_of_methodNamed B.named
  have hlocks := B.notSynchronized
  have hK := hEV.K
  have lk_0 := hts _ lk_0_X7_rows
  have lk_1 := hts _ lk_1_X7_rows
  subst hsz
  unfold QiW PoW
  have hD := hD0.self (sz := s.heap.size)
  generalize hAe : va_A [(q0, .inr (7, [v0_n, v0_variables, .ref q0_store, v0_tape, .ref q0_base, v0_blamed, v0_gateList, v0_taking, v0_search, .int (bI f0_rowsFresh), v0_gatesFresh, v0_latestFault, v0_latestNodes, v0_latestModel])), (q0_store, .inr (4, [.ref q0_store_equations, v0_store_yes, v0_store_no, .int f0_store_equationCount, v0_store_clauseCount, v0_store_equationsBefore, v0_store_clausesBefore, v0_store_levelCount])), (q0_store_equations, .inl (cL, n0_store_equations, .inr (.inl h0_store_equations))), (q0_base, .inr (2, [.int f0_base_n, .ref q0_base_byHead, .int (bI f0_base_impossible)])), (q0_base_byHead, .inl (cL, n0_base_byHead, .inr (.inl h0_base_byHead)))] s.heap.size = A at hD ⊢
  have hA : ∀ q : Nat, s.heap.size ≤ q → A q := fun q h => by rw [← hAe]; exact Or.inr h
  have hent : entryFrame m args 1 = entryFrame m ([.ref q0] : List Value).toArray 1 := by rw [hargs]
  rw [hent]
  refine kx_Q (fun Q hQ => ?_)
  refine kx_H (fun H hH => ?_)
  have hP : va_P D vwCl [(q0, .inr (7, [v0_n, v0_variables, .ref q0_store, v0_tape, .ref q0_base, v0_blamed, v0_gateList, v0_taking, v0_search, .int (bI f0_rowsFresh), v0_gatesFresh, v0_latestFault, v0_latestNodes, v0_latestModel])), (q0_store, .inr (4, [.ref q0_store_equations, v0_store_yes, v0_store_no, .int f0_store_equationCount, v0_store_clauseCount, v0_store_equationsBefore, v0_store_clausesBefore, v0_store_levelCount])), (q0_store_equations, .inl (cL, n0_store_equations, .inr (.inl h0_store_equations))), (q0_base, .inr (2, [.int f0_base_n, .ref q0_base_byHead, .int (bI f0_base_impossible)])), (q0_base_byHead, .inl (cL, n0_base_byHead, .inr (.inl h0_base_byHead)))] H := by rw [hH]; exact hP
  have hS : va_S A s.heap H [] := by rw [hH]; exact va_S.rf
  have hl := lv_entry ([.ref q0]) (n := 1) (Nat.le_of_ble_eq_true rfl)
  rw [lg_entry_eq]
  generalize (lg_sl ([.ref q0]) ++ List.replicate (1 - (lg_sl ([.ref q0])).length) Slot.unset).toArray = ls at hl ⊢
  have hl : lv_has ls 1 [(0, .ref q0)] := hl
  have h := hr0
  unfold D_X7_rows at h
  refine lv_aload_n hx hb dX7_rows_0 rfl (lv_at hl 0 rfl) ?_
  obtain ⟨u_1, hu_2, h⟩ := co_b h
  refine kx_v (ws' := fun _ => [(q0, .inr (7, [v0_n, v0_variables, .ref q0_store, v0_tape, .ref q0_base, v0_blamed, v0_gateList, v0_taking, v0_search, .int (bI u_1.1), v0_gatesFresh, v0_latestFault, v0_latestNodes, v0_latestModel])), (q0_store, .inr (4, [.ref q0_store_equations, v0_store_yes, v0_store_no, .int f0_store_equationCount, v0_store_clauseCount, v0_store_equationsBefore, v0_store_clausesBefore, v0_store_levelCount])), (q0_store_equations, .inl (cL, n0_store_equations, .inr (.inl h0_store_equations))), (q0_base, .inr (2, [.int f0_base_n, .ref q0_base_byHead, .int (bI u_1.2.1)])), (q0_base_byHead, .inl (cL, n0_base_byHead, .inr (.inl u_1.2.2)))]) hP hD hS hA [0, 1, 2, 3, 4] [] [0, 1, 2, 3, 4] rfl rfl (by decide) (by decide) (fun _ => rfl) (by decide) (va_runV (As := []) (rest := []) ⟨hx, hb, hml, hown, hts⟩ (cm_X7_freshenRows l D cI cL (q0 := q0) (q0_store := q0_store) (q0_store_equations := q0_store_equations) (q0_base := q0_base) (q0_base_byHead := q0_base_byHead) (n0_store_equations := n0_store_equations) (n0_base_byHead := n0_base_byHead) (f0_rowsFresh := f0_rowsFresh) (f0_store_equationCount := f0_store_equationCount) (h0_store_equations := h0_store_equations) (f0_base_n := f0_base_n) (f0_base_impossible := f0_base_impossible) (h0_base_byHead := h0_base_byHead) (v0_n := v0_n) (v0_variables := v0_variables) (v0_tape := v0_tape) (v0_blamed := v0_blamed) (v0_gateList := v0_gateList) (v0_taking := v0_taking) (v0_search := v0_search) (v0_gatesFresh := v0_gatesFresh) (v0_latestFault := v0_latestFault) (v0_latestNodes := v0_latestNodes) (v0_latestModel := v0_latestModel) (v0_store_yes := v0_store_yes) (v0_store_no := v0_store_no) (v0_store_clauseCount := v0_store_clauseCount) (v0_store_equationsBefore := v0_store_equationsBefore) (v0_store_clausesBefore := v0_store_clausesBefore) (v0_store_levelCount := v0_store_levelCount) (r0 := u_1) (hr0 := hu_2) (sz := H.size)) (cwV 0 hts gX7_rows_X7_freshenRows rfl rfl rfl (by decide +kernel) ⟨Nat.le_of_ble_eq_true rfl, Nat.le_of_ble_eq_true rfl⟩) (kx_preV hEV hP hD [0, 1, 2, 3, 4] rfl (by decide) (k0 := 0) (ci := 7) rfl rfl rfl) rfl rfl hl.1 rfl (lv_room (Nat.le_of_ble_eq_true rfl)) dX7_rows_1 ⟨Nat.le_of_ble_eq_true rfl, Nat.le_of_ble_eq_true rfl⟩) (fun _ H locs _ hP hD hS => ?_)
  refine lv_aload_n hx hb dX7_rows_4 rfl (lv_at hl 0 rfl) ?_
  refine va_get (D := D) (ci := 7) (v := .ref q0_base) (C := RX7) (T := TX7) (N := 14) hx hb hts in_X7_rows_X7 hown hK hP 0 rfl rfl 4 (by decide) lk_0 (fun _ h9 => h9) rfl dX7_rows_5 ?_
  refine va_get (D := D) (ci := 2) (v := .int (bI u_1.2.1)) (C := RX2) (T := TX2) (N := 3) hx hb hts in_X7_rows_X2 hown hK hP 3 rfl rfl 2 (by decide) lk_1 (fun _ h9 => h9) rfl dX7_rows_8 ?_
  refine lv_if_eq (tgt := 18) hx hb dX7_rows_11 (by decide) (fun c_3 => ?_) (fun c_3 => ?_)
  · have k_4 : ¬ (u_1.2.1 = true) := (kx_z c_3)
    have h := co_f k_4 h
    refine lv_aload_n hx hb dX7_rows_18 rfl (lv_at hl 0 rfl) ?_
    refine va_get (D := D) (ci := 7) (v := .ref q0_base) (C := RX7) (T := TX7) (N := 14) hx hb hts in_X7_rows_X7 hown hK hP 0 rfl rfl 4 (by decide) lk_0 (fun _ h9 => h9) rfl dX7_rows_19 ?_
    obtain ⟨u_5, hu_6, h⟩ := co_b h
    refine kx_i (ws' := fun _ => [(q0, .inr (7, [v0_n, v0_variables, .ref q0_store, v0_tape, .ref q0_base, v0_blamed, v0_gateList, v0_taking, v0_search, .int (bI u_1.1), v0_gatesFresh, v0_latestFault, v0_latestNodes, v0_latestModel])), (q0_store, .inr (4, [.ref q0_store_equations, v0_store_yes, v0_store_no, .int f0_store_equationCount, v0_store_clauseCount, v0_store_equationsBefore, v0_store_clausesBefore, v0_store_levelCount])), (q0_store_equations, .inl (cL, n0_store_equations, .inr (.inl h0_store_equations))), (q0_base, .inr (2, [.int f0_base_n, .ref q0_base_byHead, .int (bI u_1.2.1)])), (q0_base_byHead, .inl (cL, n0_base_byHead, .inr (.inl u_1.2.2)))]) hP hD hS hA [3, 4] [0, 1, 2] [0, 1, 2, 3, 4] rfl rfl (by decide) (by decide) (fun _ => rfl) (by decide) (va_runV (As := []) (rest := []) ⟨hx, hb, hml, hown, hts⟩ (cm_X2_size l D cI cL (q0 := q0_base) (q0_byHead := q0_base_byHead) (n0_byHead := n0_base_byHead) (f0_n := f0_base_n) (h0_byHead := u_1.2.2) (v0_impossible := .int (bI u_1.2.1)) (r0 := u_5) (hr0 := hu_6) (sz := H.size)) (cwV 0 hts gX7_rows_X2_size rfl rfl rfl (by decide +kernel) ⟨Nat.le_of_ble_eq_true rfl, Nat.le_of_ble_eq_true rfl⟩) (kx_preV hEV hP hD [3, 4] rfl (by decide) (k0 := 3) (ci := 2) rfl rfl rfl) rfl rfl hl.1 rfl (lv_room (Nat.le_of_ble_eq_true rfl)) dX7_rows_22 ⟨Nat.le_of_ble_eq_true rfl, Nat.le_of_ble_eq_true rfl⟩) (fun _ H locs _ hP hD hS => ?_)
    have h := Option.some.inj h
    subst h
    subst hQ
    exact W.iret (v := u_5) hx hb hr (fun t ht hW => ⟨⟨u_5, (), rfl, ⟨rfl, trivial⟩, by rw [ht]; exact hP, hD⟩, hS.F ht⟩) hS.2.2 dX7_rows_25
  · have k_4 : u_1.2.1 = true := (kx_nz c_3)
    have h := co_t k_4 h
    refine lv_iconst (v := (-1 : Int32)) hx hb dX7_rows_14 (by decide) ?_
    refine lv_goto (tgt := 25) hx hb dX7_rows_15 (by decide) ?_
    have h := Option.some.inj h
    subst h
    subst hQ
    exact W.iret (v := (-1 : Int32)) hx hb hr (fun t ht hW => ⟨⟨(-1 : Int32), (), rfl, ⟨rfl, trivial⟩, by rw [ht]; exact hP, hD⟩, hS.F ht⟩) hS.2.2 dX7_rows_25
