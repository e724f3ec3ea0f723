theorem in_X6_readLiteral_X6 : ∀ w ∈ wsX60, w ∈ wsX6_readLiteral := by decide +kernel
theorem lk_0_X6_readLiteral : Cond.fieldLink RX6 22 "ParityClauses$Tape" "place" "I" ∈ wsX6_readLiteral := by decide +kernel
abbrev rm_X6_readLiteral : Room := { frames := 2, cells := 0, slots := 0, locals := 46 }
set_option maxHeartbeats 4000000 in
set_option maxRecDepth 100000 in
theorem cm_X6_readLiteral (l : Launch) (D : va_G) (cI cL : ClassId) (q0 q0_bytes : Nat) (n0_bytes : Nat) (f0_length : Int32) (f0_fault : Int32) (f0_place : Int32) (f0_isEquation : Bool) (f0_first : Int64) (f0_second : Int64) (f0_rightIsOne : Bool) (h0_bytes : Nat → Int32) (x1 : Int32) (r0 : Bool × Int32 × Int32 × Int64 × Int64 × Bool) (hr0 : D_X6_readLiteral f0_length f0_fault f0_place f0_isEquation f0_first f0_second f0_rightIsOne n0_bytes h0_bytes x1 = some r0) (sz : Nat) : Met l yX6_readLiteral wsX6_readLiteral rm_X6_readLiteral (PcW D cI cL [.ref q0, .int x1] [(q0, .inr (6, [.ref q0_bytes, .int f0_length, .int f0_fault, .int f0_place, .int (bI f0_isEquation), .long f0_first, .long f0_second, .int (bI f0_rightIsOne)])), (q0_bytes, .inl (cI, n0_bytes, .inl h0_bytes))] sz) (QiW D [(q0, .inr (6, [.ref q0_bytes, .int f0_length, .int f0_fault, .int f0_place, .int (bI f0_isEquation), .long f0_first, .long f0_second, .int (bI f0_rightIsOne)])), (q0_bytes, .inl (cI, n0_bytes, .inl h0_bytes))] (bI r0.1) (fun _ : Unit => [(q0, .inr (6, [.ref q0_bytes, .int f0_length, .int r0.2.1, .int r0.2.2.1, .int (bI f0_isEquation), .long r0.2.2.2.1, .long r0.2.2.2.2.1, .int (bI r0.2.2.2.2.2)])), (q0_bytes, .inl (cI, n0_bytes, .inl h0_bytes))]) tU sz) 0 0 (va_A [(q0, .inr (6, [.ref q0_bytes, .int f0_length, .int f0_fault, .int f0_place, .int (bI f0_isEquation), .long f0_first, .long f0_second, .int (bI f0_rightIsOne)])), (q0_bytes, .inl (cI, n0_bytes, .inl h0_bytes))] sz) := by
  refine Met.ofW (cc := cX6_readLiteral) (maxL := 5) (ret := (some .boolean)) (by decide) rfl ?_
  intro p e s m args below meth c s₁ B hml hv
  obtain ⟨hargs, hsz, hP, hEV, hD0⟩ := hv
  have hx := B.exec
  have hb := B.bytes
  have hr := B.returns
  have hts := atoms_spec (ws := wsX6_readLiteral) B.pre
  have hown : s.vm.findClass RX6 = some m.cls := findClass_of_methodNamed B.named
  have hlocks := B.notSynchronized
  have hK := hEV.K
  have lk_0 := hts _ lk_0_X6_readLiteral
  subst hsz
  unfold QiW PoW
  have hD := hD0.self (sz := s.heap.size)
  generalize hAe : va_A [(q0, .inr (6, [.ref q0_bytes, .int f0_length, .int f0_fault, .int f0_place, .int (bI f0_isEquation), .long f0_first, .long f0_second, .int (bI f0_rightIsOne)])), (q0_bytes, .inl (cI, n0_bytes, .inl h0_bytes))] s.heap.size = A at hD ⊢
  have hA : ∀ q : Nat, s.heap.size ≤ q → A q := fun q h => by rw [← hAe]; exact Or.inr h
  have hent : entryFrame m args 5 = entryFrame m ([.ref q0, .int x1] : List Value).toArray 5 := by rw [hargs]
  rw [hent]
  refine kx_Q (fun Q hQ => ?_)
  refine kx_H (fun H hH => ?_)
  have hP : va_P D vwCl [(q0, .inr (6, [.ref q0_bytes, .int f0_length, .int f0_fault, .int f0_place, .int (bI f0_isEquation), .long f0_first, .long f0_second, .int (bI f0_rightIsOne)])), (q0_bytes, .inl (cI, n0_bytes, .inl h0_bytes))] H := by rw [hH]; exact hP
  have hS : va_S A s.heap H [] := by rw [hH]; exact va_S.rf
  have hl := lv_entry ([.ref q0, .int x1]) (n := 5) (Nat.le_of_ble_eq_true rfl)
  rw [lg_entry_eq]
  generalize (lg_sl ([.ref q0, .int x1]) ++ List.replicate (5 - (lg_sl ([.ref q0, .int x1])).length) Slot.unset).toArray = ls at hl ⊢
  have hl : lv_has ls 5 [(0, .ref q0), (1, .int x1)] := hl
  have h := hr0
  unfold D_X6_readLiteral at h
  refine lv_aload_n hx hb dX6_readLiteral_0 rfl (lv_at hl 0 rfl) ?_
  refine lv_aload_n hx hb dX6_readLiteral_1 rfl (lv_at hl 0 rfl) ?_
  refine va_get (D := D) (ci := 6) (v := .int f0_place) (C := RX6) (T := TX6) (N := 8) hx hb hts in_X6_readLiteral_X6 hown hK hP 0 rfl rfl 3 (by decide) lk_0 (fun _ h9 => h9) rfl dX6_readLiteral_2 ?_
  obtain ⟨u_1, hu_2, h⟩ := co_b h
  refine kx_i (ws' := fun _ => [(q0, .inr (6, [.ref q0_bytes, .int f0_length, .int f0_fault, .int f0_place, .int (bI f0_isEquation), .long f0_first, .long f0_second, .int (bI f0_rightIsOne)])), (q0_bytes, .inl (cI, n0_bytes, .inl h0_bytes))]) hP hD hS hA [0, 1] [] [0, 1] rfl rfl (by decide) (by decide) (fun _ => rfl) (by decide) (va_runV (As := [.int f0_place]) (rest := []) ⟨hx, hb, hml, hown, hts⟩ (cm_X6_byteAt l D cI cL (q0 := q0) (q0_bytes := q0_bytes) (n0_bytes := n0_bytes) (f0_length := f0_length) (h0_bytes := h0_bytes) (v0_fault := .int f0_fault) (v0_place := .int f0_place) (v0_isEquation := .int (bI f0_isEquation)) (v0_first := .long f0_first) (v0_second := .long f0_second) (v0_rightIsOne := .int (bI f0_rightIsOne)) (x1 := f0_place) (r0 := u_1) (hr0 := hu_2) (sz := H.size)) (cwV 1 hts gX6_readLiteral_X6_byteAt rfl rfl rfl (by decide +kernel) ⟨Nat.le_of_ble_eq_true rfl, Nat.le_of_ble_eq_true rfl⟩) (kx_preV hEV hP hD [0, 1] rfl (by decide) (k0 := 0) (ci := 6) rfl rfl rfl) rfl rfl hl.1 rfl (lv_room (Nat.le_of_ble_eq_true rfl)) dX6_readLiteral_5 ⟨Nat.le_of_ble_eq_true rfl, Nat.le_of_ble_eq_true rfl⟩) (fun _ H locs _ hP hD hS => ?_)
  refine lv_bipush (v := (45 : Int32)) hx hb dX6_readLiteral_8 (by decide) ?_
  refine lv_icmp_ne (tgt := 17) hx hb dX6_readLiteral_10 (by decide) (fun c_3 => ?_) (fun c_3 => ?_)
  · have k_4 : ¬ (u_1 = (45 : Int32)) := c_3
    have h := co_f k_4 h
    refine lv_iconst (v := (0 : Int32)) hx hb dX6_readLiteral_17 (by decide) ?_
    refine lv_istore_n (lv' := [(2, .int (0 : Int32)), (0, .ref q0), (1, .int x1)]) hx hb dX6_readLiteral_18 rfl hl (by decide) rfl (fun ls hl => ?_)
    refine lv_iload_n hx hb dX6_readLiteral_19 rfl (lv_at hl 0 rfl) ?_
    refine lv_if_eq (tgt := 33) hx hb dX6_readLiteral_20 (by decide) (fun c_5 => ?_) (fun c_5 => ?_)
    · refine lv_aload_n hx hb dX6_readLiteral_33 rfl (lv_at hl 1 rfl) ?_
      refine lv_aload_n hx hb dX6_readLiteral_34 rfl (lv_at hl 1 rfl) ?_
      refine va_get (D := D) (ci := 6) (v := .int f0_place) (C := RX6) (T := TX6) (N := 8) hx hb hts in_X6_readLiteral_X6 hown hK hP 0 rfl rfl 3 (by decide) lk_0 (fun _ h9 => h9) rfl dX6_readLiteral_35 ?_
      obtain ⟨u_6, hu_7, h⟩ := co_b h
      refine kx_i (ws' := fun _ => [(q0, .inr (6, [.ref q0_bytes, .int f0_length, .int f0_fault, .int f0_place, .int (bI f0_isEquation), .long f0_first, .long f0_second, .int (bI f0_rightIsOne)])), (q0_bytes, .inl (cI, n0_bytes, .inl h0_bytes))]) hP hD hS hA [0, 1] [] [0, 1] rfl rfl (by decide) (by decide) (fun _ => rfl) (by decide) (va_runV (As := [.int f0_place]) (rest := []) ⟨hx, hb, hml, hown, hts⟩ (cm_X6_byteAt l D cI cL (q0 := q0) (q0_bytes := q0_bytes) (n0_bytes := n0_bytes) (f0_length := f0_length) (h0_bytes := h0_bytes) (v0_fault := .int f0_fault) (v0_place := .int f0_place) (v0_isEquation := .int (bI f0_isEquation)) (v0_first := .long f0_first) (v0_second := .long f0_second) (v0_rightIsOne := .int (bI f0_rightIsOne)) (x1 := f0_place) (r0 := u_6) (hr0 := hu_7) (sz := H.size)) (cwV 1 hts gX6_readLiteral_X6_byteAt rfl rfl rfl (by decide +kernel) ⟨Nat.le_of_ble_eq_true rfl, Nat.le_of_ble_eq_true rfl⟩) (kx_preV hEV hP hD [0, 1] rfl (by decide) (k0 := 0) (ci := 6) rfl rfl rfl) rfl rfl hl.1 rfl (lv_room (Nat.le_of_ble_eq_true rfl)) dX6_readLiteral_38 ⟨Nat.le_of_ble_eq_true rfl, Nat.le_of_ble_eq_true rfl⟩) (fun _ H locs _ hP hD hS => ?_)
      refine lv_bipush (v := (48 : Int32)) hx hb dX6_readLiteral_41 (by decide) ?_
      refine lv_icmp_eq (tgt := 60) hx hb dX6_readLiteral_43 (by decide) (fun c_8 => ?_) (fun c_8 => ?_)
      · have k_9 : u_6 = (48 : Int32) := c_8
        have h := co_t k_9 h
        refine lv_aload_n hx hb dX6_readLiteral_60 rfl (lv_at hl 1 rfl) ?_
        refine lv_iconst (v := (1 : Int32)) hx hb dX6_readLiteral_61 (by decide) ?_
        refine lv_aload_n hx hb dX6_readLiteral_62 rfl (lv_at hl 1 rfl) ?_
        refine va_get (D := D) (ci := 6) (v := .int f0_place) (C := RX6) (T := TX6) (N := 8) hx hb hts in_X6_readLiteral_X6 hown hK hP 0 rfl rfl 3 (by decide) lk_0 (fun _ h9 => h9) rfl dX6_readLiteral_63 ?_
        obtain ⟨u_10, hu_11, h⟩ := co_b h
        refine kx_i (ws' := fun _ => [(q0, .inr (6, [.ref q0_bytes, .int f0_length, .int u_10.2.1, .int u_10.2.2, .int (bI f0_isEquation), .long f0_first, .long f0_second, .int (bI f0_rightIsOne)])), (q0_bytes, .inl (cI, n0_bytes, .inl h0_bytes))]) hP hD hS hA [0] [1] [1, 0] rfl rfl (by decide) (by decide) (fun _ => rfl) (by decide) (va_runV (As := [.int (1 : Int32), .int f0_place]) (rest := []) ⟨hx, hb, hml, hown, hts⟩ (cm_X6_fail l D cI cL (q0 := q0) (f0_fault := f0_fault) (f0_place := f0_place) (v0_bytes := .ref q0_bytes) (v0_length := .int f0_length) (v0_isEquation := .int (bI f0_isEquation)) (v0_first := .long f0_first) (v0_second := .long f0_second) (v0_rightIsOne := .int (bI f0_rightIsOne)) (x1 := (1 : Int32)) (x2 := f0_place) (r0 := u_10) (hr0 := hu_11) (sz := H.size)) (cwV 2 hts gX6_readLiteral_X6_fail rfl rfl rfl (by decide +kernel) ⟨Nat.le_of_ble_eq_true rfl, Nat.le_of_ble_eq_true rfl⟩) (kx_preV hEV hP hD [0] rfl (by decide) (k0 := 0) (ci := 6) rfl rfl rfl) rfl rfl hl.1 rfl (lv_room (Nat.le_of_ble_eq_true rfl)) dX6_readLiteral_66 ⟨Nat.le_of_ble_eq_true rfl, Nat.le_of_ble_eq_true rfl⟩) (fun _ H locs _ hP hD hS => ?_)
        have h := Option.some.inj h
        subst h
        subst hQ
        exact W.zret (v := bI u_10.1) hx hb hr (bI_n u_10.1) (fun t ht hW => ⟨⟨bI u_10.1, (), rfl, ⟨rfl, trivial⟩, by rw [ht]; exact hP, hD⟩, hS.F ht⟩) hS.2.2 dX6_readLiteral_69
      · have k_9 : ¬ (u_6 = (48 : Int32)) := c_8
        have h := co_f k_9 h
        refine lv_aload_n hx hb dX6_readLiteral_46 rfl (lv_at hl 1 rfl) ?_
        refine lv_aload_n hx hb dX6_readLiteral_47 rfl (lv_at hl 1 rfl) ?_
        refine va_get (D := D) (ci := 6) (v := .int f0_place) (C := RX6) (T := TX6) (N := 8) hx hb hts in_X6_readLiteral_X6 hown hK hP 0 rfl rfl 3 (by decide) lk_0 (fun _ h9 => h9) rfl dX6_readLiteral_48 ?_
        obtain ⟨u_12, hu_13, h⟩ := co_b h
        refine kx_i (ws' := fun _ => [(q0, .inr (6, [.ref q0_bytes, .int f0_length, .int f0_fault, .int f0_place, .int (bI f0_isEquation), .long f0_first, .long f0_second, .int (bI f0_rightIsOne)])), (q0_bytes, .inl (cI, n0_bytes, .inl h0_bytes))]) hP hD hS hA [0, 1] [] [0, 1] rfl rfl (by decide) (by decide) (fun _ => rfl) (by decide) (va_runV (As := [.int f0_place]) (rest := []) ⟨hx, hb, hml, hown, hts⟩ (cm_X6_byteAt l D cI cL (q0 := q0) (q0_bytes := q0_bytes) (n0_bytes := n0_bytes) (f0_length := f0_length) (h0_bytes := h0_bytes) (v0_fault := .int f0_fault) (v0_place := .int f0_place) (v0_isEquation := .int (bI f0_isEquation)) (v0_first := .long f0_first) (v0_second := .long f0_second) (v0_rightIsOne := .int (bI f0_rightIsOne)) (x1 := f0_place) (r0 := u_12) (hr0 := hu_13) (sz := H.size)) (cwV 1 hts gX6_readLiteral_X6_byteAt rfl rfl rfl (by decide +kernel) ⟨Nat.le_of_ble_eq_true rfl, Nat.le_of_ble_eq_true rfl⟩) (kx_preV hEV hP hD [0, 1] rfl (by decide) (k0 := 0) (ci := 6) rfl rfl rfl) rfl rfl hl.1 rfl (lv_room (Nat.le_of_ble_eq_true rfl)) dX6_readLiteral_51 ⟨Nat.le_of_ble_eq_true rfl, Nat.le_of_ble_eq_true rfl⟩) (fun _ H locs _ hP hD hS => ?_)
        obtain ⟨u_14, hu_15, h⟩ := co_b h
        refine kx_i (ws' := fun _ => [(q0, .inr (6, [.ref q0_bytes, .int f0_length, .int f0_fault, .int f0_place, .int (bI f0_isEquation), .long f0_first, .long f0_second, .int (bI f0_rightIsOne)])), (q0_bytes, .inl (cI, n0_bytes, .inl h0_bytes))]) hP hD hS hA [] [0, 1] [0, 1] rfl rfl (by decide) (by decide) (fun _ => rfl) (by decide) (va_runS (As := [.int u_12]) (rest := []) ⟨hx, hb, hml, hown, hts⟩ (cm_X6_isFigure l D cI cL (x0 := u_12) (r0 := u_14) (hr0 := hu_15) (sz := H.size)) (va_cwS 1 hts gX6_readLiteral_X6_isFigure rfl rfl rfl (by decide +kernel) ⟨Nat.le_of_ble_eq_true rfl, Nat.le_of_ble_eq_true rfl⟩) (kx_preS hEV hP hD [] rfl (by decide)) rfl rfl hl.1 rfl (lv_room (Nat.le_of_ble_eq_true rfl)) dX6_readLiteral_54 ⟨Nat.le_of_ble_eq_true rfl, Nat.le_of_ble_eq_true rfl⟩) (fun _ H locs _ hP hD hS => ?_)
        refine lv_if_ne (tgt := 70) hx hb dX6_readLiteral_57 (by decide) (fun c_16 => ?_) (fun c_16 => ?_)
        · have k_17 : u_14 = true := (kx_nz c_16)
          have h := co_t k_17 h
          refine lv_aload_n hx hb dX6_readLiteral_70 rfl (lv_at hl 1 rfl) ?_
          refine va_get (D := D) (ci := 6) (v := .int f0_place) (C := RX6) (T := TX6) (N := 8) hx hb hts in_X6_readLiteral_X6 hown hK hP 0 rfl rfl 3 (by decide) lk_0 (fun _ h9 => h9) rfl dX6_readLiteral_71 ?_
          refine lv_istore_n (lv' := [(3, .int f0_place), (2, .int (0 : Int32)), (0, .ref q0), (1, .int x1)]) hx hb dX6_readLiteral_74 rfl hl (by decide) rfl (fun ls hl => ?_)
          refine lv_aload_n hx hb dX6_readLiteral_75 rfl (lv_at hl 2 rfl) ?_
          obtain ⟨u_18, hu_19, h⟩ := co_b h
          refine kx_i (ws' := fun _ => [(q0, .inr (6, [.ref q0_bytes, .int f0_length, .int f0_fault, .int u_18.2, .int (bI f0_isEquation), .long f0_first, .long f0_second, .int (bI f0_rightIsOne)])), (q0_bytes, .inl (cI, n0_bytes, .inl h0_bytes))]) hP hD hS hA [0, 1] [] [0, 1] rfl rfl (by decide) (by decide) (fun _ => rfl) (by decide) (va_runV (As := []) (rest := []) ⟨hx, hb, hml, hown, hts⟩ (cm_X6_readNumber l D cI cL (q0 := q0) (q0_bytes := q0_bytes) (n0_bytes := n0_bytes) (f0_length := f0_length) (f0_place := f0_place) (h0_bytes := h0_bytes) (v0_fault := .int f0_fault) (v0_isEquation := .int (bI f0_isEquation)) (v0_first := .long f0_first) (v0_second := .long f0_second) (v0_rightIsOne := .int (bI f0_rightIsOne)) (r0 := u_18) (hr0 := hu_19) (sz := H.size)) (cwV 0 hts gX6_readLiteral_X6_readNumber rfl rfl rfl (by decide +kernel) ⟨Nat.le_of_ble_eq_true rfl, Nat.le_of_ble_eq_true rfl⟩) (kx_preV hEV hP hD [0, 1] rfl (by decide) (k0 := 0) (ci := 6) rfl rfl rfl) rfl rfl hl.1 rfl (lv_room (Nat.le_of_ble_eq_true rfl)) dX6_readLiteral_76 ⟨Nat.le_of_ble_eq_true rfl, Nat.le_of_ble_eq_true rfl⟩) (fun _ H locs _ hP hD hS => ?_)
          refine lv_istore (lv' := [(4, .int u_18.1), (3, .int f0_place), (2, .int (0 : Int32)), (0, .ref q0), (1, .int x1)]) hx hb dX6_readLiteral_79 hl (by decide) rfl (fun ls hl => ?_)
          refine lv_iload hx hb dX6_readLiteral_81 (lv_at hl 0 rfl) ?_
          refine lv_iload_n hx hb dX6_readLiteral_83 rfl (lv_at hl 4 rfl) ?_
          refine lv_icmp_le (tgt := 94) hx hb dX6_readLiteral_84 (by decide) (fun c_20 => ?_) (fun c_20 => ?_)
          · have k_21 : u_18.1 ≤ x1 := c_20
            have h := co_t k_21 h
            refine lv_aload_n hx hb dX6_readLiteral_94 rfl (lv_at hl 3 rfl) ?_
            refine lv_aload_n hx hb dX6_readLiteral_95 rfl (lv_at hl 3 rfl) ?_
            refine va_get (D := D) (ci := 6) (v := .int u_18.2) (C := RX6) (T := TX6) (N := 8) hx hb hts in_X6_readLiteral_X6 hown hK hP 0 rfl rfl 3 (by decide) lk_0 (fun _ h9 => h9) rfl dX6_readLiteral_96 ?_
            obtain ⟨u_22, hu_23, h⟩ := co_b h
            refine kx_i (ws' := fun _ => [(q0, .inr (6, [.ref q0_bytes, .int f0_length, .int f0_fault, .int u_18.2, .int (bI f0_isEquation), .long f0_first, .long f0_second, .int (bI f0_rightIsOne)])), (q0_bytes, .inl (cI, n0_bytes, .inl h0_bytes))]) hP hD hS hA [0, 1] [] [0, 1] rfl rfl (by decide) (by decide) (fun _ => rfl) (by decide) (va_runV (As := [.int u_18.2]) (rest := []) ⟨hx, hb, hml, hown, hts⟩ (cm_X6_byteAt l D cI cL (q0 := q0) (q0_bytes := q0_bytes) (n0_bytes := n0_bytes) (f0_length := f0_length) (h0_bytes := h0_bytes) (v0_fault := .int f0_fault) (v0_place := .int u_18.2) (v0_isEquation := .int (bI f0_isEquation)) (v0_first := .long f0_first) (v0_second := .long f0_second) (v0_rightIsOne := .int (bI f0_rightIsOne)) (x1 := u_18.2) (r0 := u_22) (hr0 := hu_23) (sz := H.size)) (cwV 1 hts gX6_readLiteral_X6_byteAt rfl rfl rfl (by decide +kernel) ⟨Nat.le_of_ble_eq_true rfl, Nat.le_of_ble_eq_true rfl⟩) (kx_preV hEV hP hD [0, 1] rfl (by decide) (k0 := 0) (ci := 6) rfl rfl rfl) rfl rfl hl.1 rfl (lv_room (Nat.le_of_ble_eq_true rfl)) dX6_readLiteral_99 ⟨Nat.le_of_ble_eq_true rfl, Nat.le_of_ble_eq_true rfl⟩) (fun _ H locs _ hP hD hS => ?_)
            obtain ⟨u_24, hu_25, h⟩ := co_b h
            refine kx_i (ws' := fun _ => [(q0, .inr (6, [.ref q0_bytes, .int f0_length, .int f0_fault, .int u_18.2, .int (bI f0_isEquation), .long f0_first, .long f0_second, .int (bI f0_rightIsOne)])), (q0_bytes, .inl (cI, n0_bytes, .inl h0_bytes))]) hP hD hS hA [] [0, 1] [0, 1] rfl rfl (by decide) (by decide) (fun _ => rfl) (by decide) (va_runS (As := [.int u_22]) (rest := []) ⟨hx, hb, hml, hown, hts⟩ (cm_X6_isBlank l D cI cL (x0 := u_22) (r0 := u_24) (hr0 := hu_25) (sz := H.size)) (va_cwS 1 hts gX6_readLiteral_X6_isBlank rfl rfl rfl (by decide +kernel) ⟨Nat.le_of_ble_eq_true rfl, Nat.le_of_ble_eq_true rfl⟩) (kx_preS hEV hP hD [] rfl (by decide)) rfl rfl hl.1 rfl (lv_room (Nat.le_of_ble_eq_true rfl)) dX6_readLiteral_102 ⟨Nat.le_of_ble_eq_true rfl, Nat.le_of_ble_eq_true rfl⟩) (fun _ H locs _ hP hD hS => ?_)
            refine lv_if_ne (tgt := 118) hx hb dX6_readLiteral_105 (by decide) (fun c_26 => ?_) (fun c_26 => ?_)
            · have k_27 : u_24 = true := (kx_nz c_26)
              have h := co_t k_27 h
              refine lv_aload_n hx hb dX6_readLiteral_118 rfl (lv_at hl 3 rfl) ?_
              refine lv_lconst (v := (1 : Int64)) hx hb dX6_readLiteral_119 (by decide) ?_
              refine lv_iload hx hb dX6_readLiteral_120 (lv_at hl 0 rfl) ?_
              refine lv_iconst (v := (1 : Int32)) hx hb dX6_readLiteral_122 (by decide) ?_
              refine lv_isub hx hb dX6_readLiteral_123 ?_
              refine lv_lshl (v := jshl (1 : Int64) (u_18.1 - (1 : Int32))) hx hb dX6_readLiteral_124 rfl ?_
              refine lv_iload_n hx hb dX6_readLiteral_125 rfl (lv_at hl 2 rfl) ?_
              obtain ⟨u_28, hu_29, h⟩ := co_b h
              refine kx_v (ws' := fun _ => [(q0, .inr (6, [.ref q0_bytes, .int f0_length, .int f0_fault, .int u_18.2, .int (bI f0_isEquation), .long u_28.1, .long u_28.2.1, .int (bI u_28.2.2)])), (q0_bytes, .inl (cI, n0_bytes, .inl h0_bytes))]) hP hD hS hA [0] [1] [1, 0] rfl rfl (by decide) (by decide) (fun _ => rfl) (by decide) (va_runV (As := [.long (jshl (1 : Int64) (u_18.1 - (1 : Int32))), .int (bI false)]) (rest := []) ⟨hx, hb, hml, hown, hts⟩ (cm_X6_addLiteral l D cI cL (q0 := q0) (f0_isEquation := f0_isEquation) (f0_first := f0_first) (f0_second := f0_second) (f0_rightIsOne := f0_rightIsOne) (v0_bytes := .ref q0_bytes) (v0_length := .int f0_length) (v0_fault := .int f0_fault) (v0_place := .int u_18.2) (x1 := jshl (1 : Int64) (u_18.1 - (1 : Int32))) (x3 := false) (r0 := u_28) (hr0 := hu_29) (sz := H.size)) (cwV 2 hts gX6_readLiteral_X6_addLiteral rfl rfl rfl (by decide +kernel) ⟨Nat.le_of_ble_eq_true rfl, Nat.le_of_ble_eq_true rfl⟩) (kx_preV hEV hP hD [0] rfl (by decide) (k0 := 0) (ci := 6) rfl rfl rfl) rfl rfl hl.1 rfl (lv_room (Nat.le_of_ble_eq_true rfl)) dX6_readLiteral_126 ⟨Nat.le_of_ble_eq_true rfl, Nat.le_of_ble_eq_true rfl⟩) (fun _ H locs _ hP hD hS => ?_)
              refine lv_iconst (v := (1 : Int32)) hx hb dX6_readLiteral_129 (by decide) ?_
              have h := Option.some.inj h
              subst h
              subst hQ
              exact W.zret (v := bI true) hx hb hr (bI_n true) (fun t ht hW => ⟨⟨bI true, (), rfl, ⟨rfl, trivial⟩, by rw [ht]; exact hP, hD⟩, hS.F ht⟩) hS.2.2 dX6_readLiteral_130
            · have k_27 : ¬ (u_24 = true) := (kx_z c_26)
              have h := co_f k_27 h
              refine lv_aload_n hx hb dX6_readLiteral_108 rfl (lv_at hl 3 rfl) ?_
              refine lv_iconst (v := (1 : Int32)) hx hb dX6_readLiteral_109 (by decide) ?_
              refine lv_aload_n hx hb dX6_readLiteral_110 rfl (lv_at hl 3 rfl) ?_
              refine va_get (D := D) (ci := 6) (v := .int u_18.2) (C := RX6) (T := TX6) (N := 8) hx hb hts in_X6_readLiteral_X6 hown hK hP 0 rfl rfl 3 (by decide) lk_0 (fun _ h9 => h9) rfl dX6_readLiteral_111 ?_
              obtain ⟨u_30, hu_31, h⟩ := co_b h
              refine kx_i (ws' := fun _ => [(q0, .inr (6, [.ref q0_bytes, .int f0_length, .int u_30.2.1, .int u_30.2.2, .int (bI f0_isEquation), .long f0_first, .long f0_second, .int (bI f0_rightIsOne)])), (q0_bytes, .inl (cI, n0_bytes, .inl h0_bytes))]) hP hD hS hA [0] [1] [1, 0] rfl rfl (by decide) (by decide) (fun _ => rfl) (by decide) (va_runV (As := [.int (1 : Int32), .int u_18.2]) (rest := []) ⟨hx, hb, hml, hown, hts⟩ (cm_X6_fail l D cI cL (q0 := q0) (f0_fault := f0_fault) (f0_place := u_18.2) (v0_bytes := .ref q0_bytes) (v0_length := .int f0_length) (v0_isEquation := .int (bI f0_isEquation)) (v0_first := .long f0_first) (v0_second := .long f0_second) (v0_rightIsOne := .int (bI f0_rightIsOne)) (x1 := (1 : Int32)) (x2 := u_18.2) (r0 := u_30) (hr0 := hu_31) (sz := H.size)) (cwV 2 hts gX6_readLiteral_X6_fail rfl rfl rfl (by decide +kernel) ⟨Nat.le_of_ble_eq_true rfl, Nat.le_of_ble_eq_true rfl⟩) (kx_preV hEV hP hD [0] rfl (by decide) (k0 := 0) (ci := 6) rfl rfl rfl) rfl rfl hl.1 rfl (lv_room (Nat.le_of_ble_eq_true rfl)) dX6_readLiteral_114 ⟨Nat.le_of_ble_eq_true rfl, Nat.le_of_ble_eq_true rfl⟩) (fun _ H locs _ hP hD hS => ?_)
              have h := Option.some.inj h
              subst h
              subst hQ
              exact W.zret (v := bI u_30.1) hx hb hr (bI_n u_30.1) (fun t ht hW => ⟨⟨bI u_30.1, (), rfl, ⟨rfl, trivial⟩, by rw [ht]; exact hP, hD⟩, hS.F ht⟩) hS.2.2 dX6_readLiteral_117
          · have k_21 : ¬ (u_18.1 ≤ x1) := c_20
            have h := co_f k_21 h
            refine lv_aload_n hx hb dX6_readLiteral_87 rfl (lv_at hl 3 rfl) ?_
            refine lv_iconst (v := (2 : Int32)) hx hb dX6_readLiteral_88 (by decide) ?_
            refine lv_iload_n hx hb dX6_readLiteral_89 rfl (lv_at hl 1 rfl) ?_
            obtain ⟨u_32, hu_33, h⟩ := co_b h
            refine kx_i (ws' := fun _ => [(q0, .inr (6, [.ref q0_bytes, .int f0_length, .int u_32.2.1, .int u_32.2.2, .int (bI f0_isEquation), .long f0_first, .long f0_second, .int (bI f0_rightIsOne)])), (q0_bytes, .inl (cI, n0_bytes, .inl h0_bytes))]) hP hD hS hA [0] [1] [1, 0] rfl rfl (by decide) (by decide) (fun _ => rfl) (by decide) (va_runV (As := [.int (2 : Int32), .int f0_place]) (rest := []) ⟨hx, hb, hml, hown, hts⟩ (cm_X6_fail l D cI cL (q0 := q0) (f0_fault := f0_fault) (f0_place := u_18.2) (v0_bytes := .ref q0_bytes) (v0_length := .int f0_length) (v0_isEquation := .int (bI f0_isEquation)) (v0_first := .long f0_first) (v0_second := .long f0_second) (v0_rightIsOne := .int (bI f0_rightIsOne)) (x1 := (2 : Int32)) (x2 := f0_place) (r0 := u_32) (hr0 := hu_33) (sz := H.size)) (cwV 2 hts gX6_readLiteral_X6_fail rfl rfl rfl (by decide +kernel) ⟨Nat.le_of_ble_eq_true rfl, Nat.le_of_ble_eq_true rfl⟩) (kx_preV hEV hP hD [0] rfl (by decide) (k0 := 0) (ci := 6) rfl rfl rfl) rfl rfl hl.1 rfl (lv_room (Nat.le_of_ble_eq_true rfl)) dX6_readLiteral_90 ⟨Nat.le_of_ble_eq_true rfl, Nat.le_of_ble_eq_true rfl⟩) (fun _ H locs _ hP hD hS => ?_)
            have h := Option.some.inj h
            subst h
            subst hQ
            exact W.zret (v := bI u_32.1) hx hb hr (bI_n u_32.1) (fun t ht hW => ⟨⟨bI u_32.1, (), rfl, ⟨rfl, trivial⟩, by rw [ht]; exact hP, hD⟩, hS.F ht⟩) hS.2.2 dX6_readLiteral_93
        · have k_17 : ¬ (u_14 = true) := (kx_z c_16)
          have h := co_f k_17 h
          refine lv_aload_n hx hb dX6_readLiteral_60 rfl (lv_at hl 1 rfl) ?_
          refine lv_iconst (v := (1 : Int32)) hx hb dX6_readLiteral_61 (by decide) ?_
          refine lv_aload_n hx hb dX6_readLiteral_62 rfl (lv_at hl 1 rfl) ?_
          refine va_get (D := D) (ci := 6) (v := .int f0_place) (C := RX6) (T := TX6) (N := 8) hx hb hts in_X6_readLiteral_X6 hown hK hP 0 rfl rfl 3 (by decide) lk_0 (fun _ h9 => h9) rfl dX6_readLiteral_63 ?_
          obtain ⟨u_34, hu_35, h⟩ := co_b h
          refine kx_i (ws' := fun _ => [(q0, .inr (6, [.ref q0_bytes, .int f0_length, .int u_34.2.1, .int u_34.2.2, .int (bI f0_isEquation), .long f0_first, .long f0_second, .int (bI f0_rightIsOne)])), (q0_bytes, .inl (cI, n0_bytes, .inl h0_bytes))]) hP hD hS hA [0] [1] [1, 0] rfl rfl (by decide) (by decide) (fun _ => rfl) (by decide) (va_runV (As := [.int (1 : Int32), .int f0_place]) (rest := []) ⟨hx, hb, hml, hown, hts⟩ (cm_X6_fail l D cI cL (q0 := q0) (f0_fault := f0_fault) (f0_place := f0_place) (v0_bytes := .ref q0_bytes) (v0_length := .int f0_length) (v0_isEquation := .int (bI f0_isEquation)) (v0_first := .long f0_first) (v0_second := .long f0_second) (v0_rightIsOne := .int (bI f0_rightIsOne)) (x1 := (1 : Int32)) (x2 := f0_place) (r0 := u_34) (hr0 := hu_35) (sz := H.size)) (cwV 2 hts gX6_readLiteral_X6_fail rfl rfl rfl (by decide +kernel) ⟨Nat.le_of_ble_eq_true rfl, Nat.le_of_ble_eq_true rfl⟩) (kx_preV hEV hP hD [0] rfl (by decide) (k0 := 0) (ci := 6) rfl rfl rfl) rfl rfl hl.1 rfl (lv_room (Nat.le_of_ble_eq_true rfl)) dX6_readLiteral_66 ⟨Nat.le_of_ble_eq_true rfl, Nat.le_of_ble_eq_true rfl⟩) (fun _ H locs _ hP hD hS => ?_)
          have h := Option.some.inj h
          subst h
          subst hQ
          exact W.zret (v := bI u_34.1) hx hb hr (bI_n u_34.1) (fun t ht hW => ⟨⟨bI u_34.1, (), rfl, ⟨rfl, trivial⟩, by rw [ht]; exact hP, hD⟩, hS.F ht⟩) hS.2.2 dX6_readLiteral_69
    · exact absurd c_5 (by decide)
  · have k_4 : u_1 = (45 : Int32) := c_3
    have h := co_t k_4 h
    refine lv_iconst (v := (1 : Int32)) hx hb dX6_readLiteral_13 (by decide) ?_
    refine lv_goto (tgt := 18) hx hb dX6_readLiteral_14 (by decide) ?_
    refine lv_istore_n (lv' := [(2, .int (1 : Int32)), (0, .ref q0), (1, .int x1)]) hx hb dX6_readLiteral_18 rfl hl (by decide) rfl (fun ls hl => ?_)
    refine lv_iload_n hx hb dX6_readLiteral_19 rfl (lv_at hl 0 rfl) ?_
    refine lv_if_eq (tgt := 33) hx hb dX6_readLiteral_20 (by decide) (fun c_36 => ?_) (fun c_36 => ?_)
    · exact absurd c_36 (by decide)
    · refine lv_aload_n hx hb dX6_readLiteral_23 rfl (lv_at hl 1 rfl) ?_
      refine lv_dup hx hb dX6_readLiteral_24 rfl ?_
      refine va_get (D := D) (ci := 6) (v := .int f0_place) (C := RX6) (T := TX6) (N := 8) hx hb hts in_X6_readLiteral_X6 hown hK hP 0 rfl rfl 3 (by decide) lk_0 (fun _ h9 => h9) rfl dX6_readLiteral_25 ?_
      refine lv_iconst (v := (1 : Int32)) hx hb dX6_readLiteral_28 (by decide) ?_
      refine lv_iadd hx hb dX6_readLiteral_29 ?_
      refine va_put (D := D) (ci := 6) (v := .int (f0_place + (1 : Int32))) (ty := .int) (C := RX6) (T := TX6) (N := 8) hx hb hts in_X6_readLiteral_X6 tyX6 tyX6_ok nmX6 hown hK hP hD hS 0 rfl rfl 3 (by decide) lk_0 (fun _ h9 => h9) rfl (by decide +kernel) rfl rfl (Nat.le_of_ble_eq_true rfl) dX6_readLiteral_30 (fun H locs hP hD hS => ?_)
      have hP : va_P D vwCl [(q0, .inr (6, [.ref q0_bytes, .int f0_length, .int f0_fault, .int (f0_place + (1 : Int32)), .int (bI f0_isEquation), .long f0_first, .long f0_second, .int (bI f0_rightIsOne)])), (q0_bytes, .inl (cI, n0_bytes, .inl h0_bytes))] H := hP
      have hD : va_D A [(q0, .inr (6, [.ref q0_bytes, .int f0_length, .int f0_fault, .int (f0_place + (1 : Int32)), .int (bI f0_isEquation), .long f0_first, .long f0_second, .int (bI f0_rightIsOne)])), (q0_bytes, .inl (cI, n0_bytes, .inl h0_bytes))] := hD
      refine lv_aload_n hx hb dX6_readLiteral_33 rfl (lv_at hl 1 rfl) ?_
      refine lv_aload_n hx hb dX6_readLiteral_34 rfl (lv_at hl 1 rfl) ?_
      refine va_get (D := D) (ci := 6) (v := .int (f0_place + (1 : Int32))) (C := RX6) (T := TX6) (N := 8) hx hb hts in_X6_readLiteral_X6 hown hK hP 0 rfl rfl 3 (by decide) lk_0 (fun _ h9 => h9) rfl dX6_readLiteral_35 ?_
      obtain ⟨u_37, hu_38, h⟩ := co_b h
      refine kx_i (ws' := fun _ => [(q0, .inr (6, [.ref q0_bytes, .int f0_length, .int f0_fault, .int (f0_place + (1 : Int32)), .int (bI f0_isEquation), .long f0_first, .long f0_second, .int (bI f0_rightIsOne)])), (q0_bytes, .inl (cI, n0_bytes, .inl h0_bytes))]) hP hD hS hA [0, 1] [] [0, 1] rfl rfl (by decide) (by decide) (fun _ => rfl) (by decide) (va_runV (As := [.int (f0_place + (1 : Int32))]) (rest := []) ⟨hx, hb, hml, hown, hts⟩ (cm_X6_byteAt l D cI cL (q0 := q0) (q0_bytes := q0_bytes) (n0_bytes := n0_bytes) (f0_length := f0_length) (h0_bytes := h0_bytes) (v0_fault := .int f0_fault) (v0_place := .int (f0_place + (1 : Int32))) (v0_isEquation := .int (bI f0_isEquation)) (v0_first := .long f0_first) (v0_second := .long f0_second) (v0_rightIsOne := .int (bI f0_rightIsOne)) (x1 := f0_place + (1 : Int32)) (r0 := u_37) (hr0 := hu_38) (sz := H.size)) (cwV 1 hts gX6_readLiteral_X6_byteAt rfl rfl rfl (by decide +kernel) ⟨Nat.le_of_ble_eq_true rfl, Nat.le_of_ble_eq_true rfl⟩) (kx_preV hEV hP hD [0, 1] rfl (by decide) (k0 := 0) (ci := 6) rfl rfl rfl) rfl rfl hl.1 rfl (lv_room (Nat.le_of_ble_eq_true rfl)) dX6_readLiteral_38 ⟨Nat.le_of_ble_eq_true rfl, Nat.le_of_ble_eq_true rfl⟩) (fun _ H locs _ hP hD hS => ?_)
      refine lv_bipush (v := (48 : Int32)) hx hb dX6_readLiteral_41 (by decide) ?_
      refine lv_icmp_eq (tgt := 60) hx hb dX6_readLiteral_43 (by decide) (fun c_39 => ?_) (fun c_39 => ?_)
      · have k_40 : u_37 = (48 : Int32) := c_39
        have h := co_t k_40 h
        refine lv_aload_n hx hb dX6_readLiteral_60 rfl (lv_at hl 1 rfl) ?_
        refine lv_iconst (v := (1 : Int32)) hx hb dX6_readLiteral_61 (by decide) ?_
        refine lv_aload_n hx hb dX6_readLiteral_62 rfl (lv_at hl 1 rfl) ?_
        refine va_get (D := D) (ci := 6) (v := .int (f0_place + (1 : Int32))) (C := RX6) (T := TX6) (N := 8) hx hb hts in_X6_readLiteral_X6 hown hK hP 0 rfl rfl 3 (by decide) lk_0 (fun _ h9 => h9) rfl dX6_readLiteral_63 ?_
        obtain ⟨u_41, hu_42, h⟩ := co_b h
        refine kx_i (ws' := fun _ => [(q0, .inr (6, [.ref q0_bytes, .int f0_length, .int u_41.2.1, .int u_41.2.2, .int (bI f0_isEquation), .long f0_first, .long f0_second, .int (bI f0_rightIsOne)])), (q0_bytes, .inl (cI, n0_bytes, .inl h0_bytes))]) hP hD hS hA [0] [1] [1, 0] rfl rfl (by decide) (by decide) (fun _ => rfl) (by decide) (va_runV (As := [.int (1 : Int32), .int (f0_place + (1 : Int32))]) (rest := []) ⟨hx, hb, hml, hown, hts⟩ (cm_X6_fail l D cI cL (q0 := q0) (f0_fault := f0_fault) (f0_place := f0_place + (1 : Int32)) (v0_bytes := .ref q0_bytes) (v0_length := .int f0_length) (v0_isEquation := .int (bI f0_isEquation)) (v0_first := .long f0_first) (v0_second := .long f0_second) (v0_rightIsOne := .int (bI f0_rightIsOne)) (x1 := (1 : Int32)) (x2 := f0_place + (1 : Int32)) (r0 := u_41) (hr0 := hu_42) (sz := H.size)) (cwV 2 hts gX6_readLiteral_X6_fail rfl rfl rfl (by decide +kernel) ⟨Nat.le_of_ble_eq_true rfl, Nat.le_of_ble_eq_true rfl⟩) (kx_preV hEV hP hD [0] rfl (by decide) (k0 := 0) (ci := 6) rfl rfl rfl) rfl rfl hl.1 rfl (lv_room (Nat.le_of_ble_eq_true rfl)) dX6_readLiteral_66 ⟨Nat.le_of_ble_eq_true rfl, Nat.le_of_ble_eq_true rfl⟩) (fun _ H locs _ hP hD hS => ?_)
        have h := Option.some.inj h
        subst h
        subst hQ
        exact W.zret (v := bI u_41.1) hx hb hr (bI_n u_41.1) (fun t ht hW => ⟨⟨bI u_41.1, (), rfl, ⟨rfl, trivial⟩, by rw [ht]; exact hP, hD⟩, hS.F ht⟩) hS.2.2 dX6_readLiteral_69
      · have k_40 : ¬ (u_37 = (48 : Int32)) := c_39
        have h := co_f k_40 h
        refine lv_aload_n hx hb dX6_readLiteral_46 rfl (lv_at hl 1 rfl) ?_
        refine lv_aload_n hx hb dX6_readLiteral_47 rfl (lv_at hl 1 rfl) ?_
        refine va_get (D := D) (ci := 6) (v := .int (f0_place + (1 : Int32))) (C := RX6) (T := TX6) (N := 8) hx hb hts in_X6_readLiteral_X6 hown hK hP 0 rfl rfl 3 (by decide) lk_0 (fun _ h9 => h9) rfl dX6_readLiteral_48 ?_
        obtain ⟨u_43, hu_44, h⟩ := co_b h
        refine kx_i (ws' := fun _ => [(q0, .inr (6, [.ref q0_bytes, .int f0_length, .int f0_fault, .int (f0_place + (1 : Int32)), .int (bI f0_isEquation), .long f0_first, .long f0_second, .int (bI f0_rightIsOne)])), (q0_bytes, .inl (cI, n0_bytes, .inl h0_bytes))]) hP hD hS hA [0, 1] [] [0, 1] rfl rfl (by decide) (by decide) (fun _ => rfl) (by decide) (va_runV (As := [.int (f0_place + (1 : Int32))]) (rest := []) ⟨hx, hb, hml, hown, hts⟩ (cm_X6_byteAt l D cI cL (q0 := q0) (q0_bytes := q0_bytes) (n0_bytes := n0_bytes) (f0_length := f0_length) (h0_bytes := h0_bytes) (v0_fault := .int f0_fault) (v0_place := .int (f0_place + (1 : Int32))) (v0_isEquation := .int (bI f0_isEquation)) (v0_first := .long f0_first) (v0_second := .long f0_second) (v0_rightIsOne := .int (bI f0_rightIsOne)) (x1 := f0_place + (1 : Int32)) (r0 := u_43) (hr0 := hu_44) (sz := H.size)) (cwV 1 hts gX6_readLiteral_X6_byteAt rfl rfl rfl (by decide +kernel) ⟨Nat.le_of_ble_eq_true rfl, Nat.le_of_ble_eq_true rfl⟩) (kx_preV hEV hP hD [0, 1] rfl (by decide) (k0 := 0) (ci := 6) rfl rfl rfl) rfl rfl hl.1 rfl (lv_room (Nat.le_of_ble_eq_true rfl)) dX6_readLiteral_51 ⟨Nat.le_of_ble_eq_true rfl, Nat.le_of_ble_eq_true rfl⟩) (fun _ H locs _ hP hD hS => ?_)
        obtain ⟨u_45, hu_46, h⟩ := co_b h
        refine kx_i (ws' := fun _ => [(q0, .inr (6, [.ref q0_bytes, .int f0_length, .int f0_fault, .int (f0_place + (1 : Int32)), .int (bI f0_isEquation), .long f0_first, .long f0_second, .int (bI f0_rightIsOne)])), (q0_bytes, .inl (cI, n0_bytes, .inl h0_bytes))]) hP hD hS hA [] [0, 1] [0, 1] rfl rfl (by decide) (by decide) (fun _ => rfl) (by decide) (va_runS (As := [.int u_43]) (rest := []) ⟨hx, hb, hml, hown, hts⟩ (cm_X6_isFigure l D cI cL (x0 := u_43) (r0 := u_45) (hr0 := hu_46) (sz := H.size)) (va_cwS 1 hts gX6_readLiteral_X6_isFigure rfl rfl rfl (by decide +kernel) ⟨Nat.le_of_ble_eq_true rfl, Nat.le_of_ble_eq_true rfl⟩) (kx_preS hEV hP hD [] rfl (by decide)) rfl rfl hl.1 rfl (lv_room (Nat.le_of_ble_eq_true rfl)) dX6_readLiteral_54 ⟨Nat.le_of_ble_eq_true rfl, Nat.le_of_ble_eq_true rfl⟩) (fun _ H locs _ hP hD hS => ?_)
        refine lv_if_ne (tgt := 70) hx hb dX6_readLiteral_57 (by decide) (fun c_47 => ?_) (fun c_47 => ?_)
        · have k_48 : u_45 = true := (kx_nz c_47)
          have h := co_t k_48 h
          refine lv_aload_n hx hb dX6_readLiteral_70 rfl (lv_at hl 1 rfl) ?_
          refine va_get (D := D) (ci := 6) (v := .int (f0_place + (1 : Int32))) (C := RX6) (T := TX6) (N := 8) hx hb hts in_X6_readLiteral_X6 hown hK hP 0 rfl rfl 3 (by decide) lk_0 (fun _ h9 => h9) rfl dX6_readLiteral_71 ?_
          refine lv_istore_n (lv' := [(3, .int (f0_place + (1 : Int32))), (2, .int (1 : Int32)), (0, .ref q0), (1, .int x1)]) hx hb dX6_readLiteral_74 rfl hl (by decide) rfl (fun ls hl => ?_)
          refine lv_aload_n hx hb dX6_readLiteral_75 rfl (lv_at hl 2 rfl) ?_
          obtain ⟨u_49, hu_50, h⟩ := co_b h
          refine kx_i (ws' := fun _ => [(q0, .inr (6, [.ref q0_bytes, .int f0_length, .int f0_fault, .int u_49.2, .int (bI f0_isEquation), .long f0_first, .long f0_second, .int (bI f0_rightIsOne)])), (q0_bytes, .inl (cI, n0_bytes, .inl h0_bytes))]) hP hD hS hA [0, 1] [] [0, 1] rfl rfl (by decide) (by decide) (fun _ => rfl) (by decide) (va_runV (As := []) (rest := []) ⟨hx, hb, hml, hown, hts⟩ (cm_X6_readNumber l D cI cL (q0 := q0) (q0_bytes := q0_bytes) (n0_bytes := n0_bytes) (f0_length := f0_length) (f0_place := f0_place + (1 : Int32)) (h0_bytes := h0_bytes) (v0_fault := .int f0_fault) (v0_isEquation := .int (bI f0_isEquation)) (v0_first := .long f0_first) (v0_second := .long f0_second) (v0_rightIsOne := .int (bI f0_rightIsOne)) (r0 := u_49) (hr0 := hu_50) (sz := H.size)) (cwV 0 hts gX6_readLiteral_X6_readNumber rfl rfl rfl (by decide +kernel) ⟨Nat.le_of_ble_eq_true rfl, Nat.le_of_ble_eq_true rfl⟩) (kx_preV hEV hP hD [0, 1] rfl (by decide) (k0 := 0) (ci := 6) rfl rfl rfl) rfl rfl hl.1 rfl (lv_room (Nat.le_of_ble_eq_true rfl)) dX6_readLiteral_76 ⟨Nat.le_of_ble_eq_true rfl, Nat.le_of_ble_eq_true rfl⟩) (fun _ H locs _ hP hD hS => ?_)
          refine lv_istore (lv' := [(4, .int u_49.1), (3, .int (f0_place + (1 : Int32))), (2, .int (1 : Int32)), (0, .ref q0), (1, .int x1)]) hx hb dX6_readLiteral_79 hl (by decide) rfl (fun ls hl => ?_)
          refine lv_iload hx hb dX6_readLiteral_81 (lv_at hl 0 rfl) ?_
          refine lv_iload_n hx hb dX6_readLiteral_83 rfl (lv_at hl 4 rfl) ?_
          refine lv_icmp_le (tgt := 94) hx hb dX6_readLiteral_84 (by decide) (fun c_51 => ?_) (fun c_51 => ?_)
          · have k_52 : u_49.1 ≤ x1 := c_51
            have h := co_t k_52 h
            refine lv_aload_n hx hb dX6_readLiteral_94 rfl (lv_at hl 3 rfl) ?_
            refine lv_aload_n hx hb dX6_readLiteral_95 rfl (lv_at hl 3 rfl) ?_
            refine va_get (D := D) (ci := 6) (v := .int u_49.2) (C := RX6) (T := TX6) (N := 8) hx hb hts in_X6_readLiteral_X6 hown hK hP 0 rfl rfl 3 (by decide) lk_0 (fun _ h9 => h9) rfl dX6_readLiteral_96 ?_
            obtain ⟨u_53, hu_54, h⟩ := co_b h
            refine kx_i (ws' := fun _ => [(q0, .inr (6, [.ref q0_bytes, .int f0_length, .int f0_fault, .int u_49.2, .int (bI f0_isEquation), .long f0_first, .long f0_second, .int (bI f0_rightIsOne)])), (q0_bytes, .inl (cI, n0_bytes, .inl h0_bytes))]) hP hD hS hA [0, 1] [] [0, 1] rfl rfl (by decide) (by decide) (fun _ => rfl) (by decide) (va_runV (As := [.int u_49.2]) (rest := []) ⟨hx, hb, hml, hown, hts⟩ (cm_X6_byteAt l D cI cL (q0 := q0) (q0_bytes := q0_bytes) (n0_bytes := n0_bytes) (f0_length := f0_length) (h0_bytes := h0_bytes) (v0_fault := .int f0_fault) (v0_place := .int u_49.2) (v0_isEquation := .int (bI f0_isEquation)) (v0_first := .long f0_first) (v0_second := .long f0_second) (v0_rightIsOne := .int (bI f0_rightIsOne)) (x1 := u_49.2) (r0 := u_53) (hr0 := hu_54) (sz := H.size)) (cwV 1 hts gX6_readLiteral_X6_byteAt rfl rfl rfl (by decide +kernel) ⟨Nat.le_of_ble_eq_true rfl, Nat.le_of_ble_eq_true rfl⟩) (kx_preV hEV hP hD [0, 1] rfl (by decide) (k0 := 0) (ci := 6) rfl rfl rfl) rfl rfl hl.1 rfl (lv_room (Nat.le_of_ble_eq_true rfl)) dX6_readLiteral_99 ⟨Nat.le_of_ble_eq_true rfl, Nat.le_of_ble_eq_true rfl⟩) (fun _ H locs _ hP hD hS => ?_)
            obtain ⟨u_55, hu_56, h⟩ := co_b h
            refine kx_i (ws' := fun _ => [(q0, .inr (6, [.ref q0_bytes, .int f0_length, .int f0_fault, .int u_49.2, .int (bI f0_isEquation), .long f0_first, .long f0_second, .int (bI f0_rightIsOne)])), (q0_bytes, .inl (cI, n0_bytes, .inl h0_bytes))]) hP hD hS hA [] [0, 1] [0, 1] rfl rfl (by decide) (by decide) (fun _ => rfl) (by decide) (va_runS (As := [.int u_53]) (rest := []) ⟨hx, hb, hml, hown, hts⟩ (cm_X6_isBlank l D cI cL (x0 := u_53) (r0 := u_55) (hr0 := hu_56) (sz := H.size)) (va_cwS 1 hts gX6_readLiteral_X6_isBlank rfl rfl rfl (by decide +kernel) ⟨Nat.le_of_ble_eq_true rfl, Nat.le_of_ble_eq_true rfl⟩) (kx_preS hEV hP hD [] rfl (by decide)) rfl rfl hl.1 rfl (lv_room (Nat.le_of_ble_eq_true rfl)) dX6_readLiteral_102 ⟨Nat.le_of_ble_eq_true rfl, Nat.le_of_ble_eq_true rfl⟩) (fun _ H locs _ hP hD hS => ?_)
            refine lv_if_ne (tgt := 118) hx hb dX6_readLiteral_105 (by decide) (fun c_57 => ?_) (fun c_57 => ?_)
            · have k_58 : u_55 = true := (kx_nz c_57)
              have h := co_t k_58 h
              refine lv_aload_n hx hb dX6_readLiteral_118 rfl (lv_at hl 3 rfl) ?_
              refine lv_lconst (v := (1 : Int64)) hx hb dX6_readLiteral_119 (by decide) ?_
              refine lv_iload hx hb dX6_readLiteral_120 (lv_at hl 0 rfl) ?_
              refine lv_iconst (v := (1 : Int32)) hx hb dX6_readLiteral_122 (by decide) ?_
              refine lv_isub hx hb dX6_readLiteral_123 ?_
              refine lv_lshl (v := jshl (1 : Int64) (u_49.1 - (1 : Int32))) hx hb dX6_readLiteral_124 rfl ?_
              refine lv_iload_n hx hb dX6_readLiteral_125 rfl (lv_at hl 2 rfl) ?_
              obtain ⟨u_59, hu_60, h⟩ := co_b h
              refine kx_v (ws' := fun _ => [(q0, .inr (6, [.ref q0_bytes, .int f0_length, .int f0_fault, .int u_49.2, .int (bI f0_isEquation), .long u_59.1, .long u_59.2.1, .int (bI u_59.2.2)])), (q0_bytes, .inl (cI, n0_bytes, .inl h0_bytes))]) hP hD hS hA [0] [1] [1, 0] rfl rfl (by decide) (by decide) (fun _ => rfl) (by decide) (va_runV (As := [.long (jshl (1 : Int64) (u_49.1 - (1 : Int32))), .int (bI true)]) (rest := []) ⟨hx, hb, hml, hown, hts⟩ (cm_X6_addLiteral l D cI cL (q0 := q0) (f0_isEquation := f0_isEquation) (f0_first := f0_first) (f0_second := f0_second) (f0_rightIsOne := f0_rightIsOne) (v0_bytes := .ref q0_bytes) (v0_length := .int f0_length) (v0_fault := .int f0_fault) (v0_place := .int u_49.2) (x1 := jshl (1 : Int64) (u_49.1 - (1 : Int32))) (x3 := true) (r0 := u_59) (hr0 := hu_60) (sz := H.size)) (cwV 2 hts gX6_readLiteral_X6_addLiteral rfl rfl rfl (by decide +kernel) ⟨Nat.le_of_ble_eq_true rfl, Nat.le_of_ble_eq_true rfl⟩) (kx_preV hEV hP hD [0] rfl (by decide) (k0 := 0) (ci := 6) rfl rfl rfl) rfl rfl hl.1 rfl (lv_room (Nat.le_of_ble_eq_true rfl)) dX6_readLiteral_126 ⟨Nat.le_of_ble_eq_true rfl, Nat.le_of_ble_eq_true rfl⟩) (fun _ H locs _ hP hD hS => ?_)
              refine lv_iconst (v := (1 : Int32)) hx hb dX6_readLiteral_129 (by decide) ?_
              have h := Option.some.inj h
              subst h
              subst hQ
              exact W.zret (v := bI true) hx hb hr (bI_n true) (fun t ht hW => ⟨⟨bI true, (), rfl, ⟨rfl, trivial⟩, by rw [ht]; exact hP, hD⟩, hS.F ht⟩) hS.2.2 dX6_readLiteral_130
            · have k_58 : ¬ (u_55 = true) := (kx_z c_57)
              have h := co_f k_58 h
              refine lv_aload_n hx hb dX6_readLiteral_108 rfl (lv_at hl 3 rfl) ?_
              refine lv_iconst (v := (1 : Int32)) hx hb dX6_readLiteral_109 (by decide) ?_
              refine lv_aload_n hx hb dX6_readLiteral_110 rfl (lv_at hl 3 rfl) ?_
              refine va_get (D := D) (ci := 6) (v := .int u_49.2) (C := RX6) (T := TX6) (N := 8) hx hb hts in_X6_readLiteral_X6 hown hK hP 0 rfl rfl 3 (by decide) lk_0 (fun _ h9 => h9) rfl dX6_readLiteral_111 ?_
              obtain ⟨u_61, hu_62, h⟩ := co_b h
              refine kx_i (ws' := fun _ => [(q0, .inr (6, [.ref q0_bytes, .int f0_length, .int u_61.2.1, .int u_61.2.2, .int (bI f0_isEquation), .long f0_first, .long f0_second, .int (bI f0_rightIsOne)])), (q0_bytes, .inl (cI, n0_bytes, .inl h0_bytes))]) hP hD hS hA [0] [1] [1, 0] rfl rfl (by decide) (by decide) (fun _ => rfl) (by decide) (va_runV (As := [.int (1 : Int32), .int u_49.2]) (rest := []) ⟨hx, hb, hml, hown, hts⟩ (cm_X6_fail l D cI cL (q0 := q0) (f0_fault := f0_fault) (f0_place := u_49.2) (v0_bytes := .ref q0_bytes) (v0_length := .int f0_length) (v0_isEquation := .int (bI f0_isEquation)) (v0_first := .long f0_first) (v0_second := .long f0_second) (v0_rightIsOne := .int (bI f0_rightIsOne)) (x1 := (1 : Int32)) (x2 := u_49.2) (r0 := u_61) (hr0 := hu_62) (sz := H.size)) (cwV 2 hts gX6_readLiteral_X6_fail rfl rfl rfl (by decide +kernel) ⟨Nat.le_of_ble_eq_true rfl, Nat.le_of_ble_eq_true rfl⟩) (kx_preV hEV hP hD [0] rfl (by decide) (k0 := 0) (ci := 6) rfl rfl rfl) rfl rfl hl.1 rfl (lv_room (Nat.le_of_ble_eq_true rfl)) dX6_readLiteral_114 ⟨Nat.le_of_ble_eq_true rfl, Nat.le_of_ble_eq_true rfl⟩) (fun _ H locs _ hP hD hS => ?_)
              have h := Option.some.inj h
              subst h
              subst hQ
              exact W.zret (v := bI u_61.1) hx hb hr (bI_n u_61.1) (fun t ht hW => ⟨⟨bI u_61.1, (), rfl, ⟨rfl, trivial⟩, by rw [ht]; exact hP, hD⟩, hS.F ht⟩) hS.2.2 dX6_readLiteral_117
          · have k_52 : ¬ (u_49.1 ≤ x1) := c_51
            have h := co_f k_52 h
            refine lv_aload_n hx hb dX6_readLiteral_87 rfl (lv_at hl 3 rfl) ?_
            refine lv_iconst (v := (2 : Int32)) hx hb dX6_readLiteral_88 (by decide) ?_
            refine lv_iload_n hx hb dX6_readLiteral_89 rfl (lv_at hl 1 rfl) ?_
            obtain ⟨u_63, hu_64, h⟩ := co_b h
            refine kx_i (ws' := fun _ => [(q0, .inr (6, [.ref q0_bytes, .int f0_length, .int u_63.2.1, .int u_63.2.2, .int (bI f0_isEquation), .long f0_first, .long f0_second, .int (bI f0_rightIsOne)])), (q0_bytes, .inl (cI, n0_bytes, .inl h0_bytes))]) hP hD hS hA [0] [1] [1, 0] rfl rfl (by decide) (by decide) (fun _ => rfl) (by decide) (va_runV (As := [.int (2 : Int32), .int (f0_place + (1 : Int32))]) (rest := []) ⟨hx, hb, hml, hown, hts⟩ (cm_X6_fail l D cI cL (q0 := q0) (f0_fault := f0_fault) (f0_place := u_49.2) (v0_bytes := .ref q0_bytes) (v0_length := .int f0_length) (v0_isEquation := .int (bI f0_isEquation)) (v0_first := .long f0_first) (v0_second := .long f0_second) (v0_rightIsOne := .int (bI f0_rightIsOne)) (x1 := (2 : Int32)) (x2 := f0_place + (1 : Int32)) (r0 := u_63) (hr0 := hu_64) (sz := H.size)) (cwV 2 hts gX6_readLiteral_X6_fail rfl rfl rfl (by decide +kernel) ⟨Nat.le_of_ble_eq_true rfl, Nat.le_of_ble_eq_true rfl⟩) (kx_preV hEV hP hD [0] rfl (by decide) (k0 := 0) (ci := 6) rfl rfl rfl) rfl rfl hl.1 rfl (lv_room (Nat.le_of_ble_eq_true rfl)) dX6_readLiteral_90 ⟨Nat.le_of_ble_eq_true rfl, Nat.le_of_ble_eq_true rfl⟩) (fun _ H locs _ hP hD hS => ?_)
            have h := Option.some.inj h
            subst h
            subst hQ
            exact W.zret (v := bI u_63.1) hx hb hr (bI_n u_63.1) (fun t ht hW => ⟨⟨bI u_63.1, (), rfl, ⟨rfl, trivial⟩, by rw [ht]; exact hP, hD⟩, hS.F ht⟩) hS.2.2 dX6_readLiteral_93
        · have k_48 : ¬ (u_45 = true) := (kx_z c_47)
          have h := co_f k_48 h
          refine lv_aload_n hx hb dX6_readLiteral_60 rfl (lv_at hl 1 rfl) ?_
          refine lv_iconst (v := (1 : Int32)) hx hb dX6_readLiteral_61 (by decide) ?_
          refine lv_aload_n hx hb dX6_readLiteral_62 rfl (lv_at hl 1 rfl) ?_
          refine va_get (D := D) (ci := 6) (v := .int (f0_place + (1 : Int32))) (C := RX6) (T := TX6) (N := 8) hx hb hts in_X6_readLiteral_X6 hown hK hP 0 rfl rfl 3 (by decide) lk_0 (fun _ h9 => h9) rfl dX6_readLiteral_63 ?_
          obtain ⟨u_65, hu_66, h⟩ := co_b h
          refine kx_i (ws' := fun _ => [(q0, .inr (6, [.ref q0_bytes, .int f0_length, .int u_65.2.1, .int u_65.2.2, .int (bI f0_isEquation), .long f0_first, .long f0_second, .int (bI f0_rightIsOne)])), (q0_bytes, .inl (cI, n0_bytes, .inl h0_bytes))]) hP hD hS hA [0] [1] [1, 0] rfl rfl (by decide) (by decide) (fun _ => rfl) (by decide) (va_runV (As := [.int (1 : Int32), .int (f0_place + (1 : Int32))]) (rest := []) ⟨hx, hb, hml, hown, hts⟩ (cm_X6_fail l D cI cL (q0 := q0) (f0_fault := f0_fault) (f0_place := f0_place + (1 : Int32)) (v0_bytes := .ref q0_bytes) (v0_length := .int f0_length) (v0_isEquation := .int (bI f0_isEquation)) (v0_first := .long f0_first) (v0_second := .long f0_second) (v0_rightIsOne := .int (bI f0_rightIsOne)) (x1 := (1 : Int32)) (x2 := f0_place + (1 : Int32)) (r0 := u_65) (hr0 := hu_66) (sz := H.size)) (cwV 2 hts gX6_readLiteral_X6_fail rfl rfl rfl (by decide +kernel) ⟨Nat.le_of_ble_eq_true rfl, Nat.le_of_ble_eq_true rfl⟩) (kx_preV hEV hP hD [0] rfl (by decide) (k0 := 0) (ci := 6) rfl rfl rfl) rfl rfl hl.1 rfl (lv_room (Nat.le_of_ble_eq_true rfl)) dX6_readLiteral_66 ⟨Nat.le_of_ble_eq_true rfl, Nat.le_of_ble_eq_true rfl⟩) (fun _ H locs _ hP hD hS => ?_)
          have h := Option.some.inj h
          subst h
          subst hQ
          exact W.zret (v := bI u_65.1) hx hb hr (bI_n u_65.1) (fun t ht hW => ⟨⟨bI u_65.1, (), rfl, ⟨rfl, trivial⟩, by rw [ht]; exact hP, hD⟩, hS.F ht⟩) hS.2.2 dX6_readLiteral_69
theorem in_X6_readLine_X6 : ∀ w ∈ wsX60, w ∈ wsX6_readLine := by decide +kernel
theorem lk_0_X6_readLine : Cond.fieldLink RX6 22 "ParityClauses$Tape" "place" "I" ∈ wsX6_readLine := by decide +kernel
theorem lk_1_X6_readLine : Cond.fieldLink RX6 44 "ParityClauses$Tape" "isEquation" "Z" ∈ wsX6_readLine := by decide +kernel
theorem lk_2_X6_readLine : Cond.fieldLink RX6 48 "ParityClauses$Tape" "first" "J" ∈ wsX6_readLine := by decide +kernel
theorem lk_3_X6_readLine : Cond.fieldLink RX6 52 "ParityClauses$Tape" "second" "J" ∈ wsX6_readLine := by decide +kernel
theorem lk_4_X6_readLine : Cond.fieldLink RX6 55 "ParityClauses$Tape" "rightIsOne" "Z" ∈ wsX6_readLine := by decide +kernel
abbrev rm_X6_readLine : Room := { frames := 3, cells := 0, slots := 0, locals := 70 }
set_option maxHeartbeats 4000000 in
set_option maxRecDepth 100000 in
theorem cm_X6_readLine (l : Launch) (D : va_G) (cI cL : ClassId) (q0 q0_bytes : Nat) (n0_bytes : Nat) (f0_length : Int32) (f0_fault : Int32) (f0_place : Int32) (f0_isEquation : Bool) (f0_first : Int64) (f0_second : Int64) (f0_rightIsOne : Bool) (h0_bytes : Nat → Int32) (x1 : Int32) (r0 : Bool × Int32 × Int32 × Bool × Int64 × Int64 × Bool) (hr0 : D_X6_readLine f0_length f0_fault f0_place f0_isEquation f0_first f0_second f0_rightIsOne n0_bytes h0_bytes x1 = some r0) (sz : Nat) : Met l yX6_readLine wsX6_readLine rm_X6_readLine (PcW D cI cL [.ref q0, .int x1] [(q0, .inr (6, [.ref q0_bytes, .int f0_length, .int f0_fault, .int f0_place, .int (bI f0_isEquation), .long f0_first, .long f0_second, .int (bI f0_rightIsOne)])), (q0_bytes, .inl (cI, n0_bytes, .inl h0_bytes))] sz) (QiW D [(q0, .inr (6, [.ref q0_bytes, .int f0_length, .int f0_fault, .int f0_place, .int (bI f0_isEquation), .long f0_first, .long f0_second, .int (bI f0_rightIsOne)])), (q0_bytes, .inl (cI, n0_bytes, .inl h0_bytes))] (bI r0.1) (fun _ : Unit => [(q0, .inr (6, [.ref q0_bytes, .int f0_length, .int r0.2.1, .int r0.2.2.1, .int (bI r0.2.2.2.1), .long r0.2.2.2.2.1, .long r0.2.2.2.2.2.1, .int (bI r0.2.2.2.2.2.2)])), (q0_bytes, .inl (cI, n0_bytes, .inl h0_bytes))]) tU sz) 0 0 (va_A [(q0, .inr (6, [.ref q0_bytes, .int f0_length, .int f0_fault, .int f0_place, .int (bI f0_isEquation), .long f0_first, .long f0_second, .int (bI f0_rightIsOne)])), (q0_bytes, .inl (cI, n0_bytes, .inl h0_bytes))] sz) := by
  refine Met.ofW (cc := cX6_readLine) (maxL := 3) (ret := (some .boolean)) (by decide) rfl ?_
  intro p e s m args below meth c s₁ B hml hv
  obtain ⟨hargs, hsz, hP, hEV, hD0⟩ := hv
  have hx := B.exec
  have hb := B.bytes
  have hr := B.returns
  have hts := atoms_spec (ws := wsX6_readLine) B.pre
  have hown : s.vm.findClass RX6 = some m.cls := findClass_of_methodNamed B.named
  have hlocks := B.notSynchronized
  have hK := hEV.K
  have lk_0 := hts _ lk_0_X6_readLine
  have lk_1 := hts _ lk_1_X6_readLine
  have lk_2 := hts _ lk_2_X6_readLine
  have lk_3 := hts _ lk_3_X6_readLine
  have lk_4 := hts _ lk_4_X6_readLine
  subst hsz
  unfold QiW PoW
  have hD := hD0.self (sz := s.heap.size)
  generalize hAe : va_A [(q0, .inr (6, [.ref q0_bytes, .int f0_length, .int f0_fault, .int f0_place, .int (bI f0_isEquation), .long f0_first, .long f0_second, .int (bI f0_rightIsOne)])), (q0_bytes, .inl (cI, n0_bytes, .inl h0_bytes))] s.heap.size = A at hD ⊢
  have hA : ∀ q : Nat, s.heap.size ≤ q → A q := fun q h => by rw [← hAe]; exact Or.inr h
  have hent : entryFrame m args 3 = entryFrame m ([.ref q0, .int x1] : List Value).toArray 3 := by rw [hargs]
  rw [hent]
  refine kx_Q (fun Q hQ => ?_)
  refine kx_H (fun H hH => ?_)
  have hP : va_P D vwCl [(q0, .inr (6, [.ref q0_bytes, .int f0_length, .int f0_fault, .int f0_place, .int (bI f0_isEquation), .long f0_first, .long f0_second, .int (bI f0_rightIsOne)])), (q0_bytes, .inl (cI, n0_bytes, .inl h0_bytes))] H := by rw [hH]; exact hP
  have hS : va_S A s.heap H [] := by rw [hH]; exact va_S.rf
  have hl := lv_entry ([.ref q0, .int x1]) (n := 3) (Nat.le_of_ble_eq_true rfl)
  rw [lg_entry_eq]
  generalize (lg_sl ([.ref q0, .int x1]) ++ List.replicate (3 - (lg_sl ([.ref q0, .int x1])).length) Slot.unset).toArray = ls at hl ⊢
  have hl : lv_has ls 3 [(0, .ref q0), (1, .int x1)] := hl
  have hloop : ∀ n9 : Nat, (∀ (x2 : Int32) (f0_fault : Int32) (f0_place : Int32) (f0_isEquation : Bool) (f0_first : Int64) (f0_second : Int64) (f0_rightIsOne : Bool), iter (st_X6_readLine f0_length n0_bytes h0_bytes x1) n9 (x2, f0_fault, f0_place, f0_isEquation, f0_first, f0_second, f0_rightIsOne) = some r0 → ∀ (H : Heap) (locs : List Loc) (ls : Array Slot), va_P D vwCl [(q0, .inr (6, [.ref q0_bytes, .int f0_length, .int f0_fault, .int f0_place, .int (bI f0_isEquation), .long f0_first, .long f0_second, .int (bI f0_rightIsOne)])), (q0_bytes, .inl (cI, n0_bytes, .inl h0_bytes))] H → va_D A [(q0, .inr (6, [.ref q0_bytes, .int f0_length, .int f0_fault, .int f0_place, .int (bI f0_isEquation), .long f0_first, .long f0_second, .int (bI f0_rightIsOne)])), (q0_bytes, .inl (cI, n0_bytes, .inl h0_bytes))] → va_S A s.heap H locs → lv_has ls 3 [(0, .ref q0), (1, .int x1), (2, .int x2)] → W p l e (headSpec wsX6_readLine rm_X6_readLine).room s m args below meth c H locs 0 0 Q (F0 m 80 ls [])) := by
    intro n9
    induction n9 with
    | zero => exact (fun _ _ _ _ _ _ _ h => nomatch h)
    | succ n9 ih =>
      intro x2 f0_fault f0_place f0_isEquation f0_first f0_second f0_rightIsOne h H locs ls hP hD hS hl
      have h : run1 (iter (st_X6_readLine f0_length n0_bytes h0_bytes x1) n9) (b_X6_readLine_80 f0_length n0_bytes h0_bytes x1 x2 f0_fault f0_place f0_isEquation f0_first f0_second f0_rightIsOne) = some r0 := h
      unfold b_X6_readLine_80 at h
      refine lv_iload_n hx hb dX6_readLine_80 rfl (lv_at hl 2 rfl) ?_
      refine lv_sipush (v := (500 : Int32)) hx hb dX6_readLine_81 (by decide) ?_
      refine lv_icmp_gt (tgt := 122) hx hb dX6_readLine_84 (by decide) (fun c_25 => ?_) (fun c_25 => ?_)
      · have k_26 : (500 : Int32) < x2 := c_25
        have h := cw_t k_26 h
        refine lv_aload_n hx hb dX6_readLine_122 rfl (lv_at hl 0 rfl) ?_
        refine lv_iconst (v := (1 : Int32)) hx hb dX6_readLine_123 (by decide) ?_
        refine lv_aload_n hx hb dX6_readLine_124 rfl (lv_at hl 0 rfl) ?_
        refine va_get (D := D) (ci := 6) (v := .int f0_place) (C := RX6) (T := TX6) (N := 8) hx hb hts in_X6_readLine_X6 hown hK hP 0 rfl rfl 3 (by decide) lk_0 (fun _ h9 => h9) rfl dX6_readLine_125 ?_
        obtain ⟨u_27, hu_28, h⟩ := cw_b h
        refine kx_i (ws' := fun _ => [(q0, .inr (6, [.ref q0_bytes, .int f0_length, .int u_27.2.1, .int u_27.2.2, .int (bI f0_isEquation), .long f0_first, .long f0_second, .int (bI f0_rightIsOne)])), (q0_bytes, .inl (cI, n0_bytes, .inl h0_bytes))]) hP hD hS hA [0] [1] [1, 0] rfl rfl (by decide) (by decide) (fun _ => rfl) (by decide) (va_runV (As := [.int (1 : Int32), .int f0_place]) (rest := []) ⟨hx, hb, hml, hown, hts⟩ (cm_X6_fail l D cI cL (q0 := q0) (f0_fault := f0_fault) (f0_place := f0_place) (v0_bytes := .ref q0_bytes) (v0_length := .int f0_length) (v0_isEquation := .int (bI f0_isEquation)) (v0_first := .long f0_first) (v0_second := .long f0_second) (v0_rightIsOne := .int (bI f0_rightIsOne)) (x1 := (1 : Int32)) (x2 := f0_place) (r0 := u_27) (hr0 := hu_28) (sz := H.size)) (cwV 2 hts gX6_readLine_X6_fail rfl rfl rfl (by decide +kernel) ⟨Nat.le_of_ble_eq_true rfl, Nat.le_of_ble_eq_true rfl⟩) (kx_preV hEV hP hD [0] rfl (by decide) (k0 := 0) (ci := 6) rfl rfl rfl) rfl rfl hl.1 rfl (lv_room (Nat.le_of_ble_eq_true rfl)) dX6_readLine_128 ⟨Nat.le_of_ble_eq_true rfl, Nat.le_of_ble_eq_true rfl⟩) (fun _ H locs _ hP hD hS => ?_)
        have h := Option.some.inj h
        subst h
        subst hQ
        exact W.zret (v := bI u_27.1) hx hb hr (bI_n u_27.1) (fun t ht hW => ⟨⟨bI u_27.1, (), rfl, ⟨rfl, trivial⟩, by rw [ht]; exact hP, hD⟩, hS.F ht⟩) hS.2.2 dX6_readLine_131
      · have k_26 : ¬ ((500 : Int32) < x2) := c_25
        have h := cw_f k_26 h
        refine lv_aload_n hx hb dX6_readLine_87 rfl (lv_at hl 0 rfl) ?_
        obtain ⟨u_29, hu_30, h⟩ := cw_b h
        refine kx_v (ws' := fun _ => [(q0, .inr (6, [.ref q0_bytes, .int f0_length, .int f0_fault, .int u_29, .int (bI f0_isEquation), .long f0_first, .long f0_second, .int (bI f0_rightIsOne)])), (q0_bytes, .inl (cI, n0_bytes, .inl h0_bytes))]) hP hD hS hA [0, 1] [] [0, 1] rfl rfl (by decide) (by decide) (fun _ => rfl) (by decide) (va_runV (As := []) (rest := []) ⟨hx, hb, hml, hown, hts⟩ (cm_X6_skipBlanks l D cI cL (q0 := q0) (q0_bytes := q0_bytes) (n0_bytes := n0_bytes) (f0_length := f0_length) (f0_place := f0_place) (h0_bytes := h0_bytes) (v0_fault := .int f0_fault) (v0_isEquation := .int (bI f0_isEquation)) (v0_first := .long f0_first) (v0_second := .long f0_second) (v0_rightIsOne := .int (bI f0_rightIsOne)) (r0 := u_29) (hr0 := hu_30) (sz := H.size)) (cwV 0 hts gX6_readLine_X6_skipBlanks rfl rfl rfl (by decide +kernel) ⟨Nat.le_of_ble_eq_true rfl, Nat.le_of_ble_eq_true rfl⟩) (kx_preV hEV hP hD [0, 1] rfl (by decide) (k0 := 0) (ci := 6) rfl rfl rfl) rfl rfl hl.1 rfl (lv_room (Nat.le_of_ble_eq_true rfl)) dX6_readLine_88 ⟨Nat.le_of_ble_eq_true rfl, Nat.le_of_ble_eq_true rfl⟩) (fun _ H locs _ hP hD hS => ?_)
        refine lv_aload_n hx hb dX6_readLine_91 rfl (lv_at hl 0 rfl) ?_
        refine lv_aload_n hx hb dX6_readLine_92 rfl (lv_at hl 0 rfl) ?_
        refine va_get (D := D) (ci := 6) (v := .int u_29) (C := RX6) (T := TX6) (N := 8) hx hb hts in_X6_readLine_X6 hown hK hP 0 rfl rfl 3 (by decide) lk_0 (fun _ h9 => h9) rfl dX6_readLine_93 ?_
        obtain ⟨u_31, hu_32, h⟩ := cw_b h
        refine kx_i (ws' := fun _ => [(q0, .inr (6, [.ref q0_bytes, .int f0_length, .int f0_fault, .int u_29, .int (bI f0_isEquation), .long f0_first, .long f0_second, .int (bI f0_rightIsOne)])), (q0_bytes, .inl (cI, n0_bytes, .inl h0_bytes))]) hP hD hS hA [0, 1] [] [0, 1] rfl rfl (by decide) (by decide) (fun _ => rfl) (by decide) (va_runV (As := [.int u_29]) (rest := []) ⟨hx, hb, hml, hown, hts⟩ (cm_X6_byteAt l D cI cL (q0 := q0) (q0_bytes := q0_bytes) (n0_bytes := n0_bytes) (f0_length := f0_length) (h0_bytes := h0_bytes) (v0_fault := .int f0_fault) (v0_place := .int u_29) (v0_isEquation := .int (bI f0_isEquation)) (v0_first := .long f0_first) (v0_second := .long f0_second) (v0_rightIsOne := .int (bI f0_rightIsOne)) (x1 := u_29) (r0 := u_31) (hr0 := hu_32) (sz := H.size)) (cwV 1 hts gX6_readLine_X6_byteAt rfl rfl rfl (by decide +kernel) ⟨Nat.le_of_ble_eq_true rfl, Nat.le_of_ble_eq_true rfl⟩) (kx_preV hEV hP hD [0, 1] rfl (by decide) (k0 := 0) (ci := 6) rfl rfl rfl) rfl rfl hl.1 rfl (lv_room (Nat.le_of_ble_eq_true rfl)) dX6_readLine_96 ⟨Nat.le_of_ble_eq_true rfl, Nat.le_of_ble_eq_true rfl⟩) (fun _ H locs _ hP hD hS => ?_)
        refine lv_bipush (v := (48 : Int32)) hx hb dX6_readLine_99 (by decide) ?_
        refine lv_icmp_ne (tgt := 106) hx hb dX6_readLine_101 (by decide) (fun c_33 => ?_) (fun c_33 => ?_)
        · have k_34 : ¬ (u_31 = (48 : Int32)) := c_33
          have h := cw_f k_34 h
          refine lv_aload_n hx hb dX6_readLine_106 rfl (lv_at hl 0 rfl) ?_
          refine lv_iload_n hx hb dX6_readLine_107 rfl (lv_at hl 1 rfl) ?_
          obtain ⟨u_35, hu_36, h⟩ := cw_b h
          refine kx_i (ws' := fun _ => [(q0, .inr (6, [.ref q0_bytes, .int f0_length, .int u_35.2.1, .int u_35.2.2.1, .int (bI f0_isEquation), .long u_35.2.2.2.1, .long u_35.2.2.2.2.1, .int (bI u_35.2.2.2.2.2)])), (q0_bytes, .inl (cI, n0_bytes, .inl h0_bytes))]) hP hD hS hA [0, 1] [] [0, 1] rfl rfl (by decide) (by decide) (fun _ => rfl) (by decide) (va_runV (As := [.int x1]) (rest := []) ⟨hx, hb, hml, hown, hts⟩ (cm_X6_readLiteral l D cI cL (q0 := q0) (q0_bytes := q0_bytes) (n0_bytes := n0_bytes) (f0_length := f0_length) (f0_fault := f0_fault) (f0_place := u_29) (f0_isEquation := f0_isEquation) (f0_first := f0_first) (f0_second := f0_second) (f0_rightIsOne := f0_rightIsOne) (h0_bytes := h0_bytes) (x1 := x1) (r0 := u_35) (hr0 := hu_36) (sz := H.size)) (cwV 1 hts gX6_readLine_X6_readLiteral rfl rfl rfl (by decide +kernel) ⟨Nat.le_of_ble_eq_true rfl, Nat.le_of_ble_eq_true rfl⟩) (kx_preV hEV hP hD [0, 1] rfl (by decide) (k0 := 0) (ci := 6) rfl rfl rfl) rfl rfl hl.1 rfl (lv_room (Nat.le_of_ble_eq_true rfl)) dX6_readLine_108 ⟨Nat.le_of_ble_eq_true rfl, Nat.le_of_ble_eq_true rfl⟩) (fun _ H locs _ hP hD hS => ?_)
          refine lv_if_ne (tgt := 116) hx hb dX6_readLine_111 (by decide) (fun c_37 => ?_) (fun c_37 => ?_)
          · have k_38 : u_35.1 = true := (kx_nz c_37)
            have h := cw_t k_38 h
            refine lv_iinc (v := x2 + (1 : Int32)) (lv' := [(2, .int (x2 + (1 : Int32))), (0, .ref q0), (1, .int x1)]) hx hb dX6_readLine_116 hl (k := 2) rfl rfl (by decide) rfl (fun ls hl => ?_)
            refine lv_goto (tgt := 80) hx hb dX6_readLine_119 (by decide) ?_
            exact ih _ _ _ _ _ _ _ h _ _ _ hP hD hS (lv_sub hl [1, 2, 0] rfl)
          · have k_38 : ¬ (u_35.1 = true) := (kx_z c_37)
            have h := cw_f k_38 h
            refine lv_iconst (v := (0 : Int32)) hx hb dX6_readLine_114 (by decide) ?_
            have h := Option.some.inj h
            subst h
            subst hQ
            exact W.zret (v := bI false) hx hb hr (bI_n false) (fun t ht hW => ⟨⟨bI false, (), rfl, ⟨rfl, trivial⟩, by rw [ht]; exact hP, hD⟩, hS.F ht⟩) hS.2.2 dX6_readLine_115
        · have k_34 : u_31 = (48 : Int32) := c_33
          have h := cw_t k_34 h
          refine lv_iconst (v := (1 : Int32)) hx hb dX6_readLine_104 (by decide) ?_
          have h := Option.some.inj h
          subst h
          subst hQ
          exact W.zret (v := bI true) hx hb hr (bI_n true) (fun t ht hW => ⟨⟨bI true, (), rfl, ⟨rfl, trivial⟩, by rw [ht]; exact hP, hD⟩, hS.F ht⟩) hS.2.2 dX6_readLine_105
  have h := hr0
  unfold D_X6_readLine at h
  refine lv_aload_n hx hb dX6_readLine_0 rfl (lv_at hl 0 rfl) ?_
  refine lv_aload_n hx hb dX6_readLine_1 rfl (lv_at hl 0 rfl) ?_
  refine lv_aload_n hx hb dX6_readLine_2 rfl (lv_at hl 0 rfl) ?_
  refine va_get (D := D) (ci := 6) (v := .int f0_place) (C := RX6) (T := TX6) (N := 8) hx hb hts in_X6_readLine_X6 hown hK hP 0 rfl rfl 3 (by decide) lk_0 (fun _ h9 => h9) rfl dX6_readLine_3 ?_
  obtain ⟨u_1, hu_2, h⟩ := co_b h
  refine kx_i (ws' := fun _ => [(q0, .inr (6, [.ref q0_bytes, .int f0_length, .int f0_fault, .int f0_place, .int (bI f0_isEquation), .long f0_first, .long f0_second, .int (bI f0_rightIsOne)])), (q0_bytes, .inl (cI, n0_bytes, .inl h0_bytes))]) hP hD hS hA [0, 1] [] [0, 1] rfl rfl (by decide) (by decide) (fun _ => rfl) (by decide) (va_runV (As := [.int f0_place]) (rest := [.ref q0]) ⟨hx, hb, hml, hown, hts⟩ (cm_X6_byteAt l D cI cL (q0 := q0) (q0_bytes := q0_bytes) (n0_bytes := n0_bytes) (f0_length := f0_length) (h0_bytes := h0_bytes) (v0_fault := .int f0_fault) (v0_place := .int f0_place) (v0_isEquation := .int (bI f0_isEquation)) (v0_first := .long f0_first) (v0_second := .long f0_second) (v0_rightIsOne := .int (bI f0_rightIsOne)) (x1 := f0_place) (r0 := u_1) (hr0 := hu_2) (sz := H.size)) (cwV 1 hts gX6_readLine_X6_byteAt rfl rfl rfl (by decide +kernel) ⟨Nat.le_of_ble_eq_true rfl, Nat.le_of_ble_eq_true rfl⟩) (kx_preV hEV hP hD [0, 1] rfl (by decide) (k0 := 0) (ci := 6) rfl rfl rfl) rfl rfl hl.1 rfl (lv_room (Nat.le_of_ble_eq_true rfl)) dX6_readLine_6 ⟨Nat.le_of_ble_eq_true rfl, Nat.le_of_ble_eq_true rfl⟩) (fun _ H locs _ hP hD hS => ?_)
  refine lv_bipush (v := (120 : Int32)) hx hb dX6_readLine_9 (by decide) ?_
  refine lv_icmp_ne (tgt := 18) hx hb dX6_readLine_11 (by decide) (fun c_3 => ?_) (fun c_3 => ?_)
  · have k_4 : ¬ (u_1 = (120 : Int32)) := c_3
    have h := co_f k_4 h
    refine lv_iconst (v := (0 : Int32)) hx hb dX6_readLine_18 (by decide) ?_
    refine va_put (D := D) (ci := 6) (v := .int (bI false)) (ty := .boolean) (C := RX6) (T := TX6) (N := 8) hx hb hts in_X6_readLine_X6 tyX6 tyX6_ok nmX6 hown hK hP hD hS 0 rfl rfl 4 (by decide) lk_1 (fun _ h9 => h9) rfl (by decide +kernel) (bI_n false) (bI_fit false) (Nat.le_of_ble_eq_true rfl) dX6_readLine_19 (fun H locs hP hD hS => ?_)
    have hP : va_P D vwCl [(q0, .inr (6, [.ref q0_bytes, .int f0_length, .int f0_fault, .int f0_place, .int (bI false), .long f0_first, .long f0_second, .int (bI f0_rightIsOne)])), (q0_bytes, .inl (cI, n0_bytes, .inl h0_bytes))] H := hP
    have hD : va_D A [(q0, .inr (6, [.ref q0_bytes, .int f0_length, .int f0_fault, .int f0_place, .int (bI false), .long f0_first, .long f0_second, .int (bI f0_rightIsOne)])), (q0_bytes, .inl (cI, n0_bytes, .inl h0_bytes))] := hD
    refine lv_aload_n hx hb dX6_readLine_22 rfl (lv_at hl 0 rfl) ?_
    refine lv_lconst (v := (0 : Int64)) hx hb dX6_readLine_23 (by decide) ?_
    refine va_put (D := D) (ci := 6) (v := .long (0 : Int64)) (ty := .long) (C := RX6) (T := TX6) (N := 8) hx hb hts in_X6_readLine_X6 tyX6 tyX6_ok nmX6 hown hK hP hD hS 0 rfl rfl 5 (by decide) lk_2 (fun _ h9 => h9) rfl (by decide +kernel) rfl rfl (Nat.le_of_ble_eq_true rfl) dX6_readLine_24 (fun H locs hP hD hS => ?_)
    have hP : va_P D vwCl [(q0, .inr (6, [.ref q0_bytes, .int f0_length, .int f0_fault, .int f0_place, .int (bI false), .long (0 : Int64), .long f0_second, .int (bI f0_rightIsOne)])), (q0_bytes, .inl (cI, n0_bytes, .inl h0_bytes))] H := hP
    have hD : va_D A [(q0, .inr (6, [.ref q0_bytes, .int f0_length, .int f0_fault, .int f0_place, .int (bI false), .long (0 : Int64), .long f0_second, .int (bI f0_rightIsOne)])), (q0_bytes, .inl (cI, n0_bytes, .inl h0_bytes))] := hD
    refine lv_aload_n hx hb dX6_readLine_27 rfl (lv_at hl 0 rfl) ?_
    refine lv_lconst (v := (0 : Int64)) hx hb dX6_readLine_28 (by decide) ?_
    refine va_put (D := D) (ci := 6) (v := .long (0 : Int64)) (ty := .long) (C := RX6) (T := TX6) (N := 8) hx hb hts in_X6_readLine_X6 tyX6 tyX6_ok nmX6 hown hK hP hD hS 0 rfl rfl 6 (by decide) lk_3 (fun _ h9 => h9) rfl (by decide +kernel) rfl rfl (Nat.le_of_ble_eq_true rfl) dX6_readLine_29 (fun H locs hP hD hS => ?_)
    have hP : va_P D vwCl [(q0, .inr (6, [.ref q0_bytes, .int f0_length, .int f0_fault, .int f0_place, .int (bI false), .long (0 : Int64), .long (0 : Int64), .int (bI f0_rightIsOne)])), (q0_bytes, .inl (cI, n0_bytes, .inl h0_bytes))] H := hP
    have hD : va_D A [(q0, .inr (6, [.ref q0_bytes, .int f0_length, .int f0_fault, .int f0_place, .int (bI false), .long (0 : Int64), .long (0 : Int64), .int (bI f0_rightIsOne)])), (q0_bytes, .inl (cI, n0_bytes, .inl h0_bytes))] := hD
    refine lv_aload_n hx hb dX6_readLine_32 rfl (lv_at hl 0 rfl) ?_
    refine lv_iconst (v := (1 : Int32)) hx hb dX6_readLine_33 (by decide) ?_
    refine va_put (D := D) (ci := 6) (v := .int (bI true)) (ty := .boolean) (C := RX6) (T := TX6) (N := 8) hx hb hts in_X6_readLine_X6 tyX6 tyX6_ok nmX6 hown hK hP hD hS 0 rfl rfl 7 (by decide) lk_4 (fun _ h9 => h9) rfl (by decide +kernel) (bI_n true) (bI_fit true) (Nat.le_of_ble_eq_true rfl) dX6_readLine_34 (fun H locs hP hD hS => ?_)
    have hP : va_P D vwCl [(q0, .inr (6, [.ref q0_bytes, .int f0_length, .int f0_fault, .int f0_place, .int (bI false), .long (0 : Int64), .long (0 : Int64), .int (bI true)])), (q0_bytes, .inl (cI, n0_bytes, .inl h0_bytes))] H := hP
    have hD : va_D A [(q0, .inr (6, [.ref q0_bytes, .int f0_length, .int f0_fault, .int f0_place, .int (bI false), .long (0 : Int64), .long (0 : Int64), .int (bI true)])), (q0_bytes, .inl (cI, n0_bytes, .inl h0_bytes))] := hD
    refine lv_aload_n hx hb dX6_readLine_37 rfl (lv_at hl 0 rfl) ?_
    refine va_get (D := D) (ci := 6) (v := .int (bI false)) (C := RX6) (T := TX6) (N := 8) hx hb hts in_X6_readLine_X6 hown hK hP 0 rfl rfl 4 (by decide) lk_1 (fun _ h9 => h9) rfl dX6_readLine_38 ?_
    refine lv_if_eq (tgt := 78) hx hb dX6_readLine_41 (by decide) (fun c_5 => ?_) (fun c_5 => ?_)
    · have k_6 : ¬ (false = true) := (kx_z c_5)
      have h := co_f k_6 h
      refine lv_iconst (v := (0 : Int32)) hx hb dX6_readLine_78 (by decide) ?_
      refine lv_istore_n (lv' := [(2, .int (0 : Int32)), (0, .ref q0), (1, .int x1)]) hx hb dX6_readLine_79 rfl hl (by decide) rfl (fun ls hl => ?_)
      obtain ⟨n9, hn9⟩ := runw_some h
      exact (hloop n9) _ _ _ _ _ _ _ hn9 _ _ _ hP hD hS (lv_sub hl [1, 2, 0] rfl)
    · have k_6 : false = true := (kx_nz c_5)
      have h := co_t k_6 h
      refine lv_aload_n hx hb dX6_readLine_44 rfl (lv_at hl 0 rfl) ?_
      refine lv_dup hx hb dX6_readLine_45 rfl ?_
      refine va_get (D := D) (ci := 6) (v := .int f0_place) (C := RX6) (T := TX6) (N := 8) hx hb hts in_X6_readLine_X6 hown hK hP 0 rfl rfl 3 (by decide) lk_0 (fun _ h9 => h9) rfl dX6_readLine_46 ?_
      refine lv_iconst (v := (1 : Int32)) hx hb dX6_readLine_49 (by decide) ?_
      refine lv_iadd hx hb dX6_readLine_50 ?_
      refine va_put (D := D) (ci := 6) (v := .int (f0_place + (1 : Int32))) (ty := .int) (C := RX6) (T := TX6) (N := 8) hx hb hts in_X6_readLine_X6 tyX6 tyX6_ok nmX6 hown hK hP hD hS 0 rfl rfl 3 (by decide) lk_0 (fun _ h9 => h9) rfl (by decide +kernel) rfl rfl (Nat.le_of_ble_eq_true rfl) dX6_readLine_51 (fun H locs hP hD hS => ?_)
      have hP : va_P D vwCl [(q0, .inr (6, [.ref q0_bytes, .int f0_length, .int f0_fault, .int (f0_place + (1 : Int32)), .int (bI false), .long (0 : Int64), .long (0 : Int64), .int (bI true)])), (q0_bytes, .inl (cI, n0_bytes, .inl h0_bytes))] H := hP
      have hD : va_D A [(q0, .inr (6, [.ref q0_bytes, .int f0_length, .int f0_fault, .int (f0_place + (1 : Int32)), .int (bI false), .long (0 : Int64), .long (0 : Int64), .int (bI true)])), (q0_bytes, .inl (cI, n0_bytes, .inl h0_bytes))] := hD
      refine lv_aload_n hx hb dX6_readLine_54 rfl (lv_at hl 0 rfl) ?_
      refine lv_aload_n hx hb dX6_readLine_55 rfl (lv_at hl 0 rfl) ?_
      refine va_get (D := D) (ci := 6) (v := .int (f0_place + (1 : Int32))) (C := RX6) (T := TX6) (N := 8) hx hb hts in_X6_readLine_X6 hown hK hP 0 rfl rfl 3 (by decide) lk_0 (fun _ h9 => h9) rfl dX6_readLine_56 ?_
      obtain ⟨u_7, hu_8, h⟩ := co_b h
      refine kx_i (ws' := fun _ => [(q0, .inr (6, [.ref q0_bytes, .int f0_length, .int f0_fault, .int (f0_place + (1 : Int32)), .int (bI false), .long (0 : Int64), .long (0 : Int64), .int (bI true)])), (q0_bytes, .inl (cI, n0_bytes, .inl h0_bytes))]) hP hD hS hA [0, 1] [] [0, 1] rfl rfl (by decide) (by decide) (fun _ => rfl) (by decide) (va_runV (As := [.int (f0_place + (1 : Int32))]) (rest := []) ⟨hx, hb, hml, hown, hts⟩ (cm_X6_byteAt l D cI cL (q0 := q0) (q0_bytes := q0_bytes) (n0_bytes := n0_bytes) (f0_length := f0_length) (h0_bytes := h0_bytes) (v0_fault := .int f0_fault) (v0_place := .int (f0_place + (1 : Int32))) (v0_isEquation := .int (bI false)) (v0_first := .long (0 : Int64)) (v0_second := .long (0 : Int64)) (v0_rightIsOne := .int (bI true)) (x1 := f0_place + (1 : Int32)) (r0 := u_7) (hr0 := hu_8) (sz := H.size)) (cwV 1 hts gX6_readLine_X6_byteAt rfl rfl rfl (by decide +kernel) ⟨Nat.le_of_ble_eq_true rfl, Nat.le_of_ble_eq_true rfl⟩) (kx_preV hEV hP hD [0, 1] rfl (by decide) (k0 := 0) (ci := 6) rfl rfl rfl) rfl rfl hl.1 rfl (lv_room (Nat.le_of_ble_eq_true rfl)) dX6_readLine_59 ⟨Nat.le_of_ble_eq_true rfl, Nat.le_of_ble_eq_true rfl⟩) (fun _ H locs _ hP hD hS => ?_)
      obtain ⟨u_9, hu_10, h⟩ := co_b h
      refine kx_i (ws' := fun _ => [(q0, .inr (6, [.ref q0_bytes, .int f0_length, .int f0_fault, .int (f0_place + (1 : Int32)), .int (bI false), .long (0 : Int64), .long (0 : Int64), .int (bI true)])), (q0_bytes, .inl (cI, n0_bytes, .inl h0_bytes))]) hP hD hS hA [] [0, 1] [0, 1] rfl rfl (by decide) (by decide) (fun _ => rfl) (by decide) (va_runS (As := [.int u_7]) (rest := []) ⟨hx, hb, hml, hown, hts⟩ (cm_X6_isBlank l D cI cL (x0 := u_7) (r0 := u_9) (hr0 := hu_10) (sz := H.size)) (va_cwS 1 hts gX6_readLine_X6_isBlank rfl rfl rfl (by decide +kernel) ⟨Nat.le_of_ble_eq_true rfl, Nat.le_of_ble_eq_true rfl⟩) (kx_preS hEV hP hD [] rfl (by decide)) rfl rfl hl.1 rfl (lv_room (Nat.le_of_ble_eq_true rfl)) dX6_readLine_62 ⟨Nat.le_of_ble_eq_true rfl, Nat.le_of_ble_eq_true rfl⟩) (fun _ H locs _ hP hD hS => ?_)
      refine lv_if_ne (tgt := 78) hx hb dX6_readLine_65 (by decide) (fun c_11 => ?_) (fun c_11 => ?_)
      · have k_12 : u_9 = true := (kx_nz c_11)
        have h := co_t k_12 h
        refine lv_iconst (v := (0 : Int32)) hx hb dX6_readLine_78 (by decide) ?_
        refine lv_istore_n (lv' := [(2, .int (0 : Int32)), (0, .ref q0), (1, .int x1)]) hx hb dX6_readLine_79 rfl hl (by decide) rfl (fun ls hl => ?_)
        obtain ⟨n9, hn9⟩ := runw_some h
        exact (hloop n9) _ _ _ _ _ _ _ hn9 _ _ _ hP hD hS (lv_sub hl [1, 2, 0] rfl)
      · have k_12 : ¬ (u_9 = true) := (kx_z c_11)
        have h := co_f k_12 h
        refine lv_aload_n hx hb dX6_readLine_68 rfl (lv_at hl 0 rfl) ?_
        refine lv_iconst (v := (1 : Int32)) hx hb dX6_readLine_69 (by decide) ?_
        refine lv_aload_n hx hb dX6_readLine_70 rfl (lv_at hl 0 rfl) ?_
        refine va_get (D := D) (ci := 6) (v := .int (f0_place + (1 : Int32))) (C := RX6) (T := TX6) (N := 8) hx hb hts in_X6_readLine_X6 hown hK hP 0 rfl rfl 3 (by decide) lk_0 (fun _ h9 => h9) rfl dX6_readLine_71 ?_
        obtain ⟨u_13, hu_14, h⟩ := co_b h
        refine kx_i (ws' := fun _ => [(q0, .inr (6, [.ref q0_bytes, .int f0_length, .int u_13.2.1, .int u_13.2.2, .int (bI false), .long (0 : Int64), .long (0 : Int64), .int (bI true)])), (q0_bytes, .inl (cI, n0_bytes, .inl h0_bytes))]) hP hD hS hA [0] [1] [1, 0] rfl rfl (by decide) (by decide) (fun _ => rfl) (by decide) (va_runV (As := [.int (1 : Int32), .int (f0_place + (1 : Int32))]) (rest := []) ⟨hx, hb, hml, hown, hts⟩ (cm_X6_fail l D cI cL (q0 := q0) (f0_fault := f0_fault) (f0_place := f0_place + (1 : Int32)) (v0_bytes := .ref q0_bytes) (v0_length := .int f0_length) (v0_isEquation := .int (bI false)) (v0_first := .long (0 : Int64)) (v0_second := .long (0 : Int64)) (v0_rightIsOne := .int (bI true)) (x1 := (1 : Int32)) (x2 := f0_place + (1 : Int32)) (r0 := u_13) (hr0 := hu_14) (sz := H.size)) (cwV 2 hts gX6_readLine_X6_fail rfl rfl rfl (by decide +kernel) ⟨Nat.le_of_ble_eq_true rfl, Nat.le_of_ble_eq_true rfl⟩) (kx_preV hEV hP hD [0] rfl (by decide) (k0 := 0) (ci := 6) rfl rfl rfl) rfl rfl hl.1 rfl (lv_room (Nat.le_of_ble_eq_true rfl)) dX6_readLine_74 ⟨Nat.le_of_ble_eq_true rfl, Nat.le_of_ble_eq_true rfl⟩) (fun _ H locs _ hP hD hS => ?_)
        have h := Option.some.inj h
        subst h
        subst hQ
        exact W.zret (v := bI u_13.1) hx hb hr (bI_n u_13.1) (fun t ht hW => ⟨⟨bI u_13.1, (), rfl, ⟨rfl, trivial⟩, by rw [ht]; exact hP, hD⟩, hS.F ht⟩) hS.2.2 dX6_readLine_77
  · have k_4 : u_1 = (120 : Int32) := c_3
    have h := co_t k_4 h
    refine lv_iconst (v := (1 : Int32)) hx hb dX6_readLine_14 (by decide) ?_
    refine lv_goto (tgt := 19) hx hb dX6_readLine_15 (by decide) ?_
    refine va_put (D := D) (ci := 6) (v := .int (bI true)) (ty := .boolean) (C := RX6) (T := TX6) (N := 8) hx hb hts in_X6_readLine_X6 tyX6 tyX6_ok nmX6 hown hK hP hD hS 0 rfl rfl 4 (by decide) lk_1 (fun _ h9 => h9) rfl (by decide +kernel) (bI_n true) (bI_fit true) (Nat.le_of_ble_eq_true rfl) dX6_readLine_19 (fun H locs hP hD hS => ?_)
    have hP : va_P D vwCl [(q0, .inr (6, [.ref q0_bytes, .int f0_length, .int f0_fault, .int f0_place, .int (bI true), .long f0_first, .long f0_second, .int (bI f0_rightIsOne)])), (q0_bytes, .inl (cI, n0_bytes, .inl h0_bytes))] H := hP
    have hD : va_D A [(q0, .inr (6, [.ref q0_bytes, .int f0_length, .int f0_fault, .int f0_place, .int (bI true), .long f0_first, .long f0_second, .int (bI f0_rightIsOne)])), (q0_bytes, .inl (cI, n0_bytes, .inl h0_bytes))] := hD
    refine lv_aload_n hx hb dX6_readLine_22 rfl (lv_at hl 0 rfl) ?_
    refine lv_lconst (v := (0 : Int64)) hx hb dX6_readLine_23 (by decide) ?_
    refine va_put (D := D) (ci := 6) (v := .long (0 : Int64)) (ty := .long) (C := RX6) (T := TX6) (N := 8) hx hb hts in_X6_readLine_X6 tyX6 tyX6_ok nmX6 hown hK hP hD hS 0 rfl rfl 5 (by decide) lk_2 (fun _ h9 => h9) rfl (by decide +kernel) rfl rfl (Nat.le_of_ble_eq_true rfl) dX6_readLine_24 (fun H locs hP hD hS => ?_)
    have hP : va_P D vwCl [(q0, .inr (6, [.ref q0_bytes, .int f0_length, .int f0_fault, .int f0_place, .int (bI true), .long (0 : Int64), .long f0_second, .int (bI f0_rightIsOne)])), (q0_bytes, .inl (cI, n0_bytes, .inl h0_bytes))] H := hP
    have hD : va_D A [(q0, .inr (6, [.ref q0_bytes, .int f0_length, .int f0_fault, .int f0_place, .int (bI true), .long (0 : Int64), .long f0_second, .int (bI f0_rightIsOne)])), (q0_bytes, .inl (cI, n0_bytes, .inl h0_bytes))] := hD
    refine lv_aload_n hx hb dX6_readLine_27 rfl (lv_at hl 0 rfl) ?_
    refine lv_lconst (v := (0 : Int64)) hx hb dX6_readLine_28 (by decide) ?_
    refine va_put (D := D) (ci := 6) (v := .long (0 : Int64)) (ty := .long) (C := RX6) (T := TX6) (N := 8) hx hb hts in_X6_readLine_X6 tyX6 tyX6_ok nmX6 hown hK hP hD hS 0 rfl rfl 6 (by decide) lk_3 (fun _ h9 => h9) rfl (by decide +kernel) rfl rfl (Nat.le_of_ble_eq_true rfl) dX6_readLine_29 (fun H locs hP hD hS => ?_)
    have hP : va_P D vwCl [(q0, .inr (6, [.ref q0_bytes, .int f0_length, .int f0_fault, .int f0_place, .int (bI true), .long (0 : Int64), .long (0 : Int64), .int (bI f0_rightIsOne)])), (q0_bytes, .inl (cI, n0_bytes, .inl h0_bytes))] H := hP
    have hD : va_D A [(q0, .inr (6, [.ref q0_bytes, .int f0_length, .int f0_fault, .int f0_place, .int (bI true), .long (0 : Int64), .long (0 : Int64), .int (bI f0_rightIsOne)])), (q0_bytes, .inl (cI, n0_bytes, .inl h0_bytes))] := hD
    refine lv_aload_n hx hb dX6_readLine_32 rfl (lv_at hl 0 rfl) ?_
    refine lv_iconst (v := (1 : Int32)) hx hb dX6_readLine_33 (by decide) ?_
    refine va_put (D := D) (ci := 6) (v := .int (bI true)) (ty := .boolean) (C := RX6) (T := TX6) (N := 8) hx hb hts in_X6_readLine_X6 tyX6 tyX6_ok nmX6 hown hK hP hD hS 0 rfl rfl 7 (by decide) lk_4 (fun _ h9 => h9) rfl (by decide +kernel) (bI_n true) (bI_fit true) (Nat.le_of_ble_eq_true rfl) dX6_readLine_34 (fun H locs hP hD hS => ?_)
    have hP : va_P D vwCl [(q0, .inr (6, [.ref q0_bytes, .int f0_length, .int f0_fault, .int f0_place, .int (bI true), .long (0 : Int64), .long (0 : Int64), .int (bI true)])), (q0_bytes, .inl (cI, n0_bytes, .inl h0_bytes))] H := hP
    have hD : va_D A [(q0, .inr (6, [.ref q0_bytes, .int f0_length, .int f0_fault, .int f0_place, .int (bI true), .long (0 : Int64), .long (0 : Int64), .int (bI true)])), (q0_bytes, .inl (cI, n0_bytes, .inl h0_bytes))] := hD
    refine lv_aload_n hx hb dX6_readLine_37 rfl (lv_at hl 0 rfl) ?_
    refine va_get (D := D) (ci := 6) (v := .int (bI true)) (C := RX6) (T := TX6) (N := 8) hx hb hts in_X6_readLine_X6 hown hK hP 0 rfl rfl 4 (by decide) lk_1 (fun _ h9 => h9) rfl dX6_readLine_38 ?_
    refine lv_if_eq (tgt := 78) hx hb dX6_readLine_41 (by decide) (fun c_15 => ?_) (fun c_15 => ?_)
    · have k_16 : ¬ (true = true) := (kx_z c_15)
      have h := co_f k_16 h
      refine lv_iconst (v := (0 : Int32)) hx hb dX6_readLine_78 (by decide) ?_
      refine lv_istore_n (lv' := [(2, .int (0 : Int32)), (0, .ref q0), (1, .int x1)]) hx hb dX6_readLine_79 rfl hl (by decide) rfl (fun ls hl => ?_)
      obtain ⟨n9, hn9⟩ := runw_some h
      exact (hloop n9) _ _ _ _ _ _ _ hn9 _ _ _ hP hD hS (lv_sub hl [1, 2, 0] rfl)
    · have k_16 : true = true := (kx_nz c_15)
      have h := co_t k_16 h
      refine lv_aload_n hx hb dX6_readLine_44 rfl (lv_at hl 0 rfl) ?_
      refine lv_dup hx hb dX6_readLine_45 rfl ?_
      refine va_get (D := D) (ci := 6) (v := .int f0_place) (C := RX6) (T := TX6) (N := 8) hx hb hts in_X6_readLine_X6 hown hK hP 0 rfl rfl 3 (by decide) lk_0 (fun _ h9 => h9) rfl dX6_readLine_46 ?_
      refine lv_iconst (v := (1 : Int32)) hx hb dX6_readLine_49 (by decide) ?_
      refine lv_iadd hx hb dX6_readLine_50 ?_
      refine va_put (D := D) (ci := 6) (v := .int (f0_place + (1 : Int32))) (ty := .int) (C := RX6) (T := TX6) (N := 8) hx hb hts in_X6_readLine_X6 tyX6 tyX6_ok nmX6 hown hK hP hD hS 0 rfl rfl 3 (by decide) lk_0 (fun _ h9 => h9) rfl (by decide +kernel) rfl rfl (Nat.le_of_ble_eq_true rfl) dX6_readLine_51 (fun H locs hP hD hS => ?_)
      have hP : va_P D vwCl [(q0, .inr (6, [.ref q0_bytes, .int f0_length, .int f0_fault, .int (f0_place + (1 : Int32)), .int (bI true), .long (0 : Int64), .long (0 : Int64), .int (bI true)])), (q0_bytes, .inl (cI, n0_bytes, .inl h0_bytes))] H := hP
      have hD : va_D A [(q0, .inr (6, [.ref q0_bytes, .int f0_length, .int f0_fault, .int (f0_place + (1 : Int32)), .int (bI true), .long (0 : Int64), .long (0 : Int64), .int (bI true)])), (q0_bytes, .inl (cI, n0_bytes, .inl h0_bytes))] := hD
      refine lv_aload_n hx hb dX6_readLine_54 rfl (lv_at hl 0 rfl) ?_
      refine lv_aload_n hx hb dX6_readLine_55 rfl (lv_at hl 0 rfl) ?_
      refine va_get (D := D) (ci := 6) (v := .int (f0_place + (1 : Int32))) (C := RX6) (T := TX6) (N := 8) hx hb hts in_X6_readLine_X6 hown hK hP 0 rfl rfl 3 (by decide) lk_0 (fun _ h9 => h9) rfl dX6_readLine_56 ?_
      obtain ⟨u_17, hu_18, h⟩ := co_b h
      refine kx_i (ws' := fun _ => [(q0, .inr (6, [.ref q0_bytes, .int f0_length, .int f0_fault, .int (f0_place + (1 : Int32)), .int (bI true), .long (0 : Int64), .long (0 : Int64), .int (bI true)])), (q0_bytes, .inl (cI, n0_bytes, .inl h0_bytes))]) hP hD hS hA [0, 1] [] [0, 1] rfl rfl (by decide) (by decide) (fun _ => rfl) (by decide) (va_runV (As := [.int (f0_place + (1 : Int32))]) (rest := []) ⟨hx, hb, hml, hown, hts⟩ (cm_X6_byteAt l D cI cL (q0 := q0) (q0_bytes := q0_bytes) (n0_bytes := n0_bytes) (f0_length := f0_length) (h0_bytes := h0_bytes) (v0_fault := .int f0_fault) (v0_place := .int (f0_place + (1 : Int32))) (v0_isEquation := .int (bI true)) (v0_first := .long (0 : Int64)) (v0_second := .long (0 : Int64)) (v0_rightIsOne := .int (bI true)) (x1 := f0_place + (1 : Int32)) (r0 := u_17) (hr0 := hu_18) (sz := H.size)) (cwV 1 hts gX6_readLine_X6_byteAt rfl rfl rfl (by decide +kernel) ⟨Nat.le_of_ble_eq_true rfl, Nat.le_of_ble_eq_true rfl⟩) (kx_preV hEV hP hD [0, 1] rfl (by decide) (k0 := 0) (ci := 6) rfl rfl rfl) rfl rfl hl.1 rfl (lv_room (Nat.le_of_ble_eq_true rfl)) dX6_readLine_59 ⟨Nat.le_of_ble_eq_true rfl, Nat.le_of_ble_eq_true rfl⟩) (fun _ H locs _ hP hD hS => ?_)
      obtain ⟨u_19, hu_20, h⟩ := co_b h
      refine kx_i (ws' := fun _ => [(q0, .inr (6, [.ref q0_bytes, .int f0_length, .int f0_fault, .int (f0_place + (1 : Int32)), .int (bI true), .long (0 : Int64), .long (0 : Int64), .int (bI true)])), (q0_bytes, .inl (cI, n0_bytes, .inl h0_bytes))]) hP hD hS hA [] [0, 1] [0, 1] rfl rfl (by decide) (by decide) (fun _ => rfl) (by decide) (va_runS (As := [.int u_17]) (rest := []) ⟨hx, hb, hml, hown, hts⟩ (cm_X6_isBlank l D cI cL (x0 := u_17) (r0 := u_19) (hr0 := hu_20) (sz := H.size)) (va_cwS 1 hts gX6_readLine_X6_isBlank rfl rfl rfl (by decide +kernel) ⟨Nat.le_of_ble_eq_true rfl, Nat.le_of_ble_eq_true rfl⟩) (kx_preS hEV hP hD [] rfl (by decide)) rfl rfl hl.1 rfl (lv_room (Nat.le_of_ble_eq_true rfl)) dX6_readLine_62 ⟨Nat.le_of_ble_eq_true rfl, Nat.le_of_ble_eq_true rfl⟩) (fun _ H locs _ hP hD hS => ?_)
      refine lv_if_ne (tgt := 78) hx hb dX6_readLine_65 (by decide) (fun c_21 => ?_) (fun c_21 => ?_)
      · have k_22 : u_19 = true := (kx_nz c_21)
        have h := co_t k_22 h
        refine lv_iconst (v := (0 : Int32)) hx hb dX6_readLine_78 (by decide) ?_
        refine lv_istore_n (lv' := [(2, .int (0 : Int32)), (0, .ref q0), (1, .int x1)]) hx hb dX6_readLine_79 rfl hl (by decide) rfl (fun ls hl => ?_)
        obtain ⟨n9, hn9⟩ := runw_some h
        exact (hloop n9) _ _ _ _ _ _ _ hn9 _ _ _ hP hD hS (lv_sub hl [1, 2, 0] rfl)
      · have k_22 : ¬ (u_19 = true) := (kx_z c_21)
        have h := co_f k_22 h
        refine lv_aload_n hx hb dX6_readLine_68 rfl (lv_at hl 0 rfl) ?_
        refine lv_iconst (v := (1 : Int32)) hx hb dX6_readLine_69 (by decide) ?_
        refine lv_aload_n hx hb dX6_readLine_70 rfl (lv_at hl 0 rfl) ?_
        refine va_get (D := D) (ci := 6) (v := .int (f0_place + (1 : Int32))) (C := RX6) (T := TX6) (N := 8) hx hb hts in_X6_readLine_X6 hown hK hP 0 rfl rfl 3 (by decide) lk_0 (fun _ h9 => h9) rfl dX6_readLine_71 ?_
        obtain ⟨u_23, hu_24, h⟩ := co_b h
        refine kx_i (ws' := fun _ => [(q0, .inr (6, [.ref q0_bytes, .int f0_length, .int u_23.2.1, .int u_23.2.2, .int (bI true), .long (0 : Int64), .long (0 : Int64), .int (bI true)])), (q0_bytes, .inl (cI, n0_bytes, .inl h0_bytes))]) hP hD hS hA [0] [1] [1, 0] rfl rfl (by decide) (by decide) (fun _ => rfl) (by decide) (va_runV (As := [.int (1 : Int32), .int (f0_place + (1 : Int32))]) (rest := []) ⟨hx, hb, hml, hown, hts⟩ (cm_X6_fail l D cI cL (q0 := q0) (f0_fault := f0_fault) (f0_place := f0_place + (1 : Int32)) (v0_bytes := .ref q0_bytes) (v0_length := .int f0_length) (v0_isEquation := .int (bI true)) (v0_first := .long (0 : Int64)) (v0_second := .long (0 : Int64)) (v0_rightIsOne := .int (bI true)) (x1 := (1 : Int32)) (x2 := f0_place + (1 : Int32)) (r0 := u_23) (hr0 := hu_24) (sz := H.size)) (cwV 2 hts gX6_readLine_X6_fail rfl rfl rfl (by decide +kernel) ⟨Nat.le_of_ble_eq_true rfl, Nat.le_of_ble_eq_true rfl⟩) (kx_preV hEV hP hD [0] rfl (by decide) (k0 := 0) (ci := 6) rfl rfl rfl) rfl rfl hl.1 rfl (lv_room (Nat.le_of_ble_eq_true rfl)) dX6_readLine_74 ⟨Nat.le_of_ble_eq_true rfl, Nat.le_of_ble_eq_true rfl⟩) (fun _ H locs _ hP hD hS => ?_)
        have h := Option.some.inj h
        subst h
        subst hQ
        exact W.zret (v := bI u_23.1) hx hb hr (bI_n u_23.1) (fun t ht hW => ⟨⟨bI u_23.1, (), rfl, ⟨rfl, trivial⟩, by rw [ht]; exact hP, hD⟩, hS.F ht⟩) hS.2.2 dX6_readLine_77
theorem in_X6_keepLine_X6 : ∀ w ∈ wsX60, w ∈ wsX6_keepLine := by decide +kernel
theorem lk_0_X6_keepLine : Cond.fieldLink RX6 44 "ParityClauses$Tape" "isEquation" "Z" ∈ wsX6_keepLine := by decide +kernel
theorem lk_1_X6_keepLine : Cond.fieldLink RX6 48 "ParityClauses$Tape" "first" "J" ∈ wsX6_keepLine := by decide +kernel
theorem lk_2_X6_keepLine : Cond.fieldLink RX6 52 "ParityClauses$Tape" "second" "J" ∈ wsX6_keepLine := by decide +kernel
theorem lk_3_X6_keepLine : Cond.fieldLink RX6 22 "ParityClauses$Tape" "place" "I" ∈ wsX6_keepLine := by decide +kernel
theorem lk_4_X6_keepLine : Cond.fieldLink RX6 55 "ParityClauses$Tape" "rightIsOne" "Z" ∈ wsX6_keepLine := by decide +kernel
theorem lk_5_X6_keepLine : Cond.constantLong RX6 85 (4611686018427387904) ∈ wsX6_keepLine := by decide +kernel
abbrev rm_X6_keepLine : Room := { frames := 1, cells := 0, slots := 0, locals := 24 }
set_option maxHeartbeats 4000000 in
set_option maxRecDepth 100000 in
theorem cm_X6_keepLine (l : Launch) (D : va_G) (cI cL : ClassId) (q0 q1 q1_equations q1_yes q1_no : Nat) (n1_equations n1_yes n1_no : Nat) (f0_fault : Int32) (f0_place : Int32) (f0_isEquation : Bool) (f0_first : Int64) (f0_second : Int64) (f0_rightIsOne : Bool) (f1_equationCount : Int32) (f1_clauseCount : Int32) (h1_equations : Nat → Int64) (h1_yes : Nat → Int64) (h1_no : Nat → Int64) (v0_bytes v0_length v1_equationsBefore v1_clausesBefore v1_levelCount : Value) (r0 : Bool × Int32 × Int32 × Int32 × Int32 × (Nat → Int64) × (Nat → Int64) × (Nat → Int64)) (hr0 : D_X6_keepLine f0_fault f0_place f0_isEquation f0_first f0_second f0_rightIsOne f1_equationCount f1_clauseCount n1_equations h1_equations n1_yes h1_yes n1_no h1_no = some r0) (sz : Nat) : Met l yX6_keepLine wsX6_keepLine rm_X6_keepLine (PcW D cI cL [.ref q0, .ref q1] [(q0, .inr (6, [v0_bytes, v0_length, .int f0_fault, .int f0_place, .int (bI f0_isEquation), .long f0_first, .long f0_second, .int (bI f0_rightIsOne)])), (q1, .inr (4, [.ref q1_equations, .ref q1_yes, .ref q1_no, .int f1_equationCount, .int f1_clauseCount, v1_equationsBefore, v1_clausesBefore, v1_levelCount])), (q1_equations, .inl (cL, n1_equations, .inr (.inl h1_equations))), (q1_yes, .inl (cL, n1_yes, .inr (.inl h1_yes))), (q1_no, .inl (cL, n1_no, .inr (.inl h1_no)))] sz) (QiW D [(q0, .inr (6, [v0_bytes, v0_length, .int f0_fault, .int f0_place, .int (bI f0_isEquation), .long f0_first, .long f0_second, .int (bI f0_rightIsOne)])), (q1, .inr (4, [.ref q1_equations, .ref q1_yes, .ref q1_no, .int f1_equationCount, .int f1_clauseCount, v1_equationsBefore, v1_clausesBefore, v1_levelCount])), (q1_equations, .inl (cL, n1_equations, .inr (.inl h1_equations))), (q1_yes, .inl (cL, n1_yes, .inr (.inl h1_yes))), (q1_no, .inl (cL, n1_no, .inr (.inl h1_no)))] (bI r0.1) (fun _ : Unit => [(q0, .inr (6, [v0_bytes, v0_length, .int r0.2.1, .int r0.2.2.1, .int (bI f0_isEquation), .long f0_first, .long f0_second, .int (bI f0_rightIsOne)])), (q1, .inr (4, [.ref q1_equations, .ref q1_yes, .ref q1_no, .int r0.2.2.2.1, .int r0.2.2.2.2.1, v1_equationsBefore, v1_clausesBefore, v1_levelCount])), (q1_equations, .inl (cL, n1_equations, .inr (.inl r0.2.2.2.2.2.1))), (q1_yes, .inl (cL, n1_yes, .inr (.inl r0.2.2.2.2.2.2.1))), (q1_no, .inl (cL, n1_no, .inr (.inl r0.2.2.2.2.2.2.2)))]) tU sz) 0 0 (va_A [(q0, .inr (6, [v0_bytes, v0_length, .int f0_fault, .int f0_place, .int (bI f0_isEquation), .long f0_first, .long f0_second, .int (bI f0_rightIsOne)])), (q1, .inr (4, [.ref q1_equations, .ref q1_yes, .ref q1_no, .int f1_equationCount, .int f1_clauseCount, v1_equationsBefore, v1_clausesBefore, v1_levelCount])), (q1_equations, .inl (cL, n1_equations, .inr (.inl h1_equations))), (q1_yes, .inl (cL, n1_yes, .inr (.inl h1_yes))), (q1_no, .inl (cL, n1_no, .inr (.inl h1_no)))] sz) := by
  refine Met.ofW (cc := cX6_keepLine) (maxL := 3) (ret := (some .boolean)) (by decide) rfl ?_
  intro p e s m args below meth c s₁ B hml hv
  obtain ⟨hargs, hsz, hP, hEV, hD0⟩ := hv
  have hx := B.exec
  have hb := B.bytes
  have hr := B.returns
  have hts := atoms_spec (ws := wsX6_keepLine) B.pre
  have hown : s.vm.findClass RX6 = some m.cls := findClass_of_methodNamed B.named
  have hlocks := B.notSynchronized
  have hK := hEV.K
  have lk_0 := hts _ lk_0_X6_keepLine
  have lk_1 := hts _ lk_1_X6_keepLine
  have lk_2 := hts _ lk_2_X6_keepLine
  have lk_3 := hts _ lk_3_X6_keepLine
  have lk_4 := hts _ lk_4_X6_keepLine
  have lk_5 := hts _ lk_5_X6_keepLine
  subst hsz
  unfold QiW PoW
  have hD := hD0.self (sz := s.heap.size)
  generalize hAe : va_A [(q0, .inr (6, [v0_bytes, v0_length, .int f0_fault, .int f0_place, .int (bI f0_isEquation), .long f0_first, .long f0_second, .int (bI f0_rightIsOne)])), (q1, .inr (4, [.ref q1_equations, .ref q1_yes, .ref q1_no, .int f1_equationCount, .int f1_clauseCount, v1_equationsBefore, v1_clausesBefore, v1_levelCount])), (q1_equations, .inl (cL, n1_equations, .inr (.inl h1_equations))), (q1_yes, .inl (cL, n1_yes, .inr (.inl h1_yes))), (q1_no, .inl (cL, n1_no, .inr (.inl h1_no)))] s.heap.size = A at hD ⊢
  have hA : ∀ q : Nat, s.heap.size ≤ q → A q := fun q h => by rw [← hAe]; exact Or.inr h
  have hent : entryFrame m args 3 = entryFrame m ([.ref q0, .ref q1] : List Value).toArray 3 := by rw [hargs]
  rw [hent]
  refine kx_Q (fun Q hQ => ?_)
  refine kx_H (fun H hH => ?_)
  have hP : va_P D vwCl [(q0, .inr (6, [v0_bytes, v0_length, .int f0_fault, .int f0_place, .int (bI f0_isEquation), .long f0_first, .long f0_second, .int (bI f0_rightIsOne)])), (q1, .inr (4, [.ref q1_equations, .ref q1_yes, .ref q1_no, .int f1_equationCount, .int f1_clauseCount, v1_equationsBefore, v1_clausesBefore, v1_levelCount])), (q1_equations, .inl (cL, n1_equations, .inr (.inl h1_equations))), (q1_yes, .inl (cL, n1_yes, .inr (.inl h1_yes))), (q1_no, .inl (cL, n1_no, .inr (.inl h1_no)))] H := by rw [hH]; exact hP
  have hS : va_S A s.heap H [] := by rw [hH]; exact va_S.rf
  have hl := lv_entry ([.ref q0, .ref q1]) (n := 3) (Nat.le_of_ble_eq_true rfl)
  rw [lg_entry_eq]
  generalize (lg_sl ([.ref q0, .ref q1]) ++ List.replicate (3 - (lg_sl ([.ref q0, .ref q1])).length) Slot.unset).toArray = ls at hl ⊢
  have hl : lv_has ls 3 [(0, .ref q0), (1, .ref q1)] := hl
  have h := hr0
  unfold D_X6_keepLine at h
  refine lv_iconst (v := (1 : Int32)) hx hb dX6_keepLine_0 (by decide) ?_
  refine lv_istore_n (lv' := [(2, .int (1 : Int32)), (0, .ref q0), (1, .ref q1)]) hx hb dX6_keepLine_1 rfl hl (by decide) rfl (fun ls hl => ?_)
  refine lv_aload_n hx hb dX6_keepLine_2 rfl (lv_at hl 1 rfl) ?_
  refine va_get (D := D) (ci := 6) (v := .int (bI f0_isEquation)) (C := RX6) (T := TX6) (N := 8) hx hb hts in_X6_keepLine_X6 hown hK hP 0 rfl rfl 4 (by decide) lk_0 (fun _ h9 => h9) rfl dX6_keepLine_3 ?_
  refine lv_if_eq (tgt := 39) hx hb dX6_keepLine_6 (by decide) (fun c_1 => ?_) (fun c_1 => ?_)
  · have k_2 : ¬ (f0_isEquation = true) := (kx_z c_1)
    have h := co_f k_2 h
    refine lv_aload_n hx hb dX6_keepLine_39 rfl (lv_at hl 1 rfl) ?_
    refine va_get (D := D) (ci := 6) (v := .long f0_first) (C := RX6) (T := TX6) (N := 8) hx hb hts in_X6_keepLine_X6 hown hK hP 0 rfl rfl 5 (by decide) lk_1 (fun _ h9 => h9) rfl dX6_keepLine_40 ?_
    refine lv_aload_n hx hb dX6_keepLine_43 rfl (lv_at hl 1 rfl) ?_
    refine va_get (D := D) (ci := 6) (v := .long f0_second) (C := RX6) (T := TX6) (N := 8) hx hb hts in_X6_keepLine_X6 hown hK hP 0 rfl rfl 6 (by decide) lk_2 (fun _ h9 => h9) rfl dX6_keepLine_44 ?_
    refine lv_land hx hb dX6_keepLine_47 ?_
    refine lv_lconst (v := (0 : Int64)) hx hb dX6_keepLine_48 (by decide) ?_
    refine W.lcmp hx hb dX6_keepLine_49 ?_
    refine lv_if_ne (tgt := 66) hx hb dX6_keepLine_50 (by decide) (fun c_3 => ?_) (fun c_3 => ?_)
    · have k_4 : ¬ ((f0_first &&& f0_second) = (0 : Int64)) := (fun z9 => c_3 ((lg_cmp_eq _ _).mpr z9))
      have h := co_f k_4 h
      refine lv_iload_n hx hb dX6_keepLine_66 rfl (lv_at hl 0 rfl) ?_
      refine lv_if_ne (tgt := 82) hx hb dX6_keepLine_67 (by decide) (fun c_5 => ?_) (fun c_5 => ?_)
      · refine lv_iconst (v := (1 : Int32)) hx hb dX6_keepLine_82 (by decide) ?_
        refine lv_goto (tgt := 87) hx hb dX6_keepLine_83 (by decide) ?_
        have h := Option.some.inj h
        subst h
        subst hQ
        exact W.zret (v := bI true) hx hb hr (bI_n true) (fun t ht hW => ⟨⟨bI true, (), rfl, ⟨rfl, trivial⟩, by rw [ht]; exact hP, hD⟩, hS.F ht⟩) hS.2.2 dX6_keepLine_87
      · exact absurd c_5 (by decide)
    · have k_4 : (f0_first &&& f0_second) = (0 : Int64) := ((lg_cmp_eq _ _).mp c_3)
      have h := co_t k_4 h
      refine lv_aload_n hx hb dX6_keepLine_53 rfl (lv_at hl 2 rfl) ?_
      refine lv_aload_n hx hb dX6_keepLine_54 rfl (lv_at hl 1 rfl) ?_
      refine va_get (D := D) (ci := 6) (v := .long f0_first) (C := RX6) (T := TX6) (N := 8) hx hb hts in_X6_keepLine_X6 hown hK hP 0 rfl rfl 5 (by decide) lk_1 (fun _ h9 => h9) rfl dX6_keepLine_55 ?_
      refine lv_aload_n hx hb dX6_keepLine_58 rfl (lv_at hl 1 rfl) ?_
      refine va_get (D := D) (ci := 6) (v := .long f0_second) (C := RX6) (T := TX6) (N := 8) hx hb hts in_X6_keepLine_X6 hown hK hP 0 rfl rfl 6 (by decide) lk_2 (fun _ h9 => h9) rfl dX6_keepLine_59 ?_
      obtain ⟨u_6, hu_7, h⟩ := co_b h
      refine kx_i (ws' := fun _ => [(q0, .inr (6, [v0_bytes, v0_length, .int f0_fault, .int f0_place, .int (bI f0_isEquation), .long f0_first, .long f0_second, .int (bI f0_rightIsOne)])), (q1, .inr (4, [.ref q1_equations, .ref q1_yes, .ref q1_no, .int f1_equationCount, .int u_6.2.1, v1_equationsBefore, v1_clausesBefore, v1_levelCount])), (q1_equations, .inl (cL, n1_equations, .inr (.inl h1_equations))), (q1_yes, .inl (cL, n1_yes, .inr (.inl u_6.2.2.1))), (q1_no, .inl (cL, n1_no, .inr (.inl u_6.2.2.2)))]) hP hD hS hA [1, 3, 4] [0, 2] [0, 2, 1, 3, 4] rfl rfl (by decide) (by decide) (fun _ => rfl) (by decide) (va_runV (As := [.long f0_first, .long f0_second]) (rest := []) ⟨hx, hb, hml, hown, hts⟩ (cm_X4_addClause l D cI cL (q0 := q1) (q0_yes := q1_yes) (q0_no := q1_no) (n0_yes := n1_yes) (n0_no := n1_no) (f0_clauseCount := f1_clauseCount) (h0_yes := h1_yes) (h0_no := h1_no) (v0_equations := .ref q1_equations) (v0_equationCount := .int f1_equationCount) (v0_equationsBefore := v1_equationsBefore) (v0_clausesBefore := v1_clausesBefore) (v0_levelCount := v1_levelCount) (x1 := f0_first) (x3 := f0_second) (r0 := u_6) (hr0 := hu_7) (sz := H.size)) (cwV 2 hts gX6_keepLine_X4_addClause rfl rfl rfl (by decide +kernel) ⟨Nat.le_of_ble_eq_true rfl, Nat.le_of_ble_eq_true rfl⟩) (kx_preV hEV hP hD [1, 3, 4] rfl (by decide) (k0 := 1) (ci := 4) rfl rfl rfl) rfl rfl hl.1 rfl (lv_room (Nat.le_of_ble_eq_true rfl)) dX6_keepLine_62 ⟨Nat.le_of_ble_eq_true rfl, Nat.le_of_ble_eq_true rfl⟩) (fun _ H locs _ hP hD hS => ?_)
      refine lv_istore_n (lv' := [(2, .int (bI u_6.1)), (0, .ref q0), (1, .ref q1)]) hx hb dX6_keepLine_65 rfl hl (by decide) rfl (fun ls hl => ?_)
      refine lv_iload_n hx hb dX6_keepLine_66 rfl (lv_at hl 0 rfl) ?_
      refine lv_if_ne (tgt := 82) hx hb dX6_keepLine_67 (by decide) (fun c_8 => ?_) (fun c_8 => ?_)
      · have k_9 : u_6.1 = true := (kx_nz c_8)
        have h := co_t k_9 h
        refine lv_iconst (v := (1 : Int32)) hx hb dX6_keepLine_82 (by decide) ?_
        refine lv_goto (tgt := 87) hx hb dX6_keepLine_83 (by decide) ?_
        have h := Option.some.inj h
        subst h
        subst hQ
        exact W.zret (v := bI true) hx hb hr (bI_n true) (fun t ht hW => ⟨⟨bI true, (), rfl, ⟨rfl, trivial⟩, by rw [ht]; exact hP, hD⟩, hS.F ht⟩) hS.2.2 dX6_keepLine_87
      · have k_9 : ¬ (u_6.1 = true) := (kx_z c_8)
        have h := co_f k_9 h
        refine lv_aload_n hx hb dX6_keepLine_70 rfl (lv_at hl 1 rfl) ?_
        refine lv_iconst (v := (3 : Int32)) hx hb dX6_keepLine_71 (by decide) ?_
        refine lv_aload_n hx hb dX6_keepLine_72 rfl (lv_at hl 1 rfl) ?_
        refine va_get (D := D) (ci := 6) (v := .int f0_place) (C := RX6) (T := TX6) (N := 8) hx hb hts in_X6_keepLine_X6 hown hK hP 0 rfl rfl 3 (by decide) lk_3 (fun _ h9 => h9) rfl dX6_keepLine_73 ?_
        obtain ⟨u_10, hu_11, h⟩ := co_b h
        refine kx_i (ws' := fun _ => [(q0, .inr (6, [v0_bytes, v0_length, .int u_10.2.1, .int u_10.2.2, .int (bI f0_isEquation), .long f0_first, .long f0_second, .int (bI f0_rightIsOne)])), (q1, .inr (4, [.ref q1_equations, .ref q1_yes, .ref q1_no, .int f1_equationCount, .int u_6.2.1, v1_equationsBefore, v1_clausesBefore, v1_levelCount])), (q1_equations, .inl (cL, n1_equations, .inr (.inl h1_equations))), (q1_yes, .inl (cL, n1_yes, .inr (.inl u_6.2.2.1))), (q1_no, .inl (cL, n1_no, .inr (.inl u_6.2.2.2)))]) hP hD hS hA [0] [1, 2, 3, 4] [4, 0, 1, 2, 3] rfl rfl (by decide) (by decide) (fun _ => rfl) (by decide) (va_runV (As := [.int (3 : Int32), .int f0_place]) (rest := []) ⟨hx, hb, hml, hown, hts⟩ (cm_X6_fail l D cI cL (q0 := q0) (f0_fault := f0_fault) (f0_place := f0_place) (v0_bytes := v0_bytes) (v0_length := v0_length) (v0_isEquation := .int (bI f0_isEquation)) (v0_first := .long f0_first) (v0_second := .long f0_second) (v0_rightIsOne := .int (bI f0_rightIsOne)) (x1 := (3 : Int32)) (x2 := f0_place) (r0 := u_10) (hr0 := hu_11) (sz := H.size)) (cwV 2 hts gX6_keepLine_X6_fail rfl rfl rfl (by decide +kernel) ⟨Nat.le_of_ble_eq_true rfl, Nat.le_of_ble_eq_true rfl⟩) (kx_preV hEV hP hD [0] rfl (by decide) (k0 := 0) (ci := 6) rfl rfl rfl) rfl rfl hl.1 rfl (lv_room (Nat.le_of_ble_eq_true rfl)) dX6_keepLine_76 ⟨Nat.le_of_ble_eq_true rfl, Nat.le_of_ble_eq_true rfl⟩) (fun _ H locs _ hP hD hS => ?_)
        refine lv_if_eq (tgt := 86) hx hb dX6_keepLine_79 (by decide) (fun c_12 => ?_) (fun c_12 => ?_)
        · have k_13 : ¬ (u_10.1 = true) := (kx_z c_12)
          have h := co_f k_13 h
          refine lv_iconst (v := (0 : Int32)) hx hb dX6_keepLine_86 (by decide) ?_
          have h := Option.some.inj h
          subst h
          subst hQ
          exact W.zret (v := bI false) hx hb hr (bI_n false) (fun t ht hW => ⟨⟨bI false, (), rfl, ⟨rfl, trivial⟩, by rw [ht]; exact hP, hD⟩, hS.F ht⟩) hS.2.2 dX6_keepLine_87
        · have k_13 : u_10.1 = true := (kx_nz c_12)
          have h := co_t k_13 h
          refine lv_iconst (v := (1 : Int32)) hx hb dX6_keepLine_82 (by decide) ?_
          refine lv_goto (tgt := 87) hx hb dX6_keepLine_83 (by decide) ?_
          have h := Option.some.inj h
          subst h
          subst hQ
          exact W.zret (v := bI true) hx hb hr (bI_n true) (fun t ht hW => ⟨⟨bI true, (), rfl, ⟨rfl, trivial⟩, by rw [ht]; exact hP, hD⟩, hS.F ht⟩) hS.2.2 dX6_keepLine_87
  · have k_2 : f0_isEquation = true := (kx_nz c_1)
    have h := co_t k_2 h
    refine lv_aload_n hx hb dX6_keepLine_9 rfl (lv_at hl 2 rfl) ?_
    refine lv_aload_n hx hb dX6_keepLine_10 rfl (lv_at hl 1 rfl) ?_
    refine va_get (D := D) (ci := 6) (v := .int (bI f0_rightIsOne)) (C := RX6) (T := TX6) (N := 8) hx hb hts in_X6_keepLine_X6 hown hK hP 0 rfl rfl 7 (by decide) lk_4 (fun _ h9 => h9) rfl dX6_keepLine_11 ?_
    refine lv_if_eq (tgt := 28) hx hb dX6_keepLine_14 (by decide) (fun c_14 => ?_) (fun c_14 => ?_)
    · have k_15 : ¬ (f0_rightIsOne = true) := (kx_z c_14)
      have h := co_f k_15 h
      refine lv_aload_n hx hb dX6_keepLine_28 rfl (lv_at hl 1 rfl) ?_
      refine va_get (D := D) (ci := 6) (v := .long f0_first) (C := RX6) (T := TX6) (N := 8) hx hb hts in_X6_keepLine_X6 hown hK hP 0 rfl rfl 5 (by decide) lk_1 (fun _ h9 => h9) rfl dX6_keepLine_29 ?_
      obtain ⟨u_16, hu_17, h⟩ := co_b h
      refine kx_i (ws' := fun _ => [(q0, .inr (6, [v0_bytes, v0_length, .int f0_fault, .int f0_place, .int (bI f0_isEquation), .long f0_first, .long f0_second, .int (bI f0_rightIsOne)])), (q1, .inr (4, [.ref q1_equations, .ref q1_yes, .ref q1_no, .int u_16.2.1, .int f1_clauseCount, v1_equationsBefore, v1_clausesBefore, v1_levelCount])), (q1_equations, .inl (cL, n1_equations, .inr (.inl u_16.2.2))), (q1_yes, .inl (cL, n1_yes, .inr (.inl h1_yes))), (q1_no, .inl (cL, n1_no, .inr (.inl h1_no)))]) hP hD hS hA [1, 2] [0, 3, 4] [0, 3, 4, 1, 2] rfl rfl (by decide) (by decide) (fun _ => rfl) (by decide) (va_runV (As := [.long f0_first]) (rest := []) ⟨hx, hb, hml, hown, hts⟩ (cm_X4_addEquation l D cI cL (q0 := q1) (q0_equations := q1_equations) (n0_equations := n1_equations) (f0_equationCount := f1_equationCount) (h0_equations := h1_equations) (v0_yes := .ref q1_yes) (v0_no := .ref q1_no) (v0_clauseCount := .int f1_clauseCount) (v0_equationsBefore := v1_equationsBefore) (v0_clausesBefore := v1_clausesBefore) (v0_levelCount := v1_levelCount) (x1 := f0_first) (r0 := u_16) (hr0 := hu_17) (sz := H.size)) (cwV 1 hts gX6_keepLine_X4_addEquation rfl rfl rfl (by decide +kernel) ⟨Nat.le_of_ble_eq_true rfl, Nat.le_of_ble_eq_true rfl⟩) (kx_preV hEV hP hD [1, 2] rfl (by decide) (k0 := 1) (ci := 4) rfl rfl rfl) rfl rfl hl.1 rfl (lv_room (Nat.le_of_ble_eq_true rfl)) dX6_keepLine_32 ⟨Nat.le_of_ble_eq_true rfl, Nat.le_of_ble_eq_true rfl⟩) (fun _ H locs _ hP hD hS => ?_)
      refine lv_istore_n (lv' := [(2, .int (bI u_16.1)), (0, .ref q0), (1, .ref q1)]) hx hb dX6_keepLine_35 rfl hl (by decide) rfl (fun ls hl => ?_)
      refine lv_goto (tgt := 66) hx hb dX6_keepLine_36 (by decide) ?_
      refine lv_iload_n hx hb dX6_keepLine_66 rfl (lv_at hl 0 rfl) ?_
      refine lv_if_ne (tgt := 82) hx hb dX6_keepLine_67 (by decide) (fun c_18 => ?_) (fun c_18 => ?_)
      · have k_19 : u_16.1 = true := (kx_nz c_18)
        have h := co_t k_19 h
        refine lv_iconst (v := (1 : Int32)) hx hb dX6_keepLine_82 (by decide) ?_
        refine lv_goto (tgt := 87) hx hb dX6_keepLine_83 (by decide) ?_
        have h := Option.some.inj h
        subst h
        subst hQ
        exact W.zret (v := bI true) hx hb hr (bI_n true) (fun t ht hW => ⟨⟨bI true, (), rfl, ⟨rfl, trivial⟩, by rw [ht]; exact hP, hD⟩, hS.F ht⟩) hS.2.2 dX6_keepLine_87
      · have k_19 : ¬ (u_16.1 = true) := (kx_z c_18)
        have h := co_f k_19 h
        refine lv_aload_n hx hb dX6_keepLine_70 rfl (lv_at hl 1 rfl) ?_
        refine lv_iconst (v := (3 : Int32)) hx hb dX6_keepLine_71 (by decide) ?_
        refine lv_aload_n hx hb dX6_keepLine_72 rfl (lv_at hl 1 rfl) ?_
        refine va_get (D := D) (ci := 6) (v := .int f0_place) (C := RX6) (T := TX6) (N := 8) hx hb hts in_X6_keepLine_X6 hown hK hP 0 rfl rfl 3 (by decide) lk_3 (fun _ h9 => h9) rfl dX6_keepLine_73 ?_
        obtain ⟨u_20, hu_21, h⟩ := co_b h
        refine kx_i (ws' := fun _ => [(q0, .inr (6, [v0_bytes, v0_length, .int u_20.2.1, .int u_20.2.2, .int (bI f0_isEquation), .long f0_first, .long f0_second, .int (bI f0_rightIsOne)])), (q1, .inr (4, [.ref q1_equations, .ref q1_yes, .ref q1_no, .int u_16.2.1, .int f1_clauseCount, v1_equationsBefore, v1_clausesBefore, v1_levelCount])), (q1_equations, .inl (cL, n1_equations, .inr (.inl u_16.2.2))), (q1_yes, .inl (cL, n1_yes, .inr (.inl h1_yes))), (q1_no, .inl (cL, n1_no, .inr (.inl h1_no)))]) hP hD hS hA [0] [1, 2, 3, 4] [4, 0, 1, 2, 3] rfl rfl (by decide) (by decide) (fun _ => rfl) (by decide) (va_runV (As := [.int (3 : Int32), .int f0_place]) (rest := []) ⟨hx, hb, hml, hown, hts⟩ (cm_X6_fail l D cI cL (q0 := q0) (f0_fault := f0_fault) (f0_place := f0_place) (v0_bytes := v0_bytes) (v0_length := v0_length) (v0_isEquation := .int (bI f0_isEquation)) (v0_first := .long f0_first) (v0_second := .long f0_second) (v0_rightIsOne := .int (bI f0_rightIsOne)) (x1 := (3 : Int32)) (x2 := f0_place) (r0 := u_20) (hr0 := hu_21) (sz := H.size)) (cwV 2 hts gX6_keepLine_X6_fail rfl rfl rfl (by decide +kernel) ⟨Nat.le_of_ble_eq_true rfl, Nat.le_of_ble_eq_true rfl⟩) (kx_preV hEV hP hD [0] rfl (by decide) (k0 := 0) (ci := 6) rfl rfl rfl) rfl rfl hl.1 rfl (lv_room (Nat.le_of_ble_eq_true rfl)) dX6_keepLine_76 ⟨Nat.le_of_ble_eq_true rfl, Nat.le_of_ble_eq_true rfl⟩) (fun _ H locs _ hP hD hS => ?_)
        refine lv_if_eq (tgt := 86) hx hb dX6_keepLine_79 (by decide) (fun c_22 => ?_) (fun c_22 => ?_)
        · have k_23 : ¬ (u_20.1 = true) := (kx_z c_22)
          have h := co_f k_23 h
          refine lv_iconst (v := (0 : Int32)) hx hb dX6_keepLine_86 (by decide) ?_
          have h := Option.some.inj h
          subst h
          subst hQ
          exact W.zret (v := bI false) hx hb hr (bI_n false) (fun t ht hW => ⟨⟨bI false, (), rfl, ⟨rfl, trivial⟩, by rw [ht]; exact hP, hD⟩, hS.F ht⟩) hS.2.2 dX6_keepLine_87
        · have k_23 : u_20.1 = true := (kx_nz c_22)
          have h := co_t k_23 h
          refine lv_iconst (v := (1 : Int32)) hx hb dX6_keepLine_82 (by decide) ?_
          refine lv_goto (tgt := 87) hx hb dX6_keepLine_83 (by decide) ?_
          have h := Option.some.inj h
          subst h
          subst hQ
          exact W.zret (v := bI true) hx hb hr (bI_n true) (fun t ht hW => ⟨⟨bI true, (), rfl, ⟨rfl, trivial⟩, by rw [ht]; exact hP, hD⟩, hS.F ht⟩) hS.2.2 dX6_keepLine_87
    · have k_15 : f0_rightIsOne = true := (kx_nz c_14)
      have h := co_t k_15 h
      refine lv_aload_n hx hb dX6_keepLine_17 rfl (lv_at hl 1 rfl) ?_
      refine va_get (D := D) (ci := 6) (v := .long f0_first) (C := RX6) (T := TX6) (N := 8) hx hb hts in_X6_keepLine_X6 hown hK hP 0 rfl rfl 5 (by decide) lk_1 (fun _ h9 => h9) rfl dX6_keepLine_18 ?_
      refine lv_ldc2 hx hb hown lk_5 dX6_keepLine_21 ?_
      refine lv_lor hx hb dX6_keepLine_24 ?_
      refine lv_goto (tgt := 32) hx hb dX6_keepLine_25 (by decide) ?_
      obtain ⟨u_24, hu_25, h⟩ := co_b h
      refine kx_i (ws' := fun _ => [(q0, .inr (6, [v0_bytes, v0_length, .int f0_fault, .int f0_place, .int (bI f0_isEquation), .long f0_first, .long f0_second, .int (bI f0_rightIsOne)])), (q1, .inr (4, [.ref q1_equations, .ref q1_yes, .ref q1_no, .int u_24.2.1, .int f1_clauseCount, v1_equationsBefore, v1_clausesBefore, v1_levelCount])), (q1_equations, .inl (cL, n1_equations, .inr (.inl u_24.2.2))), (q1_yes, .inl (cL, n1_yes, .inr (.inl h1_yes))), (q1_no, .inl (cL, n1_no, .inr (.inl h1_no)))]) hP hD hS hA [1, 2] [0, 3, 4] [0, 3, 4, 1, 2] rfl rfl (by decide) (by decide) (fun _ => rfl) (by decide) (va_runV (As := [.long (f0_first ||| (4611686018427387904 : Int64))]) (rest := []) ⟨hx, hb, hml, hown, hts⟩ (cm_X4_addEquation l D cI cL (q0 := q1) (q0_equations := q1_equations) (n0_equations := n1_equations) (f0_equationCount := f1_equationCount) (h0_equations := h1_equations) (v0_yes := .ref q1_yes) (v0_no := .ref q1_no) (v0_clauseCount := .int f1_clauseCount) (v0_equationsBefore := v1_equationsBefore) (v0_clausesBefore := v1_clausesBefore) (v0_levelCount := v1_levelCount) (x1 := f0_first ||| (4611686018427387904 : Int64)) (r0 := u_24) (hr0 := hu_25) (sz := H.size)) (cwV 1 hts gX6_keepLine_X4_addEquation rfl rfl rfl (by decide +kernel) ⟨Nat.le_of_ble_eq_true rfl, Nat.le_of_ble_eq_true rfl⟩) (kx_preV hEV hP hD [1, 2] rfl (by decide) (k0 := 1) (ci := 4) rfl rfl rfl) rfl rfl hl.1 rfl (lv_room (Nat.le_of_ble_eq_true rfl)) dX6_keepLine_32 ⟨Nat.le_of_ble_eq_true rfl, Nat.le_of_ble_eq_true rfl⟩) (fun _ H locs _ hP hD hS => ?_)
      refine lv_istore_n (lv' := [(2, .int (bI u_24.1)), (0, .ref q0), (1, .ref q1)]) hx hb dX6_keepLine_35 rfl hl (by decide) rfl (fun ls hl => ?_)
      refine lv_goto (tgt := 66) hx hb dX6_keepLine_36 (by decide) ?_
      refine lv_iload_n hx hb dX6_keepLine_66 rfl (lv_at hl 0 rfl) ?_
      refine lv_if_ne (tgt := 82) hx hb dX6_keepLine_67 (by decide) (fun c_26 => ?_) (fun c_26 => ?_)
      · have k_27 : u_24.1 = true := (kx_nz c_26)
        have h := co_t k_27 h
        refine lv_iconst (v := (1 : Int32)) hx hb dX6_keepLine_82 (by decide) ?_
        refine lv_goto (tgt := 87) hx hb dX6_keepLine_83 (by decide) ?_
        have h := Option.some.inj h
        subst h
        subst hQ
        exact W.zret (v := bI true) hx hb hr (bI_n true) (fun t ht hW => ⟨⟨bI true, (), rfl, ⟨rfl, trivial⟩, by rw [ht]; exact hP, hD⟩, hS.F ht⟩) hS.2.2 dX6_keepLine_87
      · have k_27 : ¬ (u_24.1 = true) := (kx_z c_26)
        have h := co_f k_27 h
        refine lv_aload_n hx hb dX6_keepLine_70 rfl (lv_at hl 1 rfl) ?_
        refine lv_iconst (v := (3 : Int32)) hx hb dX6_keepLine_71 (by decide) ?_
        refine lv_aload_n hx hb dX6_keepLine_72 rfl (lv_at hl 1 rfl) ?_
        refine va_get (D := D) (ci := 6) (v := .int f0_place) (C := RX6) (T := TX6) (N := 8) hx hb hts in_X6_keepLine_X6 hown hK hP 0 rfl rfl 3 (by decide) lk_3 (fun _ h9 => h9) rfl dX6_keepLine_73 ?_
        obtain ⟨u_28, hu_29, h⟩ := co_b h
        refine kx_i (ws' := fun _ => [(q0, .inr (6, [v0_bytes, v0_length, .int u_28.2.1, .int u_28.2.2, .int (bI f0_isEquation), .long f0_first, .long f0_second, .int (bI f0_rightIsOne)])), (q1, .inr (4, [.ref q1_equations, .ref q1_yes, .ref q1_no, .int u_24.2.1, .int f1_clauseCount, v1_equationsBefore, v1_clausesBefore, v1_levelCount])), (q1_equations, .inl (cL, n1_equations, .inr (.inl u_24.2.2))), (q1_yes, .inl (cL, n1_yes, .inr (.inl h1_yes))), (q1_no, .inl (cL, n1_no, .inr (.inl h1_no)))]) hP hD hS hA [0] [1, 2, 3, 4] [4, 0, 1, 2, 3] rfl rfl (by decide) (by decide) (fun _ => rfl) (by decide) (va_runV (As := [.int (3 : Int32), .int f0_place]) (rest := []) ⟨hx, hb, hml, hown, hts⟩ (cm_X6_fail l D cI cL (q0 := q0) (f0_fault := f0_fault) (f0_place := f0_place) (v0_bytes := v0_bytes) (v0_length := v0_length) (v0_isEquation := .int (bI f0_isEquation)) (v0_first := .long f0_first) (v0_second := .long f0_second) (v0_rightIsOne := .int (bI f0_rightIsOne)) (x1 := (3 : Int32)) (x2 := f0_place) (r0 := u_28) (hr0 := hu_29) (sz := H.size)) (cwV 2 hts gX6_keepLine_X6_fail rfl rfl rfl (by decide +kernel) ⟨Nat.le_of_ble_eq_true rfl, Nat.le_of_ble_eq_true rfl⟩) (kx_preV hEV hP hD [0] rfl (by decide) (k0 := 0) (ci := 6) rfl rfl rfl) rfl rfl hl.1 rfl (lv_room (Nat.le_of_ble_eq_true rfl)) dX6_keepLine_76 ⟨Nat.le_of_ble_eq_true rfl, Nat.le_of_ble_eq_true rfl⟩) (fun _ H locs _ hP hD hS => ?_)
        refine lv_if_eq (tgt := 86) hx hb dX6_keepLine_79 (by decide) (fun c_30 => ?_) (fun c_30 => ?_)
        · have k_31 : ¬ (u_28.1 = true) := (kx_z c_30)
          have h := co_f k_31 h
          refine lv_iconst (v := (0 : Int32)) hx hb dX6_keepLine_86 (by decide) ?_
          have h := Option.some.inj h
          subst h
          subst hQ
          exact W.zret (v := bI false) hx hb hr (bI_n false) (fun t ht hW => ⟨⟨bI false, (), rfl, ⟨rfl, trivial⟩, by rw [ht]; exact hP, hD⟩, hS.F ht⟩) hS.2.2 dX6_keepLine_87
        · have k_31 : u_28.1 = true := (kx_nz c_30)
          have h := co_t k_31 h
          refine lv_iconst (v := (1 : Int32)) hx hb dX6_keepLine_82 (by decide) ?_
          refine lv_goto (tgt := 87) hx hb dX6_keepLine_83 (by decide) ?_
          have h := Option.some.inj h
          subst h
          subst hQ
          exact W.zret (v := bI true) hx hb hr (bI_n true) (fun t ht hW => ⟨⟨bI true, (), rfl, ⟨rfl, trivial⟩, by rw [ht]; exact hP, hD⟩, hS.F ht⟩) hS.2.2 dX6_keepLine_87
