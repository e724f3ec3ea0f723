theorem in_X1_build_X1 : ∀ w ∈ wsX10, w ∈ wsX1_build := by decide +kernel
theorem in_X1_build_X4 : ∀ w ∈ wsX40, w ∈ wsX1_build := by decide +kernel
theorem lk_0_X1_build : Cond.fieldLink RX1 15 "ParityClauses$GateList" "size" "I" ∈ wsX1_build := by decide +kernel
theorem lk_1_X1_build : Cond.fieldLink RX1 19 "ParityClauses$Store" "clauseCount" "I" ∈ wsX1_build := by decide +kernel
abbrev rm_X1_build : Room := { frames := 2, cells := 0, slots := 0, locals := 54 }
set_option maxHeartbeats 4000000 in
set_option maxRecDepth 100000 in
theorem cm_X1_build (l : Launch) (D : va_G) (cI cL : ClassId) (q0 q0_found q1 q1_yes q1_no : Nat) (n0_found n1_yes n1_no : Nat) (f0_size : Int32) (h0_found : Nat → Int64) (f1_clauseCount : Int32) (h1_yes : Nat → Int64) (h1_no : Nat → Int64) (v1_equations v1_equationCount v1_equationsBefore v1_clausesBefore v1_levelCount : Value) (r0 : Int32 × (Nat → Int64)) (hr0 : D_X1_build f0_size n0_found h0_found f1_clauseCount n1_yes h1_yes n1_no h1_no = some r0) (sz : Nat) : Met l yX1_build wsX1_build rm_X1_build (PcW D cI cL [.ref q0, .ref q1] [(q0, .inr (1, [.ref q0_found, .int f0_size])), (q0_found, .inl (cL, n0_found, .inr (.inl h0_found))), (q1, .inr (4, [v1_equations, .ref q1_yes, .ref q1_no, v1_equationCount, .int f1_clauseCount, v1_equationsBefore, v1_clausesBefore, v1_levelCount])), (q1_yes, .inl (cL, n1_yes, .inr (.inl h1_yes))), (q1_no, .inl (cL, n1_no, .inr (.inl h1_no)))] sz) (QvW D [(q0, .inr (1, [.ref q0_found, .int f0_size])), (q0_found, .inl (cL, n0_found, .inr (.inl h0_found))), (q1, .inr (4, [v1_equations, .ref q1_yes, .ref q1_no, v1_equationCount, .int f1_clauseCount, v1_equationsBefore, v1_clausesBefore, v1_levelCount])), (q1_yes, .inl (cL, n1_yes, .inr (.inl h1_yes))), (q1_no, .inl (cL, n1_no, .inr (.inl h1_no)))] (fun _ : Unit => [(q0, .inr (1, [.ref q0_found, .int r0.1])), (q0_found, .inl (cL, n0_found, .inr (.inl r0.2))), (q1, .inr (4, [v1_equations, .ref q1_yes, .ref q1_no, v1_equationCount, .int f1_clauseCount, v1_equationsBefore, v1_clausesBefore, v1_levelCount])), (q1_yes, .inl (cL, n1_yes, .inr (.inl h1_yes))), (q1_no, .inl (cL, n1_no, .inr (.inl h1_no)))]) tU sz) 0 0 (va_A [(q0, .inr (1, [.ref q0_found, .int f0_size])), (q0_found, .inl (cL, n0_found, .inr (.inl h0_found))), (q1, .inr (4, [v1_equations, .ref q1_yes, .ref q1_no, v1_equationCount, .int f1_clauseCount, v1_equationsBefore, v1_clausesBefore, v1_levelCount])), (q1_yes, .inl (cL, n1_yes, .inr (.inl h1_yes))), (q1_no, .inl (cL, n1_no, .inr (.inl h1_no)))] sz) := by
  refine Met.ofW (cc := cX1_build) (maxL := 5) (ret := none) (by decide) rfl ?_
  intro p e s m args below meth c s₁ B hml hv
  obtain ⟨hargs, hsz, hP, hEV, hD0⟩ := hv
  have hx := B.exec
  have hb := B.bytes
  have hr := B.returns
  have hts := atoms_spec (ws := wsX1_build) B.pre
  have hown : s.vm.findClass RX1 = some m.cls := findClass_of_methodNamed B.named
  have hlocks := B.notSynchronized
  have hK := hEV.K
  have lk_0 := hts _ lk_0_X1_build
  have lk_1 := hts _ lk_1_X1_build
  subst hsz
  unfold QvW PoW
  have hD := hD0.self (sz := s.heap.size)
  generalize hAe : va_A [(q0, .inr (1, [.ref q0_found, .int f0_size])), (q0_found, .inl (cL, n0_found, .inr (.inl h0_found))), (q1, .inr (4, [v1_equations, .ref q1_yes, .ref q1_no, v1_equationCount, .int f1_clauseCount, v1_equationsBefore, v1_clausesBefore, v1_levelCount])), (q1_yes, .inl (cL, n1_yes, .inr (.inl h1_yes))), (q1_no, .inl (cL, n1_no, .inr (.inl h1_no)))] s.heap.size = A at hD ⊢
  have hA : ∀ q : Nat, s.heap.size ≤ q → A q := fun q h => by rw [← hAe]; exact Or.inr h
  have hent : entryFrame m args 5 = entryFrame m ([.ref q0, .ref q1] : List Value).toArray 5 := by rw [hargs]
  rw [hent]
  refine kx_Q (fun Q hQ => ?_)
  refine kx_H (fun H hH => ?_)
  have hP : va_P D vwCl [(q0, .inr (1, [.ref q0_found, .int f0_size])), (q0_found, .inl (cL, n0_found, .inr (.inl h0_found))), (q1, .inr (4, [v1_equations, .ref q1_yes, .ref q1_no, v1_equationCount, .int f1_clauseCount, v1_equationsBefore, v1_clausesBefore, v1_levelCount])), (q1_yes, .inl (cL, n1_yes, .inr (.inl h1_yes))), (q1_no, .inl (cL, n1_no, .inr (.inl h1_no)))] H := by rw [hH]; exact hP
  have hS : va_S A s.heap H [] := by rw [hH]; exact va_S.rf
  have hl := lv_entry ([.ref q0, .ref q1]) (n := 5) (Nat.le_of_ble_eq_true rfl)
  rw [lg_entry_eq]
  generalize (lg_sl ([.ref q0, .ref q1]) ++ List.replicate (5 - (lg_sl ([.ref q0, .ref q1])).length) Slot.unset).toArray = ls at hl ⊢
  have hl : lv_has ls 5 [(0, .ref q0), (1, .ref q1)] := hl
  have hloop : ∀ n9 : Nat, (∀ (x2 : Int64) (x4 : Int32) (f0_size : Int32) (h0_found : Nat → Int64), iter (st_X1_build n0_found f1_clauseCount n1_yes h1_yes n1_no h1_no) n9 (x2, x4, f0_size, h0_found) = some r0 → ∀ (H : Heap) (locs : List Loc) (ls : Array Slot), va_P D vwCl [(q0, .inr (1, [.ref q0_found, .int f0_size])), (q0_found, .inl (cL, n0_found, .inr (.inl h0_found))), (q1, .inr (4, [v1_equations, .ref q1_yes, .ref q1_no, v1_equationCount, .int f1_clauseCount, v1_equationsBefore, v1_clausesBefore, v1_levelCount])), (q1_yes, .inl (cL, n1_yes, .inr (.inl h1_yes))), (q1_no, .inl (cL, n1_no, .inr (.inl h1_no)))] H → va_D A [(q0, .inr (1, [.ref q0_found, .int f0_size])), (q0_found, .inl (cL, n0_found, .inr (.inl h0_found))), (q1, .inr (4, [v1_equations, .ref q1_yes, .ref q1_no, v1_equationCount, .int f1_clauseCount, v1_equationsBefore, v1_clausesBefore, v1_levelCount])), (q1_yes, .inl (cL, n1_yes, .inr (.inl h1_yes))), (q1_no, .inl (cL, n1_no, .inr (.inl h1_no)))] → va_S A s.heap H locs → lv_has ls 5 [(0, .ref q0), (1, .ref q1), (2, .long x2), (4, .int x4)] → W p l e (headSpec wsX1_build rm_X1_build).room s m args below meth c H locs 0 0 Q (F0 m 10 ls [])) := by
    intro n9
    induction n9 with
    | zero => exact (fun _ _ _ _ h => nomatch h)
    | succ n9 ih =>
      intro x2 x4 f0_size h0_found h H locs ls hP hD hS hl
      have h : run1 (iter (st_X1_build n0_found f1_clauseCount n1_yes h1_yes n1_no h1_no) n9) (b_X1_build_10 n0_found f1_clauseCount n1_yes h1_yes n1_no h1_no x2 x4 f0_size h0_found) = some r0 := h
      unfold b_X1_build_10 at h
      refine lv_iload hx hb dX1_build_10 (lv_at hl 3 rfl) ?_
      refine lv_aload_n hx hb dX1_build_12 rfl (lv_at hl 1 rfl) ?_
      refine va_get (D := D) (ci := 4) (v := .int f1_clauseCount) (C := RX4) (T := TX4) (N := 8) hx hb hts in_X1_build_X4 hown hK hP 2 rfl rfl 4 (by decide) lk_1 (fun _ h9 => h9) rfl dX1_build_13 ?_
      refine lv_icmp_ge (tgt := 44) hx hb dX1_build_16 (by decide) (fun c_1 => ?_) (fun c_1 => ?_)
      · have k_2 : f1_clauseCount ≤ x4 := c_1
        have h := cw_t k_2 h
        have h := Option.some.inj h
        subst h
        subst hQ
        exact W.vret hx hb hr (fun t ht hW => ⟨⟨(), rfl, trivial, by rw [ht]; exact hP, hD⟩, hS.F ht⟩) hS.2.2 dX1_build_44
      · have k_2 : ¬ (f1_clauseCount ≤ x4) := c_1
        have h := cw_f k_2 h
        refine lv_aload_n hx hb dX1_build_19 rfl (lv_at hl 1 rfl) ?_
        refine lv_lload_n hx hb dX1_build_20 rfl (lv_at hl 2 rfl) ?_
        obtain ⟨u_3, hu_4, h⟩ := cw_b h
        refine kx_l (ws' := fun _ => [(q0, .inr (1, [.ref q0_found, .int f0_size])), (q0_found, .inl (cL, n0_found, .inr (.inl h0_found))), (q1, .inr (4, [v1_equations, .ref q1_yes, .ref q1_no, v1_equationCount, .int f1_clauseCount, v1_equationsBefore, v1_clausesBefore, v1_levelCount])), (q1_yes, .inl (cL, n1_yes, .inr (.inl h1_yes))), (q1_no, .inl (cL, n1_no, .inr (.inl h1_no)))]) hP hD hS hA [2, 3, 4] [0, 1] [0, 1, 2, 3, 4] rfl rfl (by decide) (by decide) (fun _ => rfl) (by decide) (va_runS (As := [.ref q1, .long x2]) (rest := []) ⟨hx, hb, hml, hown, hts⟩ (cm_X1_leastSetAbove l D cI cL (q0 := q1) (q0_yes := q1_yes) (q0_no := q1_no) (n0_yes := n1_yes) (n0_no := n1_no) (f0_clauseCount := f1_clauseCount) (h0_yes := h1_yes) (h0_no := h1_no) (v0_equations := v1_equations) (v0_equationCount := v1_equationCount) (v0_equationsBefore := v1_equationsBefore) (v0_clausesBefore := v1_clausesBefore) (v0_levelCount := v1_levelCount) (x1 := x2) (r0 := u_3) (hr0 := hu_4) (sz := H.size)) (va_cwS 2 hts gX1_build_X1_leastSetAbove rfl rfl rfl (by decide +kernel) ⟨Nat.le_of_ble_eq_true rfl, Nat.le_of_ble_eq_true rfl⟩) (kx_preS hEV hP hD [2, 3, 4] rfl (by decide)) rfl rfl hl.1 rfl (lv_room (Nat.le_of_ble_eq_true rfl)) dX1_build_21 ⟨Nat.le_of_ble_eq_true rfl, Nat.le_of_ble_eq_true rfl⟩) (fun _ H locs _ hP hD hS => ?_)
        refine lv_lstore_n (lv' := [(2, .long u_3), (0, .ref q0), (1, .ref q1), (4, .int x4)]) hx hb dX1_build_24 rfl hl (by decide) rfl (fun ls hl => ?_)
        refine lv_lload_n hx hb dX1_build_25 rfl (lv_at hl 0 rfl) ?_
        refine lv_lconst (v := (0 : Int64)) hx hb dX1_build_26 (by decide) ?_
        refine W.lcmp hx hb dX1_build_27 ?_
        refine lv_if_ne (tgt := 32) hx hb dX1_build_28 (by decide) (fun c_5 => ?_) (fun c_5 => ?_)
        · have k_6 : ¬ (u_3 = (0 : Int64)) := (fun z9 => c_5 ((lg_cmp_eq _ _).mpr z9))
          have h := cw_f k_6 h
          refine lv_aload_n hx hb dX1_build_32 rfl (lv_at hl 1 rfl) ?_
          refine lv_aload_n hx hb dX1_build_33 rfl (lv_at hl 2 rfl) ?_
          refine lv_lload_n hx hb dX1_build_34 rfl (lv_at hl 0 rfl) ?_
          obtain ⟨u_7, hu_8, h⟩ := cw_b h
          refine kx_v (ws' := fun _ => [(q0, .inr (1, [.ref q0_found, .int u_7.1])), (q0_found, .inl (cL, n0_found, .inr (.inl u_7.2))), (q1, .inr (4, [v1_equations, .ref q1_yes, .ref q1_no, v1_equationCount, .int f1_clauseCount, v1_equationsBefore, v1_clausesBefore, v1_levelCount])), (q1_yes, .inl (cL, n1_yes, .inr (.inl h1_yes))), (q1_no, .inl (cL, n1_no, .inr (.inl h1_no)))]) hP hD hS hA [0, 1, 2, 3, 4] [] [0, 1, 2, 3, 4] rfl rfl (by decide) (by decide) (fun _ => rfl) (by decide) (va_runV (As := [.ref q1, .long u_3]) (rest := []) ⟨hx, hb, hml, hown, hts⟩ (cm_X1_addGatesOf l D cI cL (q0 := q0) (q0_found := q0_found) (q1 := q1) (q1_yes := q1_yes) (q1_no := q1_no) (n0_found := n0_found) (n1_yes := n1_yes) (n1_no := n1_no) (f0_size := f0_size) (h0_found := h0_found) (f1_clauseCount := f1_clauseCount) (h1_yes := h1_yes) (h1_no := h1_no) (v1_equations := v1_equations) (v1_equationCount := v1_equationCount) (v1_equationsBefore := v1_equationsBefore) (v1_clausesBefore := v1_clausesBefore) (v1_levelCount := v1_levelCount) (x2 := u_3) (r0 := u_7) (hr0 := hu_8) (sz := H.size)) (cwV 2 hts gX1_build_X1_addGatesOf rfl rfl rfl (by decide +kernel) ⟨Nat.le_of_ble_eq_true rfl, Nat.le_of_ble_eq_true rfl⟩) (kx_preV hEV hP hD [0, 1, 2, 3, 4] rfl (by decide) (k0 := 0) (ci := 1) rfl rfl rfl) rfl rfl hl.1 rfl (lv_room (Nat.le_of_ble_eq_true rfl)) dX1_build_35 ⟨Nat.le_of_ble_eq_true rfl, Nat.le_of_ble_eq_true rfl⟩) (fun _ H locs _ hP hD hS => ?_)
          refine lv_iinc (v := x4 + (1 : Int32)) (lv' := [(4, .int (x4 + (1 : Int32))), (2, .long u_3), (0, .ref q0), (1, .ref q1)]) hx hb dX1_build_38 hl (k := 3) rfl rfl (by decide) rfl (fun ls hl => ?_)
          refine lv_goto (tgt := 10) hx hb dX1_build_41 (by decide) ?_
          exact ih _ _ _ _ h _ _ _ hP hD hS (lv_sub hl [2, 3, 1, 0] rfl)
        · have k_6 : u_3 = (0 : Int64) := ((lg_cmp_eq _ _).mp c_5)
          have h := cw_t k_6 h
          have h := Option.some.inj h
          subst h
          subst hQ
          exact W.vret hx hb hr (fun t ht hW => ⟨⟨(), rfl, trivial, by rw [ht]; exact hP, hD⟩, hS.F ht⟩) hS.2.2 dX1_build_31
  have h := hr0
  unfold D_X1_build at h
  refine lv_aload_n hx hb dX1_build_0 rfl (lv_at hl 0 rfl) ?_
  refine lv_iconst (v := (0 : Int32)) hx hb dX1_build_1 (by decide) ?_
  refine va_put (D := D) (ci := 1) (v := .int (0 : Int32)) (ty := .int) (C := RX1) (T := TX1) (N := 2) hx hb hts in_X1_build_X1 tyX1 tyX1_ok nmX1 hown hK hP hD hS 0 rfl rfl 1 (by decide) lk_0 (fun _ h9 => h9) rfl (by decide +kernel) rfl rfl (Nat.le_of_ble_eq_true rfl) dX1_build_2 (fun H locs hP hD hS => ?_)
  have hP : va_P D vwCl [(q0, .inr (1, [.ref q0_found, .int (0 : Int32)])), (q0_found, .inl (cL, n0_found, .inr (.inl h0_found))), (q1, .inr (4, [v1_equations, .ref q1_yes, .ref q1_no, v1_equationCount, .int f1_clauseCount, v1_equationsBefore, v1_clausesBefore, v1_levelCount])), (q1_yes, .inl (cL, n1_yes, .inr (.inl h1_yes))), (q1_no, .inl (cL, n1_no, .inr (.inl h1_no)))] H := hP
  have hD : va_D A [(q0, .inr (1, [.ref q0_found, .int (0 : Int32)])), (q0_found, .inl (cL, n0_found, .inr (.inl h0_found))), (q1, .inr (4, [v1_equations, .ref q1_yes, .ref q1_no, v1_equationCount, .int f1_clauseCount, v1_equationsBefore, v1_clausesBefore, v1_levelCount])), (q1_yes, .inl (cL, n1_yes, .inr (.inl h1_yes))), (q1_no, .inl (cL, n1_no, .inr (.inl h1_no)))] := hD
  refine lv_lconst (v := (0 : Int64)) hx hb dX1_build_5 (by decide) ?_
  refine lv_lstore_n (lv' := [(2, .long (0 : Int64)), (0, .ref q0), (1, .ref q1)]) hx hb dX1_build_6 rfl hl (by decide) rfl (fun ls hl => ?_)
  refine lv_iconst (v := (0 : Int32)) hx hb dX1_build_7 (by decide) ?_
  refine lv_istore (lv' := [(4, .int (0 : Int32)), (2, .long (0 : Int64)), (0, .ref q0), (1, .ref q1)]) hx hb dX1_build_8 hl (by decide) rfl (fun ls hl => ?_)
  obtain ⟨n9, hn9⟩ := runw_some h
  exact (hloop n9) _ _ _ _ hn9 _ _ _ hP hD hS (lv_sub hl [2, 3, 1, 0] rfl)
theorem in_X2_reduced_X2 : ∀ w ∈ wsX20, w ∈ wsX2_reduced := by decide +kernel
theorem lk_0_X2_reduced : Cond.fieldLink RX2 9 "ParityClauses$Rows" "n" "I" ∈ wsX2_reduced := by decide +kernel
theorem lk_1_X2_reduced : Cond.fieldLink RX2 15 "ParityClauses$Rows" "byHead" "[J" ∈ wsX2_reduced := by decide +kernel
abbrev rm_X2_reduced : Room := { frames := 0, cells := 0, slots := 0, locals := 0 }
set_option maxHeartbeats 4000000 in
set_option maxRecDepth 100000 in
theorem cm_X2_reduced (l : Launch) (D : va_G) (cI cL : ClassId) (q0 q0_byHead : Nat) (n0_byHead : Nat) (f0_n : Int32) (h0_byHead : Nat → Int64) (v0_impossible : Value) (x1 : Int64) (r0 : Int64) (hr0 : D_X2_reduced f0_n n0_byHead h0_byHead x1 = some r0) (sz : Nat) : Met l yX2_reduced wsX2_reduced rm_X2_reduced (PcW D cI cL [.ref q0, .long x1] [(q0, .inr (2, [.int f0_n, .ref q0_byHead, v0_impossible])), (q0_byHead, .inl (cL, n0_byHead, .inr (.inl h0_byHead)))] sz) (QlW D [(q0, .inr (2, [.int f0_n, .ref q0_byHead, v0_impossible])), (q0_byHead, .inl (cL, n0_byHead, .inr (.inl h0_byHead)))] r0 (fun _ : Unit => [(q0, .inr (2, [.int f0_n, .ref q0_byHead, v0_impossible])), (q0_byHead, .inl (cL, n0_byHead, .inr (.inl h0_byHead)))]) tU sz) 0 0 (va_A [(q0, .inr (2, [.int f0_n, .ref q0_byHead, v0_impossible])), (q0_byHead, .inl (cL, n0_byHead, .inr (.inl h0_byHead)))] sz) := by
  refine Met.ofW (cc := cX2_reduced) (maxL := 6) (ret := (some .long)) (by decide) rfl ?_
  intro p e s m args below meth c s₁ B hml hv
  obtain ⟨hargs, hsz, hP, hEV, hD0⟩ := hv
  have hx := B.exec
  have hb := B.bytes
  have hr := B.returns
  have hts := atoms_spec (ws := wsX2_reduced) B.pre
  have hown : s.vm.findClass RX2 = some m.cls := findClass_of_methodNamed B.named
  have hlocks := B.notSynchronized
  have hK := hEV.K
  have lk_0 := hts _ lk_0_X2_reduced
  have lk_1 := hts _ lk_1_X2_reduced
  subst hsz
  unfold QlW PoW
  have hD := hD0.self (sz := s.heap.size)
  generalize hAe : va_A [(q0, .inr (2, [.int f0_n, .ref q0_byHead, v0_impossible])), (q0_byHead, .inl (cL, n0_byHead, .inr (.inl h0_byHead)))] s.heap.size = A at hD ⊢
  have hA : ∀ q : Nat, s.heap.size ≤ q → A q := fun q h => by rw [← hAe]; exact Or.inr h
  have hent : entryFrame m args 6 = entryFrame m ([.ref q0, .long x1] : List Value).toArray 6 := by rw [hargs]
  rw [hent]
  refine kx_Q (fun Q hQ => ?_)
  refine kx_H (fun H hH => ?_)
  have hP : va_P D vwCl [(q0, .inr (2, [.int f0_n, .ref q0_byHead, v0_impossible])), (q0_byHead, .inl (cL, n0_byHead, .inr (.inl h0_byHead)))] H := by rw [hH]; exact hP
  have hS : va_S A s.heap H [] := by rw [hH]; exact va_S.rf
  have hl := lv_entry ([.ref q0, .long x1]) (n := 6) (Nat.le_of_ble_eq_true rfl)
  rw [lg_entry_eq]
  generalize (lg_sl ([.ref q0, .long x1]) ++ List.replicate (6 - (lg_sl ([.ref q0, .long x1])).length) Slot.unset).toArray = ls at hl ⊢
  have hl : lv_has ls 6 [(0, .ref q0), (1, .long x1)] := hl
  have hloop : ∀ n9 : Nat, (∀ (x3 : Int64) (x5 : Int32), iter (st_X2_reduced f0_n n0_byHead h0_byHead x1) n9 (x3, x5) = some r0 → ∀ (H : Heap) (locs : List Loc) (ls : Array Slot), va_P D vwCl [(q0, .inr (2, [.int f0_n, .ref q0_byHead, v0_impossible])), (q0_byHead, .inl (cL, n0_byHead, .inr (.inl h0_byHead)))] H → va_D A [(q0, .inr (2, [.int f0_n, .ref q0_byHead, v0_impossible])), (q0_byHead, .inl (cL, n0_byHead, .inr (.inl h0_byHead)))] → va_S A s.heap H locs → lv_has ls 6 [(0, .ref q0), (1, .long x1), (3, .long x3), (5, .int x5)] → W p l e (headSpec wsX2_reduced rm_X2_reduced).room s m args below meth c H locs 0 0 Q (F0 m 5 ls [])) := by
    intro n9
    induction n9 with
    | zero => exact (fun _ _ h => nomatch h)
    | succ n9 ih =>
      intro x3 x5 h H locs ls hP hD hS hl
      have h : run1 (iter (st_X2_reduced f0_n n0_byHead h0_byHead x1) n9) (b_X2_reduced_5 f0_n n0_byHead h0_byHead x1 x3 x5) = some r0 := h
      unfold b_X2_reduced_5 at h
      refine lv_iload hx hb dX2_reduced_5 (lv_at hl 3 rfl) ?_
      refine lv_aload_n hx hb dX2_reduced_7 rfl (lv_at hl 0 rfl) ?_
      refine va_get (D := D) (ci := 2) (v := .int f0_n) (C := RX2) (T := TX2) (N := 3) hx hb hts in_X2_reduced_X2 hown hK hP 0 rfl rfl 0 (by decide) lk_0 (fun _ h9 => h9) rfl dX2_reduced_8 ?_
      refine lv_icmp_ge (tgt := 41) hx hb dX2_reduced_11 (by decide) (fun c_1 => ?_) (fun c_1 => ?_)
      · have k_2 : f0_n ≤ x5 := c_1
        have h := cw_t k_2 h
        refine lv_lload_n hx hb dX2_reduced_41 rfl (lv_at hl 2 rfl) ?_
        have h := Option.some.inj h
        subst h
        subst hQ
        exact W.lret (v := x3) hx hb hr (fun t ht hW => ⟨⟨x3, (), rfl, ⟨rfl, trivial⟩, by rw [ht]; exact hP, hD⟩, hS.F ht⟩) hS.2.2 dX2_reduced_42
      · have k_2 : ¬ (f0_n ≤ x5) := c_1
        have h := cw_f k_2 h
        refine lv_lload_n hx hb dX2_reduced_14 rfl (lv_at hl 1 rfl) ?_
        refine lv_iload hx hb dX2_reduced_15 (lv_at hl 3 rfl) ?_
        refine lv_lushr (v := jushr x1 x5) hx hb dX2_reduced_17 rfl ?_
        refine lv_lconst (v := (1 : Int64)) hx hb dX2_reduced_18 (by decide) ?_
        refine lv_land hx hb dX2_reduced_19 ?_
        refine lv_lconst (v := (0 : Int64)) hx hb dX2_reduced_20 (by decide) ?_
        refine W.lcmp hx hb dX2_reduced_21 ?_
        refine lv_if_eq (tgt := 35) hx hb dX2_reduced_22 (by decide) (fun c_3 => ?_) (fun c_3 => ?_)
        · have k_4 : ((jushr x1 x5) &&& (1 : Int64)) = (0 : Int64) := ((lg_cmp_eq _ _).mp c_3)
          have h := cw_t k_4 h
          refine lv_iinc (v := x5 + (1 : Int32)) (lv' := [(5, .int (x5 + (1 : Int32))), (0, .ref q0), (1, .long x1), (3, .long x3)]) hx hb dX2_reduced_35 hl (k := 3) rfl rfl (by decide) rfl (fun ls hl => ?_)
          refine lv_goto (tgt := 5) hx hb dX2_reduced_38 (by decide) ?_
          exact ih _ _ h _ _ _ hP hD hS (lv_sub hl [1, 2, 3, 0] rfl)
        · have k_4 : ¬ (((jushr x1 x5) &&& (1 : Int64)) = (0 : Int64)) := (fun z9 => c_3 ((lg_cmp_eq _ _).mpr z9))
          have h := cw_f k_4 h
          refine lv_lload_n hx hb dX2_reduced_25 rfl (lv_at hl 2 rfl) ?_
          refine lv_aload_n hx hb dX2_reduced_26 rfl (lv_at hl 0 rfl) ?_
          refine va_get (D := D) (ci := 2) (v := .ref q0_byHead) (C := RX2) (T := TX2) (N := 3) hx hb hts in_X2_reduced_X2 hown hK hP 0 rfl rfl 1 (by decide) lk_1 (fun _ h9 => h9) rfl dX2_reduced_27 ?_
          refine lv_iload hx hb dX2_reduced_30 (lv_at hl 3 rfl) ?_
          obtain ⟨b_5, h⟩ := cw_i h
          refine va_lald hx hb hK hP 1 1 rfl rfl b_5 dX2_reduced_32 ?_
          refine lv_lxor hx hb dX2_reduced_33 ?_
          refine lv_lstore_n (lv' := [(3, .long (x3 ^^^ (h0_byHead x5.toNatClampNeg))), (0, .ref q0), (1, .long x1), (5, .int x5)]) hx hb dX2_reduced_34 rfl hl (by decide) rfl (fun ls hl => ?_)
          refine lv_iinc (v := x5 + (1 : Int32)) (lv' := [(5, .int (x5 + (1 : Int32))), (3, .long (x3 ^^^ (h0_byHead x5.toNatClampNeg))), (0, .ref q0), (1, .long x1)]) hx hb dX2_reduced_35 hl (k := 3) rfl rfl (by decide) rfl (fun ls hl => ?_)
          refine lv_goto (tgt := 5) hx hb dX2_reduced_38 (by decide) ?_
          exact ih _ _ h _ _ _ hP hD hS (lv_sub hl [2, 3, 1, 0] rfl)
  have h := hr0
  unfold D_X2_reduced at h
  refine lv_lload_n hx hb dX2_reduced_0 rfl (lv_at hl 1 rfl) ?_
  refine lv_lstore_n (lv' := [(3, .long x1), (0, .ref q0), (1, .long x1)]) hx hb dX2_reduced_1 rfl hl (by decide) rfl (fun ls hl => ?_)
  refine lv_iconst (v := (0 : Int32)) hx hb dX2_reduced_2 (by decide) ?_
  refine lv_istore (lv' := [(5, .int (0 : Int32)), (3, .long x1), (0, .ref q0), (1, .long x1)]) hx hb dX2_reduced_3 hl (by decide) rfl (fun ls hl => ?_)
  obtain ⟨n9, hn9⟩ := runw_some h
  exact (hloop n9) _ _ hn9 _ _ _ hP hD hS (lv_sub hl [2, 3, 1, 0] rfl)
theorem in_X2_enter_X2 : ∀ w ∈ wsX20, w ∈ wsX2_enter := by decide +kernel
theorem lk_0_X2_enter : Cond.constantLong RX2 57 (-4611686018427387905) ∈ wsX2_enter := by decide +kernel
theorem lk_1_X2_enter : Cond.fieldLink RX2 9 "ParityClauses$Rows" "n" "I" ∈ wsX2_enter := by decide +kernel
theorem lk_2_X2_enter : Cond.fieldLink RX2 25 "ParityClauses$Rows" "impossible" "Z" ∈ wsX2_enter := by decide +kernel
theorem lk_3_X2_enter : Cond.fieldLink RX2 15 "ParityClauses$Rows" "byHead" "[J" ∈ wsX2_enter := by decide +kernel
abbrev rm_X2_enter : Room := { frames := 1, cells := 0, slots := 0, locals := 21 }
set_option maxHeartbeats 4000000 in
set_option maxRecDepth 100000 in
theorem cm_X2_enter (l : Launch) (D : va_G) (cI cL : ClassId) (q0 q0_byHead : Nat) (n0_byHead : Nat) (f0_n : Int32) (f0_impossible : Bool) (h0_byHead : Nat → Int64) (x1 : Int64) (r0 : Bool × (Nat → Int64)) (hr0 : D_X2_enter f0_n f0_impossible n0_byHead h0_byHead x1 = some r0) (sz : Nat) : Met l yX2_enter wsX2_enter rm_X2_enter (PcW D cI cL [.ref q0, .long x1] [(q0, .inr (2, [.int f0_n, .ref q0_byHead, .int (bI f0_impossible)])), (q0_byHead, .inl (cL, n0_byHead, .inr (.inl h0_byHead)))] sz) (QvW D [(q0, .inr (2, [.int f0_n, .ref q0_byHead, .int (bI f0_impossible)])), (q0_byHead, .inl (cL, n0_byHead, .inr (.inl h0_byHead)))] (fun _ : Unit => [(q0, .inr (2, [.int f0_n, .ref q0_byHead, .int (bI r0.1)])), (q0_byHead, .inl (cL, n0_byHead, .inr (.inl r0.2)))]) tU sz) 0 0 (va_A [(q0, .inr (2, [.int f0_n, .ref q0_byHead, .int (bI f0_impossible)])), (q0_byHead, .inl (cL, n0_byHead, .inr (.inl h0_byHead)))] sz) := by
  refine Met.ofW (cc := cX2_enter) (maxL := 7) (ret := none) (by decide) rfl ?_
  intro p e s m args below meth c s₁ B hml hv
  obtain ⟨hargs, hsz, hP, hEV, hD0⟩ := hv
  have hx := B.exec
  have hb := B.bytes
  have hr := B.returns
  have hts := atoms_spec (ws := wsX2_enter) B.pre
  have hown : s.vm.findClass RX2 = some m.cls := findClass_of_methodNamed B.named
  have hlocks := B.notSynchronized
  have hK := hEV.K
  have lk_0 := hts _ lk_0_X2_enter
  have lk_1 := hts _ lk_1_X2_enter
  have lk_2 := hts _ lk_2_X2_enter
  have lk_3 := hts _ lk_3_X2_enter
  subst hsz
  unfold QvW PoW
  have hD := hD0.self (sz := s.heap.size)
  generalize hAe : va_A [(q0, .inr (2, [.int f0_n, .ref q0_byHead, .int (bI f0_impossible)])), (q0_byHead, .inl (cL, n0_byHead, .inr (.inl h0_byHead)))] s.heap.size = A at hD ⊢
  have hA : ∀ q : Nat, s.heap.size ≤ q → A q := fun q h => by rw [← hAe]; exact Or.inr h
  have hent : entryFrame m args 7 = entryFrame m ([.ref q0, .long x1] : List Value).toArray 7 := by rw [hargs]
  rw [hent]
  refine kx_Q (fun Q hQ => ?_)
  refine kx_H (fun H hH => ?_)
  have hP : va_P D vwCl [(q0, .inr (2, [.int f0_n, .ref q0_byHead, .int (bI f0_impossible)])), (q0_byHead, .inl (cL, n0_byHead, .inr (.inl h0_byHead)))] H := by rw [hH]; exact hP
  have hS : va_S A s.heap H [] := by rw [hH]; exact va_S.rf
  have hl := lv_entry ([.ref q0, .long x1]) (n := 7) (Nat.le_of_ble_eq_true rfl)
  rw [lg_entry_eq]
  generalize (lg_sl ([.ref q0, .long x1]) ++ List.replicate (7 - (lg_sl ([.ref q0, .long x1])).length) Slot.unset).toArray = ls at hl ⊢
  have hl : lv_has ls 7 [(0, .ref q0), (1, .long x1)] := hl
  have hloop : ∀ n9 : Nat, (∀ (x5 : Int32) (x6 : Int32) (f0_impossible : Bool) (h0_byHead : Nat → Int64), iter (st_X2_enter f0_n n0_byHead x1) n9 (x5, x6, f0_impossible, h0_byHead) = some r0 → ∀ (H : Heap) (locs : List Loc) (ls : Array Slot), va_P D vwCl [(q0, .inr (2, [.int f0_n, .ref q0_byHead, .int (bI f0_impossible)])), (q0_byHead, .inl (cL, n0_byHead, .inr (.inl h0_byHead)))] H → va_D A [(q0, .inr (2, [.int f0_n, .ref q0_byHead, .int (bI f0_impossible)])), (q0_byHead, .inl (cL, n0_byHead, .inr (.inl h0_byHead)))] → va_S A s.heap H locs → lv_has ls 7 [(0, .ref q0), (1, .long x1), (5, .int x5), (6, .int x6)] → W p l e (headSpec wsX2_enter rm_X2_enter).room s m args below meth c H locs 0 0 Q (F0 m 52 ls [])) := by
    intro n9
    induction n9 with
    | zero => exact (fun _ _ _ _ h => nomatch h)
    | succ n9 ih =>
      intro x5 x6 f0_impossible h0_byHead h H locs ls hP hD hS hl
      have h : run1 (iter (st_X2_enter f0_n n0_byHead x1) n9) (b_X2_enter_52 f0_n n0_byHead x1 x5 x6 f0_impossible h0_byHead) = some r0 := h
      unfold b_X2_enter_52 at h
      refine lv_iload hx hb dX2_enter_52 (lv_at hl 3 rfl) ?_
      refine lv_iload hx hb dX2_enter_54 (lv_at hl 2 rfl) ?_
      refine lv_icmp_ge (tgt := 93) hx hb dX2_enter_56 (by decide) (fun c_9 => ?_) (fun c_9 => ?_)
      · have k_10 : x5 ≤ x6 := c_9
        have h := cw_t k_10 h
        refine lv_aload_n hx hb dX2_enter_93 rfl (lv_at hl 0 rfl) ?_
        refine va_get (D := D) (ci := 2) (v := .ref q0_byHead) (C := RX2) (T := TX2) (N := 3) hx hb hts in_X2_enter_X2 hown hK hP 0 rfl rfl 1 (by decide) lk_3 (fun _ h9 => h9) rfl dX2_enter_94 ?_
        refine lv_iload hx hb dX2_enter_97 (lv_at hl 2 rfl) ?_
        refine lv_lload_n hx hb dX2_enter_99 rfl (lv_at hl 1 rfl) ?_
        obtain ⟨b_11, h⟩ := cw_i h
        refine va_last hx hb hK hP hD hS 1 1 rfl rfl b_11 dX2_enter_100 (fun H locs hP hD hS => ?_)
        have hP : va_P D vwCl [(q0, .inr (2, [.int f0_n, .ref q0_byHead, .int (bI f0_impossible)])), (q0_byHead, .inl (cL, n0_byHead, .inr (.inl (vp_updL h0_byHead x5.toNatClampNeg x1))))] H := hP
        have hD : va_D A [(q0, .inr (2, [.int f0_n, .ref q0_byHead, .int (bI f0_impossible)])), (q0_byHead, .inl (cL, n0_byHead, .inr (.inl (vp_updL h0_byHead x5.toNatClampNeg x1))))] := hD
        have h := Option.some.inj h
        subst h
        subst hQ
        exact W.vret hx hb hr (fun t ht hW => ⟨⟨(), rfl, trivial, by rw [ht]; exact hP, hD⟩, hS.F ht⟩) hS.2.2 dX2_enter_101
      · have k_10 : ¬ (x5 ≤ x6) := c_9
        have h := cw_f k_10 h
        refine lv_aload_n hx hb dX2_enter_59 rfl (lv_at hl 0 rfl) ?_
        refine va_get (D := D) (ci := 2) (v := .ref q0_byHead) (C := RX2) (T := TX2) (N := 3) hx hb hts in_X2_enter_X2 hown hK hP 0 rfl rfl 1 (by decide) lk_3 (fun _ h9 => h9) rfl dX2_enter_60 ?_
        refine lv_iload hx hb dX2_enter_63 (lv_at hl 3 rfl) ?_
        obtain ⟨b_12, h⟩ := cw_i h
        refine va_lald hx hb hK hP 1 1 rfl rfl b_12 dX2_enter_65 ?_
        refine lv_iload hx hb dX2_enter_66 (lv_at hl 2 rfl) ?_
        refine lv_lushr (v := jushr (h0_byHead x6.toNatClampNeg) x5) hx hb dX2_enter_68 rfl ?_
        refine lv_lconst (v := (1 : Int64)) hx hb dX2_enter_69 (by decide) ?_
        refine lv_land hx hb dX2_enter_70 ?_
        refine lv_lconst (v := (0 : Int64)) hx hb dX2_enter_71 (by decide) ?_
        refine W.lcmp hx hb dX2_enter_72 ?_
        refine lv_if_eq (tgt := 87) hx hb dX2_enter_73 (by decide) (fun c_13 => ?_) (fun c_13 => ?_)
        · have k_14 : ((jushr (h0_byHead x6.toNatClampNeg) x5) &&& (1 : Int64)) = (0 : Int64) := ((lg_cmp_eq _ _).mp c_13)
          have h := cw_t k_14 h
          refine lv_iinc (v := x6 + (1 : Int32)) (lv' := [(6, .int (x6 + (1 : Int32))), (0, .ref q0), (1, .long x1), (5, .int x5)]) hx hb dX2_enter_87 hl (k := 3) rfl rfl (by decide) rfl (fun ls hl => ?_)
          refine lv_goto (tgt := 52) hx hb dX2_enter_90 (by decide) ?_
          exact ih _ _ _ _ h _ _ _ hP hD hS (lv_sub hl [1, 2, 3, 0] rfl)
        · have k_14 : ¬ (((jushr (h0_byHead x6.toNatClampNeg) x5) &&& (1 : Int64)) = (0 : Int64)) := (fun z9 => c_13 ((lg_cmp_eq _ _).mpr z9))
          have h := cw_f k_14 h
          refine lv_aload_n hx hb dX2_enter_76 rfl (lv_at hl 0 rfl) ?_
          refine va_get (D := D) (ci := 2) (v := .ref q0_byHead) (C := RX2) (T := TX2) (N := 3) hx hb hts in_X2_enter_X2 hown hK hP 0 rfl rfl 1 (by decide) lk_3 (fun _ h9 => h9) rfl dX2_enter_77 ?_
          refine lv_iload hx hb dX2_enter_80 (lv_at hl 3 rfl) ?_
          refine lv_dup2_11 hx hb dX2_enter_82 rfl rfl ?_
          obtain ⟨b_15, h⟩ := cw_i h
          refine va_lald hx hb hK hP 1 1 rfl rfl b_15 dX2_enter_83 ?_
          refine lv_lload_n hx hb dX2_enter_84 rfl (lv_at hl 1 rfl) ?_
          refine lv_lxor hx hb dX2_enter_85 ?_
          obtain ⟨b_16, h⟩ := cw_i h
          refine va_last hx hb hK hP hD hS 1 1 rfl rfl b_16 dX2_enter_86 (fun H locs hP hD hS => ?_)
          have hP : va_P D vwCl [(q0, .inr (2, [.int f0_n, .ref q0_byHead, .int (bI f0_impossible)])), (q0_byHead, .inl (cL, n0_byHead, .inr (.inl (vp_updL h0_byHead x6.toNatClampNeg ((h0_byHead x6.toNatClampNeg) ^^^ x1)))))] H := hP
          have hD : va_D A [(q0, .inr (2, [.int f0_n, .ref q0_byHead, .int (bI f0_impossible)])), (q0_byHead, .inl (cL, n0_byHead, .inr (.inl (vp_updL h0_byHead x6.toNatClampNeg ((h0_byHead x6.toNatClampNeg) ^^^ x1)))))] := hD
          refine lv_iinc (v := x6 + (1 : Int32)) (lv' := [(6, .int (x6 + (1 : Int32))), (0, .ref q0), (1, .long x1), (5, .int x5)]) hx hb dX2_enter_87 hl (k := 3) rfl rfl (by decide) rfl (fun ls hl => ?_)
          refine lv_goto (tgt := 52) hx hb dX2_enter_90 (by decide) ?_
          exact ih _ _ _ _ h _ _ _ hP hD hS (lv_sub hl [1, 2, 3, 0] rfl)
  have h := hr0
  unfold D_X2_enter at h
  refine lv_lload_n hx hb dX2_enter_0 rfl (lv_at hl 1 rfl) ?_
  refine lv_ldc2 hx hb hown lk_0 dX2_enter_1 ?_
  refine lv_land hx hb dX2_enter_4 ?_
  refine lv_lstore_n (lv' := [(3, .long (x1 &&& (-4611686018427387905 : Int64))), (0, .ref q0), (1, .long x1)]) hx hb dX2_enter_5 rfl hl (by decide) rfl (fun ls hl => ?_)
  refine lv_lload_n hx hb dX2_enter_6 rfl (lv_at hl 0 rfl) ?_
  refine lv_lload_n hx hb dX2_enter_7 rfl (lv_at hl 0 rfl) ?_
  refine lv_lneg hx hb dX2_enter_8 ?_
  refine lv_land hx hb dX2_enter_9 ?_
  refine lv_lconst (v := (1 : Int64)) hx hb dX2_enter_10 (by decide) ?_
  refine lv_lsub hx hb dX2_enter_11 ?_
  obtain ⟨u_1, hu_2, h⟩ := co_b h
  refine kx_i (ws' := fun _ => [(q0, .inr (2, [.int f0_n, .ref q0_byHead, .int (bI f0_impossible)])), (q0_byHead, .inl (cL, n0_byHead, .inr (.inl h0_byHead)))]) hP hD hS hA [] [0, 1] [0, 1] rfl rfl (by decide) (by decide) (fun _ => rfl) (by decide) (va_runS (As := [.long (((x1 &&& (-4611686018427387905 : Int64)) &&& (-(x1 &&& (-4611686018427387905 : Int64)))) - (1 : Int64))]) (rest := []) ⟨hx, hb, hml, hown, hts⟩ (cm_J13_bitCount_95d88 l D cI cL (x0 := ((x1 &&& (-4611686018427387905 : Int64)) &&& (-(x1 &&& (-4611686018427387905 : Int64)))) - (1 : Int64)) (r0 := u_1) (hr0 := hu_2) (sz := H.size)) (va_cwS 1 hts gX2_enter_J13_bitCount_95d88 rfl rfl rfl (by decide +kernel) ⟨Nat.le_of_ble_eq_true rfl, Nat.le_of_ble_eq_true rfl⟩) (kx_preS hEV hP hD [] rfl (by decide)) rfl rfl hl.1 rfl (lv_room (Nat.le_of_ble_eq_true rfl)) dX2_enter_12 ⟨Nat.le_of_ble_eq_true rfl, Nat.le_of_ble_eq_true rfl⟩) (fun _ H locs _ hP hD hS => ?_)
  refine lv_istore (lv' := [(5, .int u_1), (3, .long (x1 &&& (-4611686018427387905 : Int64))), (0, .ref q0), (1, .long x1)]) hx hb dX2_enter_15 hl (by decide) rfl (fun ls hl => ?_)
  refine lv_iload hx hb dX2_enter_17 (lv_at hl 0 rfl) ?_
  refine lv_aload_n hx hb dX2_enter_19 rfl (lv_at hl 2 rfl) ?_
  refine va_get (D := D) (ci := 2) (v := .int f0_n) (C := RX2) (T := TX2) (N := 3) hx hb hts in_X2_enter_X2 hown hK hP 0 rfl rfl 0 (by decide) lk_1 (fun _ h9 => h9) rfl dX2_enter_20 ?_
  refine lv_icmp_lt (tgt := 49) hx hb dX2_enter_23 (by decide) (fun c_3 => ?_) (fun c_3 => ?_)
  · have k_4 : u_1 < f0_n := c_3
    have h := co_t k_4 h
    refine lv_iconst (v := (0 : Int32)) hx hb dX2_enter_49 (by decide) ?_
    refine lv_istore (lv' := [(6, .int (0 : Int32)), (5, .int u_1), (3, .long (x1 &&& (-4611686018427387905 : Int64))), (0, .ref q0), (1, .long x1)]) hx hb dX2_enter_50 hl (by decide) rfl (fun ls hl => ?_)
    obtain ⟨n9, hn9⟩ := runw_some h
    exact (hloop n9) _ _ _ _ hn9 _ _ _ hP hD hS (lv_sub hl [3, 4, 1, 0] rfl)
  · have k_4 : ¬ (u_1 < f0_n) := c_3
    have h := co_f k_4 h
    refine lv_aload_n hx hb dX2_enter_26 rfl (lv_at hl 2 rfl) ?_
    refine lv_aload_n hx hb dX2_enter_27 rfl (lv_at hl 2 rfl) ?_
    refine va_get (D := D) (ci := 2) (v := .int (bI f0_impossible)) (C := RX2) (T := TX2) (N := 3) hx hb hts in_X2_enter_X2 hown hK hP 0 rfl rfl 2 (by decide) lk_2 (fun _ h9 => h9) rfl dX2_enter_28 ?_
    refine lv_if_ne (tgt := 40) hx hb dX2_enter_31 (by decide) (fun c_5 => ?_) (fun c_5 => ?_)
    · have k_6 : f0_impossible = true := (kx_nz c_5)
      have h := co_t k_6 h
      refine lv_iconst (v := (1 : Int32)) hx hb dX2_enter_40 (by decide) ?_
      refine lv_goto (tgt := 45) hx hb dX2_enter_41 (by decide) ?_
      refine va_put (D := D) (ci := 2) (v := .int (bI true)) (ty := .boolean) (C := RX2) (T := TX2) (N := 3) hx hb hts in_X2_enter_X2 tyX2 tyX2_ok nmX2 hown hK hP hD hS 0 rfl rfl 2 (by decide) lk_2 (fun _ h9 => h9) rfl (by decide +kernel) (bI_n true) (bI_fit true) (Nat.le_of_ble_eq_true rfl) dX2_enter_45 (fun H locs hP hD hS => ?_)
      have hP : va_P D vwCl [(q0, .inr (2, [.int f0_n, .ref q0_byHead, .int (bI true)])), (q0_byHead, .inl (cL, n0_byHead, .inr (.inl h0_byHead)))] H := hP
      have hD : va_D A [(q0, .inr (2, [.int f0_n, .ref q0_byHead, .int (bI true)])), (q0_byHead, .inl (cL, n0_byHead, .inr (.inl h0_byHead)))] := hD
      have h := Option.some.inj h
      subst h
      subst hQ
      exact W.vret hx hb hr (fun t ht hW => ⟨⟨(), rfl, trivial, by rw [ht]; exact hP, hD⟩, hS.F ht⟩) hS.2.2 dX2_enter_48
    · have k_6 : ¬ (f0_impossible = true) := (kx_z c_5)
      have h := co_f k_6 h
      refine lv_lload_n hx hb dX2_enter_34 rfl (lv_at hl 3 rfl) ?_
      refine lv_lconst (v := (0 : Int64)) hx hb dX2_enter_35 (by decide) ?_
      refine W.lcmp hx hb dX2_enter_36 ?_
      refine lv_if_eq (tgt := 44) hx hb dX2_enter_37 (by decide) (fun c_7 => ?_) (fun c_7 => ?_)
      · have k_8 : x1 = (0 : Int64) := ((lg_cmp_eq _ _).mp c_7)
        have h := co_t k_8 h
        refine lv_iconst (v := (0 : Int32)) hx hb dX2_enter_44 (by decide) ?_
        refine va_put (D := D) (ci := 2) (v := .int (bI false)) (ty := .boolean) (C := RX2) (T := TX2) (N := 3) hx hb hts in_X2_enter_X2 tyX2 tyX2_ok nmX2 hown hK hP hD hS 0 rfl rfl 2 (by decide) lk_2 (fun _ h9 => h9) rfl (by decide +kernel) (bI_n false) (bI_fit false) (Nat.le_of_ble_eq_true rfl) dX2_enter_45 (fun H locs hP hD hS => ?_)
        have hP : va_P D vwCl [(q0, .inr (2, [.int f0_n, .ref q0_byHead, .int (bI false)])), (q0_byHead, .inl (cL, n0_byHead, .inr (.inl h0_byHead)))] H := hP
        have hD : va_D A [(q0, .inr (2, [.int f0_n, .ref q0_byHead, .int (bI false)])), (q0_byHead, .inl (cL, n0_byHead, .inr (.inl h0_byHead)))] := hD
        have h := Option.some.inj h
        subst h
        subst hQ
        exact W.vret hx hb hr (fun t ht hW => ⟨⟨(), rfl, trivial, by rw [ht]; exact hP, hD⟩, hS.F ht⟩) hS.2.2 dX2_enter_48
      · have k_8 : ¬ (x1 = (0 : Int64)) := (fun z9 => c_7 ((lg_cmp_eq _ _).mpr z9))
        have h := co_f k_8 h
        refine lv_iconst (v := (1 : Int32)) hx hb dX2_enter_40 (by decide) ?_
        refine lv_goto (tgt := 45) hx hb dX2_enter_41 (by decide) ?_
        refine va_put (D := D) (ci := 2) (v := .int (bI true)) (ty := .boolean) (C := RX2) (T := TX2) (N := 3) hx hb hts in_X2_enter_X2 tyX2 tyX2_ok nmX2 hown hK hP hD hS 0 rfl rfl 2 (by decide) lk_2 (fun _ h9 => h9) rfl (by decide +kernel) (bI_n true) (bI_fit true) (Nat.le_of_ble_eq_true rfl) dX2_enter_45 (fun H locs hP hD hS => ?_)
        have hP : va_P D vwCl [(q0, .inr (2, [.int f0_n, .ref q0_byHead, .int (bI true)])), (q0_byHead, .inl (cL, n0_byHead, .inr (.inl h0_byHead)))] H := hP
        have hD : va_D A [(q0, .inr (2, [.int f0_n, .ref q0_byHead, .int (bI true)])), (q0_byHead, .inl (cL, n0_byHead, .inr (.inl h0_byHead)))] := hD
        have h := Option.some.inj h
        subst h
        subst hQ
        exact W.vret hx hb hr (fun t ht hW => ⟨⟨(), rfl, trivial, by rw [ht]; exact hP, hD⟩, hS.F ht⟩) hS.2.2 dX2_enter_48
theorem in_X2_build_X2 : ∀ w ∈ wsX20, w ∈ wsX2_build := by decide +kernel
theorem in_X2_build_X4 : ∀ w ∈ wsX40, w ∈ wsX2_build := by decide +kernel
theorem lk_0_X2_build : Cond.fieldLink RX2 15 "ParityClauses$Rows" "byHead" "[J" ∈ wsX2_build := by decide +kernel
theorem lk_1_X2_build : Cond.fieldLink RX2 25 "ParityClauses$Rows" "impossible" "Z" ∈ wsX2_build := by decide +kernel
theorem lk_2_X2_build : Cond.fieldLink RX2 29 "ParityClauses$Store" "equationCount" "I" ∈ wsX2_build := by decide +kernel
theorem lk_3_X2_build : Cond.fieldLink RX2 34 "ParityClauses$Store" "equations" "[J" ∈ wsX2_build := by decide +kernel
abbrev rm_X2_build : Room := { frames := 2, cells := 0, slots := 0, locals := 47 }
set_option maxHeartbeats 4000000 in
set_option maxRecDepth 100000 in
theorem cm_X2_build (l : Launch) (D : va_G) (cI cL : ClassId) (q0 q0_byHead q1 q1_equations : Nat) (n0_byHead n1_equations : Nat) (f0_n : Int32) (f0_impossible : Bool) (h0_byHead : Nat → Int64) (f1_equationCount : Int32) (h1_equations : Nat → Int64) (v1_yes v1_no v1_clauseCount v1_equationsBefore v1_clausesBefore v1_levelCount : Value) (r0 : Bool × (Nat → Int64)) (hr0 : D_X2_build f0_n f0_impossible n0_byHead h0_byHead f1_equationCount n1_equations h1_equations = some r0) (sz : Nat) : Met l yX2_build wsX2_build rm_X2_build (PcW D cI cL [.ref q0, .ref q1] [(q0, .inr (2, [.int f0_n, .ref q0_byHead, .int (bI f0_impossible)])), (q0_byHead, .inl (cL, n0_byHead, .inr (.inl h0_byHead))), (q1, .inr (4, [.ref q1_equations, v1_yes, v1_no, .int f1_equationCount, v1_clauseCount, v1_equationsBefore, v1_clausesBefore, v1_levelCount])), (q1_equations, .inl (cL, n1_equations, .inr (.inl h1_equations)))] sz) (QvW D [(q0, .inr (2, [.int f0_n, .ref q0_byHead, .int (bI f0_impossible)])), (q0_byHead, .inl (cL, n0_byHead, .inr (.inl h0_byHead))), (q1, .inr (4, [.ref q1_equations, v1_yes, v1_no, .int f1_equationCount, v1_clauseCount, v1_equationsBefore, v1_clausesBefore, v1_levelCount])), (q1_equations, .inl (cL, n1_equations, .inr (.inl h1_equations)))] (fun _ : Unit => [(q0, .inr (2, [.int f0_n, .ref q0_byHead, .int (bI r0.1)])), (q0_byHead, .inl (cL, n0_byHead, .inr (.inl r0.2))), (q1, .inr (4, [.ref q1_equations, v1_yes, v1_no, .int f1_equationCount, v1_clauseCount, v1_equationsBefore, v1_clausesBefore, v1_levelCount])), (q1_equations, .inl (cL, n1_equations, .inr (.inl h1_equations)))]) tU sz) 0 0 (va_A [(q0, .inr (2, [.int f0_n, .ref q0_byHead, .int (bI f0_impossible)])), (q0_byHead, .inl (cL, n0_byHead, .inr (.inl h0_byHead))), (q1, .inr (4, [.ref q1_equations, v1_yes, v1_no, .int f1_equationCount, v1_clauseCount, v1_equationsBefore, v1_clausesBefore, v1_levelCount])), (q1_equations, .inl (cL, n1_equations, .inr (.inl h1_equations)))] sz) := by
  refine Met.ofW (cc := cX2_build) (maxL := 3) (ret := none) (by decide) rfl ?_
  intro p e s m args below meth c s₁ B hml hv
  obtain ⟨hargs, hsz, hP, hEV, hD0⟩ := hv
  have hx := B.exec
  have hb := B.bytes
  have hr := B.returns
  have hts := atoms_spec (ws := wsX2_build) B.pre
  have hown : s.vm.findClass RX2 = some m.cls := findClass_of_methodNamed B.named
  have hlocks := B.notSynchronized
  have hK := hEV.K
  have lk_0 := hts _ lk_0_X2_build
  have lk_1 := hts _ lk_1_X2_build
  have lk_2 := hts _ lk_2_X2_build
  have lk_3 := hts _ lk_3_X2_build
  subst hsz
  unfold QvW PoW
  have hD := hD0.self (sz := s.heap.size)
  generalize hAe : va_A [(q0, .inr (2, [.int f0_n, .ref q0_byHead, .int (bI f0_impossible)])), (q0_byHead, .inl (cL, n0_byHead, .inr (.inl h0_byHead))), (q1, .inr (4, [.ref q1_equations, v1_yes, v1_no, .int f1_equationCount, v1_clauseCount, v1_equationsBefore, v1_clausesBefore, v1_levelCount])), (q1_equations, .inl (cL, n1_equations, .inr (.inl h1_equations)))] s.heap.size = A at hD ⊢
  have hA : ∀ q : Nat, s.heap.size ≤ q → A q := fun q h => by rw [← hAe]; exact Or.inr h
  have hent : entryFrame m args 3 = entryFrame m ([.ref q0, .ref q1] : List Value).toArray 3 := by rw [hargs]
  rw [hent]
  refine kx_Q (fun Q hQ => ?_)
  refine kx_H (fun H hH => ?_)
  have hP : va_P D vwCl [(q0, .inr (2, [.int f0_n, .ref q0_byHead, .int (bI f0_impossible)])), (q0_byHead, .inl (cL, n0_byHead, .inr (.inl h0_byHead))), (q1, .inr (4, [.ref q1_equations, v1_yes, v1_no, .int f1_equationCount, v1_clauseCount, v1_equationsBefore, v1_clausesBefore, v1_levelCount])), (q1_equations, .inl (cL, n1_equations, .inr (.inl h1_equations)))] H := by rw [hH]; exact hP
  have hS : va_S A s.heap H [] := by rw [hH]; exact va_S.rf
  have hl := lv_entry ([.ref q0, .ref q1]) (n := 3) (Nat.le_of_ble_eq_true rfl)
  rw [lg_entry_eq]
  generalize (lg_sl ([.ref q0, .ref q1]) ++ List.replicate (3 - (lg_sl ([.ref q0, .ref q1])).length) Slot.unset).toArray = ls at hl ⊢
  have hl : lv_has ls 3 [(0, .ref q0), (1, .ref q1)] := hl
  have hloop : ∀ n9 : Nat, (∀ (x2 : Int32) (f0_impossible : Bool) (h0_byHead : Nat → Int64), iter (st_X2_build f0_n n0_byHead f1_equationCount n1_equations h1_equations) n9 (x2, f0_impossible, h0_byHead) = some r0 → ∀ (H : Heap) (locs : List Loc) (ls : Array Slot), va_P D vwCl [(q0, .inr (2, [.int f0_n, .ref q0_byHead, .int (bI f0_impossible)])), (q0_byHead, .inl (cL, n0_byHead, .inr (.inl h0_byHead))), (q1, .inr (4, [.ref q1_equations, v1_yes, v1_no, .int f1_equationCount, v1_clauseCount, v1_equationsBefore, v1_clausesBefore, v1_levelCount])), (q1_equations, .inl (cL, n1_equations, .inr (.inl h1_equations)))] H → va_D A [(q0, .inr (2, [.int f0_n, .ref q0_byHead, .int (bI f0_impossible)])), (q0_byHead, .inl (cL, n0_byHead, .inr (.inl h0_byHead))), (q1, .inr (4, [.ref q1_equations, v1_yes, v1_no, .int f1_equationCount, v1_clauseCount, v1_equationsBefore, v1_clausesBefore, v1_levelCount])), (q1_equations, .inl (cL, n1_equations, .inr (.inl h1_equations)))] → va_S A s.heap H locs → lv_has ls 3 [(0, .ref q0), (1, .ref q1), (2, .int x2)] → W p l e (headSpec wsX2_build rm_X2_build).room s m args below meth c H locs 0 0 Q (F0 m 15 ls [])) := by
    intro n9
    induction n9 with
    | zero => exact (fun _ _ _ h => nomatch h)
    | succ n9 ih =>
      intro x2 f0_impossible h0_byHead h H locs ls hP hD hS hl
      have h : run1 (iter (st_X2_build f0_n n0_byHead f1_equationCount n1_equations h1_equations) n9) (b_X2_build_15 f0_n n0_byHead f1_equationCount n1_equations h1_equations x2 f0_impossible h0_byHead) = some r0 := h
      unfold b_X2_build_15 at h
      refine lv_iload_n hx hb dX2_build_15 rfl (lv_at hl 2 rfl) ?_
      refine lv_aload_n hx hb dX2_build_16 rfl (lv_at hl 1 rfl) ?_
      refine va_get (D := D) (ci := 4) (v := .int f1_equationCount) (C := RX4) (T := TX4) (N := 8) hx hb hts in_X2_build_X4 hown hK hP 2 rfl rfl 3 (by decide) lk_2 (fun _ h9 => h9) rfl dX2_build_17 ?_
      refine lv_icmp_ge (tgt := 43) hx hb dX2_build_20 (by decide) (fun c_3 => ?_) (fun c_3 => ?_)
      · have k_4 : f1_equationCount ≤ x2 := c_3
        have h := cw_t k_4 h
        have h := Option.some.inj h
        subst h
        subst hQ
        exact W.vret hx hb hr (fun t ht hW => ⟨⟨(), rfl, trivial, by rw [ht]; exact hP, hD⟩, hS.F ht⟩) hS.2.2 dX2_build_43
      · have k_4 : ¬ (f1_equationCount ≤ x2) := c_3
        have h := cw_f k_4 h
        refine lv_aload_n hx hb dX2_build_23 rfl (lv_at hl 0 rfl) ?_
        refine lv_aload_n hx hb dX2_build_24 rfl (lv_at hl 0 rfl) ?_
        refine lv_aload_n hx hb dX2_build_25 rfl (lv_at hl 1 rfl) ?_
        refine va_get (D := D) (ci := 4) (v := .ref q1_equations) (C := RX4) (T := TX4) (N := 8) hx hb hts in_X2_build_X4 hown hK hP 2 rfl rfl 0 (by decide) lk_3 (fun _ h9 => h9) rfl dX2_build_26 ?_
        refine lv_iload_n hx hb dX2_build_29 rfl (lv_at hl 2 rfl) ?_
        obtain ⟨b_5, h⟩ := cw_i h
        refine va_lald hx hb hK hP 3 1 rfl rfl b_5 dX2_build_30 ?_
        obtain ⟨u_6, hu_7, h⟩ := cw_b h
        refine kx_l (ws' := fun _ => [(q0, .inr (2, [.int f0_n, .ref q0_byHead, .int (bI f0_impossible)])), (q0_byHead, .inl (cL, n0_byHead, .inr (.inl h0_byHead))), (q1, .inr (4, [.ref q1_equations, v1_yes, v1_no, .int f1_equationCount, v1_clauseCount, v1_equationsBefore, v1_clausesBefore, v1_levelCount])), (q1_equations, .inl (cL, n1_equations, .inr (.inl h1_equations)))]) hP hD hS hA [0, 1] [2, 3] [2, 3, 0, 1] rfl rfl (by decide) (by decide) (fun _ => rfl) (by decide) (va_runV (As := [.long (h1_equations x2.toNatClampNeg)]) (rest := [.ref q0]) ⟨hx, hb, hml, hown, hts⟩ (cm_X2_reduced l D cI cL (q0 := q0) (q0_byHead := q0_byHead) (n0_byHead := n0_byHead) (f0_n := f0_n) (h0_byHead := h0_byHead) (v0_impossible := .int (bI f0_impossible)) (x1 := h1_equations x2.toNatClampNeg) (r0 := u_6) (hr0 := hu_7) (sz := H.size)) (cwV 1 hts gX2_build_X2_reduced rfl rfl rfl (by decide +kernel) ⟨Nat.le_of_ble_eq_true rfl, Nat.le_of_ble_eq_true rfl⟩) (kx_preV hEV hP hD [0, 1] rfl (by decide) (k0 := 0) (ci := 2) rfl rfl rfl) rfl rfl hl.1 rfl (lv_room (Nat.le_of_ble_eq_true rfl)) dX2_build_31 ⟨Nat.le_of_ble_eq_true rfl, Nat.le_of_ble_eq_true rfl⟩) (fun _ H locs _ hP hD hS => ?_)
        obtain ⟨u_8, hu_9, h⟩ := cw_b h
        refine kx_v (ws' := fun _ => [(q0, .inr (2, [.int f0_n, .ref q0_byHead, .int (bI u_8.1)])), (q0_byHead, .inl (cL, n0_byHead, .inr (.inl u_8.2))), (q1, .inr (4, [.ref q1_equations, v1_yes, v1_no, .int f1_equationCount, v1_clauseCount, v1_equationsBefore, v1_clausesBefore, v1_levelCount])), (q1_equations, .inl (cL, n1_equations, .inr (.inl h1_equations)))]) hP hD hS hA [0, 1] [2, 3] [2, 3, 0, 1] rfl rfl (by decide) (by decide) (fun _ => rfl) (by decide) (va_runV (As := [.long u_6]) (rest := []) ⟨hx, hb, hml, hown, hts⟩ (cm_X2_enter l D cI cL (q0 := q0) (q0_byHead := q0_byHead) (n0_byHead := n0_byHead) (f0_n := f0_n) (f0_impossible := f0_impossible) (h0_byHead := h0_byHead) (x1 := u_6) (r0 := u_8) (hr0 := hu_9) (sz := H.size)) (cwV 1 hts gX2_build_X2_enter rfl rfl rfl (by decide +kernel) ⟨Nat.le_of_ble_eq_true rfl, Nat.le_of_ble_eq_true rfl⟩) (kx_preV hEV hP hD [0, 1] rfl (by decide) (k0 := 0) (ci := 2) rfl rfl rfl) rfl rfl hl.1 rfl (lv_room (Nat.le_of_ble_eq_true rfl)) dX2_build_34 ⟨Nat.le_of_ble_eq_true rfl, Nat.le_of_ble_eq_true rfl⟩) (fun _ H locs _ hP hD hS => ?_)
        refine lv_iinc (v := x2 + (1 : Int32)) (lv' := [(2, .int (x2 + (1 : Int32))), (0, .ref q0), (1, .ref q1)]) hx hb dX2_build_37 hl (k := 2) rfl rfl (by decide) rfl (fun ls hl => ?_)
        refine lv_goto (tgt := 15) hx hb dX2_build_40 (by decide) ?_
        exact ih _ _ _ h _ _ _ hP hD hS (lv_sub hl [1, 2, 0] rfl)
  have h := hr0
  unfold D_X2_build at h
  refine lv_aload_n hx hb dX2_build_0 rfl (lv_at hl 0 rfl) ?_
  refine va_get (D := D) (ci := 2) (v := .ref q0_byHead) (C := RX2) (T := TX2) (N := 3) hx hb hts in_X2_build_X2 hown hK hP 0 rfl rfl 1 (by decide) lk_0 (fun _ h9 => h9) rfl dX2_build_1 ?_
  refine lv_lconst (v := (0 : Int64)) hx hb dX2_build_4 (by decide) ?_
  obtain ⟨u_1, hu_2, h⟩ := co_b h
  refine kx_v (ws' := fun _ => [(q0, .inr (2, [.int f0_n, .ref q0_byHead, .int (bI f0_impossible)])), (q0_byHead, .inl (cL, n0_byHead, .inr (.inl u_1))), (q1, .inr (4, [.ref q1_equations, v1_yes, v1_no, .int f1_equationCount, v1_clauseCount, v1_equationsBefore, v1_clausesBefore, v1_levelCount])), (q1_equations, .inl (cL, n1_equations, .inr (.inl h1_equations)))]) hP hD hS hA [1] [0, 2, 3] [0, 3, 1, 2] rfl rfl (by decide) (by decide) (fun _ => rfl) (by decide) (va_runS (As := [.ref q0_byHead, .long (0 : Int64)]) (rest := []) ⟨hx, hb, hml, hown, hts⟩ (cm_J7_fill_d0a16 l D cI cL (q0 := q0_byHead) (n0 := n0_byHead) (h0 := h0_byHead) (x1 := (0 : Int64)) (r0 := u_1) (hr0 := hu_2) (sz := H.size)) (va_cwS 2 hts gX2_build_J7_fill_d0a16 rfl rfl rfl (by decide +kernel) ⟨Nat.le_of_ble_eq_true rfl, Nat.le_of_ble_eq_true rfl⟩) (kx_preS hEV hP hD [1] rfl (by decide)) rfl rfl hl.1 rfl (lv_room (Nat.le_of_ble_eq_true rfl)) dX2_build_5 ⟨Nat.le_of_ble_eq_true rfl, Nat.le_of_ble_eq_true rfl⟩) (fun _ H locs _ hP hD hS => ?_)
  refine lv_aload_n hx hb dX2_build_8 rfl (lv_at hl 0 rfl) ?_
  refine lv_iconst (v := (0 : Int32)) hx hb dX2_build_9 (by decide) ?_
  refine va_put (D := D) (ci := 2) (v := .int (bI false)) (ty := .boolean) (C := RX2) (T := TX2) (N := 3) hx hb hts in_X2_build_X2 tyX2 tyX2_ok nmX2 hown hK hP hD hS 0 rfl rfl 2 (by decide) lk_1 (fun _ h9 => h9) rfl (by decide +kernel) (bI_n false) (bI_fit false) (Nat.le_of_ble_eq_true rfl) dX2_build_10 (fun H locs hP hD hS => ?_)
  have hP : va_P D vwCl [(q0, .inr (2, [.int f0_n, .ref q0_byHead, .int (bI false)])), (q0_byHead, .inl (cL, n0_byHead, .inr (.inl u_1))), (q1, .inr (4, [.ref q1_equations, v1_yes, v1_no, .int f1_equationCount, v1_clauseCount, v1_equationsBefore, v1_clausesBefore, v1_levelCount])), (q1_equations, .inl (cL, n1_equations, .inr (.inl h1_equations)))] H := hP
  have hD : va_D A [(q0, .inr (2, [.int f0_n, .ref q0_byHead, .int (bI false)])), (q0_byHead, .inl (cL, n0_byHead, .inr (.inl u_1))), (q1, .inr (4, [.ref q1_equations, v1_yes, v1_no, .int f1_equationCount, v1_clauseCount, v1_equationsBefore, v1_clausesBefore, v1_levelCount])), (q1_equations, .inl (cL, n1_equations, .inr (.inl h1_equations)))] := hD
  refine lv_iconst (v := (0 : Int32)) hx hb dX2_build_13 (by decide) ?_
  refine lv_istore_n (lv' := [(2, .int (0 : Int32)), (0, .ref q0), (1, .ref q1)]) hx hb dX2_build_14 rfl hl (by decide) rfl (fun ls hl => ?_)
  obtain ⟨n9, hn9⟩ := runw_some h
  exact (hloop n9) _ _ _ hn9 _ _ _ hP hD hS (lv_sub hl [1, 2, 0] rfl)
theorem in_X2_copyFrom_X2 : ∀ w ∈ wsX20, w ∈ wsX2_copyFrom := by decide +kernel
theorem lk_0_X2_copyFrom : Cond.fieldLink RX2 15 "ParityClauses$Rows" "byHead" "[J" ∈ wsX2_copyFrom := by decide +kernel
theorem lk_1_X2_copyFrom : Cond.fieldLink RX2 9 "ParityClauses$Rows" "n" "I" ∈ wsX2_copyFrom := by decide +kernel
theorem lk_2_X2_copyFrom : Cond.methodLink RX2 45 Lib.Math.min.name ∈ wsX2_copyFrom := by decide +kernel
theorem lk_3_X2_copyFrom : Cond.static Lib.Math.min.name ∈ wsX2_copyFrom := by decide +kernel
theorem lk_4_X2_copyFrom : Cond.initialized "java/lang/Math" ∈ wsX2_copyFrom := by decide +kernel
theorem lk_5_X2_copyFrom : Cond.code Lib.Math.min.name Lib.Math.min.code 2 (some .int) ∈ wsX2_copyFrom := by decide +kernel
theorem lk_6_X2_copyFrom : Cond.methodLink RX2 51 arraycopyName ∈ wsX2_copyFrom := by decide +kernel
theorem lk_7_X2_copyFrom : Cond.native arraycopyName ∈ wsX2_copyFrom := by decide +kernel
theorem lk_8_X2_copyFrom : Cond.static arraycopyName ∈ wsX2_copyFrom := by decide +kernel
theorem lk_9_X2_copyFrom : Cond.initialized "java/lang/System" ∈ wsX2_copyFrom := by decide +kernel
theorem lk_10_X2_copyFrom : Cond.fieldLink RX2 25 "ParityClauses$Rows" "impossible" "Z" ∈ wsX2_copyFrom := by decide +kernel
abbrev rm_X2_copyFrom : Room := { frames := 1, cells := 0, slots := 0, locals := 40 }
set_option maxHeartbeats 4000000 in
set_option maxRecDepth 100000 in
theorem cm_X2_copyFrom (l : Launch) (D : va_G) (cI cL : ClassId) (q0 q0_byHead q1 q1_byHead : Nat) (n0_byHead n1_byHead : Nat) (f0_n : Int32) (f0_impossible : Bool) (h0_byHead : Nat → Int64) (f1_n : Int32) (f1_impossible : Bool) (h1_byHead : Nat → Int64) (r0 : Bool × (Nat → Int64)) (hr0 : D_X2_copyFrom f0_n f0_impossible n0_byHead h0_byHead f1_n f1_impossible n1_byHead h1_byHead = some r0) (sz : Nat) : Met l yX2_copyFrom wsX2_copyFrom rm_X2_copyFrom (PcW D cI cL [.ref q0, .ref q1] [(q0, .inr (2, [.int f0_n, .ref q0_byHead, .int (bI f0_impossible)])), (q0_byHead, .inl (cL, n0_byHead, .inr (.inl h0_byHead))), (q1, .inr (2, [.int f1_n, .ref q1_byHead, .int (bI f1_impossible)])), (q1_byHead, .inl (cL, n1_byHead, .inr (.inl h1_byHead)))] sz) (QvW D [(q0, .inr (2, [.int f0_n, .ref q0_byHead, .int (bI f0_impossible)])), (q0_byHead, .inl (cL, n0_byHead, .inr (.inl h0_byHead))), (q1, .inr (2, [.int f1_n, .ref q1_byHead, .int (bI f1_impossible)])), (q1_byHead, .inl (cL, n1_byHead, .inr (.inl h1_byHead)))] (fun _ : Unit => [(q0, .inr (2, [.int f0_n, .ref q0_byHead, .int (bI r0.1)])), (q0_byHead, .inl (cL, n0_byHead, .inr (.inl r0.2))), (q1, .inr (2, [.int f1_n, .ref q1_byHead, .int (bI f1_impossible)])), (q1_byHead, .inl (cL, n1_byHead, .inr (.inl h1_byHead)))]) tU sz) 0 0 (va_A [(q0, .inr (2, [.int f0_n, .ref q0_byHead, .int (bI f0_impossible)])), (q0_byHead, .inl (cL, n0_byHead, .inr (.inl h0_byHead))), (q1, .inr (2, [.int f1_n, .ref q1_byHead, .int (bI f1_impossible)])), (q1_byHead, .inl (cL, n1_byHead, .inr (.inl h1_byHead)))] sz) := by
  refine Met.ofW (cc := cX2_copyFrom) (maxL := 2) (ret := none) (by decide) rfl ?_
  intro p e s m args below meth c s₁ B hml hv
  obtain ⟨hargs, hsz, hP, hEV, hD0⟩ := hv
  have hx := B.exec
  have hb := B.bytes
  have hr := B.returns
  have hts := atoms_spec (ws := wsX2_copyFrom) B.pre
  have hown : s.vm.findClass RX2 = some m.cls := findClass_of_methodNamed B.named
  have hlocks := B.notSynchronized
  have hK := hEV.K
  have lk_0 := hts _ lk_0_X2_copyFrom
  have lk_1 := hts _ lk_1_X2_copyFrom
  have lk_2 := hts _ lk_2_X2_copyFrom
  have lk_3 := hts _ lk_3_X2_copyFrom
  have lk_4 := hts _ lk_4_X2_copyFrom
  have lk_5 := hts _ lk_5_X2_copyFrom
  have lk_6 := hts _ lk_6_X2_copyFrom
  have lk_7 := hts _ lk_7_X2_copyFrom
  have lk_8 := hts _ lk_8_X2_copyFrom
  have lk_9 := hts _ lk_9_X2_copyFrom
  have lk_10 := hts _ lk_10_X2_copyFrom
  subst hsz
  unfold QvW PoW
  have hD := hD0.self (sz := s.heap.size)
  generalize hAe : va_A [(q0, .inr (2, [.int f0_n, .ref q0_byHead, .int (bI f0_impossible)])), (q0_byHead, .inl (cL, n0_byHead, .inr (.inl h0_byHead))), (q1, .inr (2, [.int f1_n, .ref q1_byHead, .int (bI f1_impossible)])), (q1_byHead, .inl (cL, n1_byHead, .inr (.inl h1_byHead)))] s.heap.size = A at hD ⊢
  have hA : ∀ q : Nat, s.heap.size ≤ q → A q := fun q h => by rw [← hAe]; exact Or.inr h
  have hent : entryFrame m args 2 = entryFrame m ([.ref q0, .ref q1] : List Value).toArray 2 := by rw [hargs]
  rw [hent]
  refine kx_Q (fun Q hQ => ?_)
  refine kx_H (fun H hH => ?_)
  have hP : va_P D vwCl [(q0, .inr (2, [.int f0_n, .ref q0_byHead, .int (bI f0_impossible)])), (q0_byHead, .inl (cL, n0_byHead, .inr (.inl h0_byHead))), (q1, .inr (2, [.int f1_n, .ref q1_byHead, .int (bI f1_impossible)])), (q1_byHead, .inl (cL, n1_byHead, .inr (.inl h1_byHead)))] H := by rw [hH]; exact hP
  have hS : va_S A s.heap H [] := by rw [hH]; exact va_S.rf
  have hl := lv_entry ([.ref q0, .ref q1]) (n := 2) (Nat.le_of_ble_eq_true rfl)
  rw [lg_entry_eq]
  generalize (lg_sl ([.ref q0, .ref q1]) ++ List.replicate (2 - (lg_sl ([.ref q0, .ref q1])).length) Slot.unset).toArray = ls at hl ⊢
  have hl : lv_has ls 2 [(0, .ref q0), (1, .ref q1)] := hl
  have h := hr0
  unfold D_X2_copyFrom at h
  refine lv_aload_n hx hb dX2_copyFrom_0 rfl (lv_at hl 1 rfl) ?_
  refine va_get (D := D) (ci := 2) (v := .ref q1_byHead) (C := RX2) (T := TX2) (N := 3) hx hb hts in_X2_copyFrom_X2 hown hK hP 2 rfl rfl 1 (by decide) lk_0 (fun _ h9 => h9) rfl dX2_copyFrom_1 ?_
  refine lv_iconst (v := (0 : Int32)) hx hb dX2_copyFrom_4 (by decide) ?_
  refine lv_aload_n hx hb dX2_copyFrom_5 rfl (lv_at hl 0 rfl) ?_
  refine va_get (D := D) (ci := 2) (v := .ref q0_byHead) (C := RX2) (T := TX2) (N := 3) hx hb hts in_X2_copyFrom_X2 hown hK hP 0 rfl rfl 1 (by decide) lk_0 (fun _ h9 => h9) rfl dX2_copyFrom_6 ?_
  refine lv_iconst (v := (0 : Int32)) hx hb dX2_copyFrom_9 (by decide) ?_
  refine lv_aload_n hx hb dX2_copyFrom_10 rfl (lv_at hl 0 rfl) ?_
  refine va_get (D := D) (ci := 2) (v := .int f0_n) (C := RX2) (T := TX2) (N := 3) hx hb hts in_X2_copyFrom_X2 hown hK hP 0 rfl rfl 0 (by decide) lk_1 (fun _ h9 => h9) rfl dX2_copyFrom_11 ?_
  refine lv_aload_n hx hb dX2_copyFrom_14 rfl (lv_at hl 1 rfl) ?_
  refine va_get (D := D) (ci := 2) (v := .int f1_n) (C := RX2) (T := TX2) (N := 3) hx hb hts in_X2_copyFrom_X2 hown hK hP 2 rfl rfl 0 (by decide) lk_1 (fun _ h9 => h9) rfl dX2_copyFrom_15 ?_
  refine va_mmin hx hb (by rw [hml]; exact hl.1.symm) hown lk_2 lk_3 lk_4 lk_5 (Nat.le_of_ble_eq_true rfl) (Nat.le_of_ble_eq_true rfl) (Nat.zero_le _) (Nat.zero_le _) dX2_copyFrom_18 ?_
  obtain ⟨⟨b_11, b_12, b_13, b_14, b_15⟩, h⟩ := co_i h
  refine va_copyl (ty := .long) hx hb (by rw [hml]; exact hl.1.symm) hown lk_6 lk_7 lk_8 lk_9 hK hP hD hS 3 1 1 1 rfl rfl rfl rfl rfl b_11 b_12 b_13 b_14 b_15 (fun _ _ => rfl) (Nat.le_of_ble_eq_true rfl) (Nat.le_of_ble_eq_true rfl) dX2_copyFrom_21 (fun H locs hP hD hS => ?_)
  have hP : va_P D vwCl [(q0, .inr (2, [.int f0_n, .ref q0_byHead, .int (bI f0_impossible)])), (q0_byHead, .inl (cL, n0_byHead, .inr (.inl (va_cpy h1_byHead h0_byHead (0 : Int32).toNatClampNeg (0 : Int32).toNatClampNeg (jmin f0_n f1_n).toNatClampNeg)))), (q1, .inr (2, [.int f1_n, .ref q1_byHead, .int (bI f1_impossible)])), (q1_byHead, .inl (cL, n1_byHead, .inr (.inl h1_byHead)))] H := hP
  have hD : va_D A [(q0, .inr (2, [.int f0_n, .ref q0_byHead, .int (bI f0_impossible)])), (q0_byHead, .inl (cL, n0_byHead, .inr (.inl (va_cpy h1_byHead h0_byHead (0 : Int32).toNatClampNeg (0 : Int32).toNatClampNeg (jmin f0_n f1_n).toNatClampNeg)))), (q1, .inr (2, [.int f1_n, .ref q1_byHead, .int (bI f1_impossible)])), (q1_byHead, .inl (cL, n1_byHead, .inr (.inl h1_byHead)))] := hD
  refine lv_aload_n hx hb dX2_copyFrom_24 rfl (lv_at hl 0 rfl) ?_
  refine lv_aload_n hx hb dX2_copyFrom_25 rfl (lv_at hl 1 rfl) ?_
  refine va_get (D := D) (ci := 2) (v := .int (bI f1_impossible)) (C := RX2) (T := TX2) (N := 3) hx hb hts in_X2_copyFrom_X2 hown hK hP 2 rfl rfl 2 (by decide) lk_10 (fun _ h9 => h9) rfl dX2_copyFrom_26 ?_
  refine va_put (D := D) (ci := 2) (v := .int (bI f1_impossible)) (ty := .boolean) (C := RX2) (T := TX2) (N := 3) hx hb hts in_X2_copyFrom_X2 tyX2 tyX2_ok nmX2 hown hK hP hD hS 0 rfl rfl 2 (by decide) lk_10 (fun _ h9 => h9) rfl (by decide +kernel) (bI_n f1_impossible) (bI_fit f1_impossible) (Nat.le_of_ble_eq_true rfl) dX2_copyFrom_29 (fun H locs hP hD hS => ?_)
  have hP : va_P D vwCl [(q0, .inr (2, [.int f0_n, .ref q0_byHead, .int (bI f1_impossible)])), (q0_byHead, .inl (cL, n0_byHead, .inr (.inl (va_cpy h1_byHead h0_byHead (0 : Int32).toNatClampNeg (0 : Int32).toNatClampNeg (jmin f0_n f1_n).toNatClampNeg)))), (q1, .inr (2, [.int f1_n, .ref q1_byHead, .int (bI f1_impossible)])), (q1_byHead, .inl (cL, n1_byHead, .inr (.inl h1_byHead)))] H := hP
  have hD : va_D A [(q0, .inr (2, [.int f0_n, .ref q0_byHead, .int (bI f1_impossible)])), (q0_byHead, .inl (cL, n0_byHead, .inr (.inl (va_cpy h1_byHead h0_byHead (0 : Int32).toNatClampNeg (0 : Int32).toNatClampNeg (jmin f0_n f1_n).toNatClampNeg)))), (q1, .inr (2, [.int f1_n, .ref q1_byHead, .int (bI f1_impossible)])), (q1_byHead, .inl (cL, n1_byHead, .inr (.inl h1_byHead)))] := hD
  have h := Option.some.inj h
  subst h
  subst hQ
  exact W.vret hx hb hr (fun t ht hW => ⟨⟨(), rfl, trivial, by rw [ht]; exact hP, hD⟩, hS.F ht⟩) hS.2.2 dX2_copyFrom_32
theorem in_X2_size_X2 : ∀ w ∈ wsX20, w ∈ wsX2_size := by decide +kernel
theorem lk_0_X2_size : Cond.fieldLink RX2 9 "ParityClauses$Rows" "n" "I" ∈ wsX2_size := by decide +kernel
theorem lk_1_X2_size : Cond.fieldLink RX2 15 "ParityClauses$Rows" "byHead" "[J" ∈ wsX2_size := by decide +kernel
abbrev rm_X2_size : Room := { frames := 0, cells := 0, slots := 0, locals := 0 }
set_option maxHeartbeats 4000000 in
set_option maxRecDepth 100000 in
theorem cm_X2_size (l : Launch) (D : va_G) (cI cL : ClassId) (q0 q0_byHead : Nat) (n0_byHead : Nat) (f0_n : Int32) (h0_byHead : Nat → Int64) (v0_impossible : Value) (r0 : Int32) (hr0 : D_X2_size f0_n n0_byHead h0_byHead = some r0) (sz : Nat) : Met l yX2_size wsX2_size rm_X2_size (PcW D cI cL [.ref q0] [(q0, .inr (2, [.int f0_n, .ref q0_byHead, v0_impossible])), (q0_byHead, .inl (cL, n0_byHead, .inr (.inl h0_byHead)))] sz) (QiW D [(q0, .inr (2, [.int f0_n, .ref q0_byHead, v0_impossible])), (q0_byHead, .inl (cL, n0_byHead, .inr (.inl h0_byHead)))] r0 (fun _ : Unit => [(q0, .inr (2, [.int f0_n, .ref q0_byHead, v0_impossible])), (q0_byHead, .inl (cL, n0_byHead, .inr (.inl h0_byHead)))]) tU sz) 0 0 (va_A [(q0, .inr (2, [.int f0_n, .ref q0_byHead, v0_impossible])), (q0_byHead, .inl (cL, n0_byHead, .inr (.inl h0_byHead)))] sz) := by
  refine Met.ofW (cc := cX2_size) (maxL := 3) (ret := (some .int)) (by decide) rfl ?_
  intro p e s m args below meth c s₁ B hml hv
  obtain ⟨hargs, hsz, hP, hEV, hD0⟩ := hv
  have hx := B.exec
  have hb := B.bytes
  have hr := B.returns
  have hts := atoms_spec (ws := wsX2_size) B.pre
  have hown : s.vm.findClass RX2 = some m.cls := findClass_of_methodNamed B.named
  have hlocks := B.notSynchronized
  have hK := hEV.K
  have lk_0 := hts _ lk_0_X2_size
  have lk_1 := hts _ lk_1_X2_size
  subst hsz
  unfold QiW PoW
  have hD := hD0.self (sz := s.heap.size)
  generalize hAe : va_A [(q0, .inr (2, [.int f0_n, .ref q0_byHead, v0_impossible])), (q0_byHead, .inl (cL, n0_byHead, .inr (.inl h0_byHead)))] s.heap.size = A at hD ⊢
  have hA : ∀ q : Nat, s.heap.size ≤ q → A q := fun q h => by rw [← hAe]; exact Or.inr h
  have hent : entryFrame m args 3 = entryFrame m ([.ref q0] : List Value).toArray 3 := by rw [hargs]
  rw [hent]
  refine kx_Q (fun Q hQ => ?_)
  refine kx_H (fun H hH => ?_)
  have hP : va_P D vwCl [(q0, .inr (2, [.int f0_n, .ref q0_byHead, v0_impossible])), (q0_byHead, .inl (cL, n0_byHead, .inr (.inl h0_byHead)))] H := by rw [hH]; exact hP
  have hS : va_S A s.heap H [] := by rw [hH]; exact va_S.rf
  have hl := lv_entry ([.ref q0]) (n := 3) (Nat.le_of_ble_eq_true rfl)
  rw [lg_entry_eq]
  generalize (lg_sl ([.ref q0]) ++ List.replicate (3 - (lg_sl ([.ref q0])).length) Slot.unset).toArray = ls at hl ⊢
  have hl : lv_has ls 3 [(0, .ref q0)] := hl
  have hloop : ∀ n9 : Nat, (∀ (x1 : Int32) (x2 : Int32), iter (st_X2_size f0_n n0_byHead h0_byHead) n9 (x1, x2) = some r0 → ∀ (H : Heap) (locs : List Loc) (ls : Array Slot), va_P D vwCl [(q0, .inr (2, [.int f0_n, .ref q0_byHead, v0_impossible])), (q0_byHead, .inl (cL, n0_byHead, .inr (.inl h0_byHead)))] H → va_D A [(q0, .inr (2, [.int f0_n, .ref q0_byHead, v0_impossible])), (q0_byHead, .inl (cL, n0_byHead, .inr (.inl h0_byHead)))] → va_S A s.heap H locs → lv_has ls 3 [(0, .ref q0), (1, .int x1), (2, .int x2)] → W p l e (headSpec wsX2_size rm_X2_size).room s m args below meth c H locs 0 0 Q (F0 m 4 ls [])) := by
    intro n9
    induction n9 with
    | zero => exact (fun _ _ h => nomatch h)
    | succ n9 ih =>
      intro x1 x2 h H locs ls hP hD hS hl
      have h : run1 (iter (st_X2_size f0_n n0_byHead h0_byHead) n9) (b_X2_size_4 f0_n n0_byHead h0_byHead x1 x2) = some r0 := h
      unfold b_X2_size_4 at h
      refine lv_iload_n hx hb dX2_size_4 rfl (lv_at hl 2 rfl) ?_
      refine lv_aload_n hx hb dX2_size_5 rfl (lv_at hl 0 rfl) ?_
      refine va_get (D := D) (ci := 2) (v := .int f0_n) (C := RX2) (T := TX2) (N := 3) hx hb hts in_X2_size_X2 hown hK hP 0 rfl rfl 0 (by decide) lk_0 (fun _ h9 => h9) rfl dX2_size_6 ?_
      refine lv_icmp_ge (tgt := 32) hx hb dX2_size_9 (by decide) (fun c_1 => ?_) (fun c_1 => ?_)
      · have k_2 : f0_n ≤ x2 := c_1
        have h := cw_t k_2 h
        refine lv_iload_n hx hb dX2_size_32 rfl (lv_at hl 1 rfl) ?_
        have h := Option.some.inj h
        subst h
        subst hQ
        exact W.iret (v := x1) hx hb hr (fun t ht hW => ⟨⟨x1, (), rfl, ⟨rfl, trivial⟩, by rw [ht]; exact hP, hD⟩, hS.F ht⟩) hS.2.2 dX2_size_33
      · have k_2 : ¬ (f0_n ≤ x2) := c_1
        have h := cw_f k_2 h
        refine lv_aload_n hx hb dX2_size_12 rfl (lv_at hl 0 rfl) ?_
        refine va_get (D := D) (ci := 2) (v := .ref q0_byHead) (C := RX2) (T := TX2) (N := 3) hx hb hts in_X2_size_X2 hown hK hP 0 rfl rfl 1 (by decide) lk_1 (fun _ h9 => h9) rfl dX2_size_13 ?_
        refine lv_iload_n hx hb dX2_size_16 rfl (lv_at hl 2 rfl) ?_
        obtain ⟨b_3, h⟩ := cw_i h
        refine va_lald hx hb hK hP 1 1 rfl rfl b_3 dX2_size_17 ?_
        refine lv_lconst (v := (0 : Int64)) hx hb dX2_size_18 (by decide) ?_
        refine W.lcmp hx hb dX2_size_19 ?_
        refine lv_if_eq (tgt := 26) hx hb dX2_size_20 (by decide) (fun c_4 => ?_) (fun c_4 => ?_)
        · have k_5 : (h0_byHead x2.toNatClampNeg) = (0 : Int64) := ((lg_cmp_eq _ _).mp c_4)
          have h := cw_t k_5 h
          refine lv_iinc (v := x2 + (1 : Int32)) (lv' := [(2, .int (x2 + (1 : Int32))), (0, .ref q0), (1, .int x1)]) hx hb dX2_size_26 hl (k := 2) rfl rfl (by decide) rfl (fun ls hl => ?_)
          refine lv_goto (tgt := 4) hx hb dX2_size_29 (by decide) ?_
          exact ih _ _ h _ _ _ hP hD hS (lv_sub hl [1, 2, 0] rfl)
        · have k_5 : ¬ ((h0_byHead x2.toNatClampNeg) = (0 : Int64)) := (fun z9 => c_4 ((lg_cmp_eq _ _).mpr z9))
          have h := cw_f k_5 h
          refine lv_iinc (v := x1 + (1 : Int32)) (lv' := [(1, .int (x1 + (1 : Int32))), (0, .ref q0), (2, .int x2)]) hx hb dX2_size_23 hl (k := 1) rfl rfl (by decide) rfl (fun ls hl => ?_)
          refine lv_iinc (v := x2 + (1 : Int32)) (lv' := [(2, .int (x2 + (1 : Int32))), (1, .int (x1 + (1 : Int32))), (0, .ref q0)]) hx hb dX2_size_26 hl (k := 2) rfl rfl (by decide) rfl (fun ls hl => ?_)
          refine lv_goto (tgt := 4) hx hb dX2_size_29 (by decide) ?_
          exact ih _ _ h _ _ _ hP hD hS (lv_sub hl [2, 1, 0] rfl)
  have h := hr0
  unfold D_X2_size at h
  refine lv_iconst (v := (0 : Int32)) hx hb dX2_size_0 (by decide) ?_
  refine lv_istore_n (lv' := [(1, .int (0 : Int32)), (0, .ref q0)]) hx hb dX2_size_1 rfl hl (by decide) rfl (fun ls hl => ?_)
  refine lv_iconst (v := (0 : Int32)) hx hb dX2_size_2 (by decide) ?_
  refine lv_istore_n (lv' := [(2, .int (0 : Int32)), (1, .int (0 : Int32)), (0, .ref q0)]) hx hb dX2_size_3 rfl hl (by decide) rfl (fun ls hl => ?_)
  obtain ⟨n9, hn9⟩ := runw_some h
  exact (hloop n9) _ _ hn9 _ _ _ hP hD hS (lv_sub hl [2, 1, 0] rfl)
theorem in_X2_inOrder_X2 : ∀ w ∈ wsX20, w ∈ wsX2_inOrder := by decide +kernel
theorem lk_0_X2_inOrder : Cond.fieldLink RX2 9 "ParityClauses$Rows" "n" "I" ∈ wsX2_inOrder := by decide +kernel
theorem lk_1_X2_inOrder : Cond.fieldLink RX2 15 "ParityClauses$Rows" "byHead" "[J" ∈ wsX2_inOrder := by decide +kernel
abbrev rm_X2_inOrder : Room := { frames := 0, cells := 0, slots := 0, locals := 0 }
set_option maxHeartbeats 4000000 in
set_option maxRecDepth 100000 in
theorem cm_X2_inOrder (l : Launch) (D : va_G) (cI cL : ClassId) (q0 q0_byHead : Nat) (n0_byHead : Nat) (f0_n : Int32) (h0_byHead : Nat → Int64) (v0_impossible : Value) (x1 : Int32) (r0 : Int64) (hr0 : D_X2_inOrder f0_n n0_byHead h0_byHead x1 = some r0) (sz : Nat) : Met l yX2_inOrder wsX2_inOrder rm_X2_inOrder (PcW D cI cL [.ref q0, .int x1] [(q0, .inr (2, [.int f0_n, .ref q0_byHead, v0_impossible])), (q0_byHead, .inl (cL, n0_byHead, .inr (.inl h0_byHead)))] sz) (QlW D [(q0, .inr (2, [.int f0_n, .ref q0_byHead, v0_impossible])), (q0_byHead, .inl (cL, n0_byHead, .inr (.inl h0_byHead)))] r0 (fun _ : Unit => [(q0, .inr (2, [.int f0_n, .ref q0_byHead, v0_impossible])), (q0_byHead, .inl (cL, n0_byHead, .inr (.inl h0_byHead)))]) tU sz) 0 0 (va_A [(q0, .inr (2, [.int f0_n, .ref q0_byHead, v0_impossible])), (q0_byHead, .inl (cL, n0_byHead, .inr (.inl h0_byHead)))] sz) := by
  refine Met.ofW (cc := cX2_inOrder) (maxL := 4) (ret := (some .long)) (by decide) rfl ?_
  intro p e s m args below meth c s₁ B hml hv
  obtain ⟨hargs, hsz, hP, hEV, hD0⟩ := hv
  have hx := B.exec
  have hb := B.bytes
  have hr := B.returns
  have hts := atoms_spec (ws := wsX2_inOrder) B.pre
  have hown : s.vm.findClass RX2 = some m.cls := findClass_of_methodNamed B.named
  have hlocks := B.notSynchronized
  have hK := hEV.K
  have lk_0 := hts _ lk_0_X2_inOrder
  have lk_1 := hts _ lk_1_X2_inOrder
  subst hsz
  unfold QlW PoW
  have hD := hD0.self (sz := s.heap.size)
  generalize hAe : va_A [(q0, .inr (2, [.int f0_n, .ref q0_byHead, v0_impossible])), (q0_byHead, .inl (cL, n0_byHead, .inr (.inl h0_byHead)))] s.heap.size = A at hD ⊢
  have hA : ∀ q : Nat, s.heap.size ≤ q → A q := fun q h => by rw [← hAe]; exact Or.inr h
  have hent : entryFrame m args 4 = entryFrame m ([.ref q0, .int x1] : List Value).toArray 4 := by rw [hargs]
  rw [hent]
  refine kx_Q (fun Q hQ => ?_)
  refine kx_H (fun H hH => ?_)
  have hP : va_P D vwCl [(q0, .inr (2, [.int f0_n, .ref q0_byHead, v0_impossible])), (q0_byHead, .inl (cL, n0_byHead, .inr (.inl h0_byHead)))] H := by rw [hH]; exact hP
  have hS : va_S A s.heap H [] := by rw [hH]; exact va_S.rf
  have hl := lv_entry ([.ref q0, .int x1]) (n := 4) (Nat.le_of_ble_eq_true rfl)
  rw [lg_entry_eq]
  generalize (lg_sl ([.ref q0, .int x1]) ++ List.replicate (4 - (lg_sl ([.ref q0, .int x1])).length) Slot.unset).toArray = ls at hl ⊢
  have hl : lv_has ls 4 [(0, .ref q0), (1, .int x1)] := hl
  have hloop : ∀ n9 : Nat, (∀ (x2 : Int32) (x3 : Int32), iter (st_X2_inOrder f0_n n0_byHead h0_byHead x1) n9 (x2, x3) = some r0 → ∀ (H : Heap) (locs : List Loc) (ls : Array Slot), va_P D vwCl [(q0, .inr (2, [.int f0_n, .ref q0_byHead, v0_impossible])), (q0_byHead, .inl (cL, n0_byHead, .inr (.inl h0_byHead)))] H → va_D A [(q0, .inr (2, [.int f0_n, .ref q0_byHead, v0_impossible])), (q0_byHead, .inl (cL, n0_byHead, .inr (.inl h0_byHead)))] → va_S A s.heap H locs → lv_has ls 4 [(0, .ref q0), (1, .int x1), (2, .int x2), (3, .int x3)] → W p l e (headSpec wsX2_inOrder rm_X2_inOrder).room s m args below meth c H locs 0 0 Q (F0 m 4 ls [])) := by
    intro n9
    induction n9 with
    | zero => exact (fun _ _ h => nomatch h)
    | succ n9 ih =>
      intro x2 x3 h H locs ls hP hD hS hl
      have h : run1 (iter (st_X2_inOrder f0_n n0_byHead h0_byHead x1) n9) (b_X2_inOrder_4 f0_n n0_byHead h0_byHead x1 x2 x3) = some r0 := h
      unfold b_X2_inOrder_4 at h
      refine lv_iload_n hx hb dX2_inOrder_4 rfl (lv_at hl 3 rfl) ?_
      refine lv_aload_n hx hb dX2_inOrder_5 rfl (lv_at hl 0 rfl) ?_
      refine va_get (D := D) (ci := 2) (v := .int f0_n) (C := RX2) (T := TX2) (N := 3) hx hb hts in_X2_inOrder_X2 hown hK hP 0 rfl rfl 0 (by decide) lk_0 (fun _ h9 => h9) rfl dX2_inOrder_6 ?_
      refine lv_icmp_ge (tgt := 44) hx hb dX2_inOrder_9 (by decide) (fun c_1 => ?_) (fun c_1 => ?_)
      · have k_2 : f0_n ≤ x3 := c_1
        have h := cw_t k_2 h
        refine lv_lconst (v := (0 : Int64)) hx hb dX2_inOrder_44 (by decide) ?_
        have h := Option.some.inj h
        subst h
        subst hQ
        exact W.lret (v := (0 : Int64)) hx hb hr (fun t ht hW => ⟨⟨(0 : Int64), (), rfl, ⟨rfl, trivial⟩, by rw [ht]; exact hP, hD⟩, hS.F ht⟩) hS.2.2 dX2_inOrder_45
      · have k_2 : ¬ (f0_n ≤ x3) := c_1
        have h := cw_f k_2 h
        refine lv_aload_n hx hb dX2_inOrder_12 rfl (lv_at hl 0 rfl) ?_
        refine va_get (D := D) (ci := 2) (v := .ref q0_byHead) (C := RX2) (T := TX2) (N := 3) hx hb hts in_X2_inOrder_X2 hown hK hP 0 rfl rfl 1 (by decide) lk_1 (fun _ h9 => h9) rfl dX2_inOrder_13 ?_
        refine lv_iload_n hx hb dX2_inOrder_16 rfl (lv_at hl 3 rfl) ?_
        obtain ⟨b_3, h⟩ := cw_i h
        refine va_lald hx hb hK hP 1 1 rfl rfl b_3 dX2_inOrder_17 ?_
        refine lv_lconst (v := (0 : Int64)) hx hb dX2_inOrder_18 (by decide) ?_
        refine W.lcmp hx hb dX2_inOrder_19 ?_
        refine lv_if_eq (tgt := 38) hx hb dX2_inOrder_20 (by decide) (fun c_4 => ?_) (fun c_4 => ?_)
        · have k_5 : (h0_byHead x3.toNatClampNeg) = (0 : Int64) := ((lg_cmp_eq _ _).mp c_4)
          have h := cw_t k_5 h
          refine lv_iinc (v := x3 + (1 : Int32)) (lv' := [(3, .int (x3 + (1 : Int32))), (0, .ref q0), (1, .int x1), (2, .int x2)]) hx hb dX2_inOrder_38 hl (k := 3) rfl rfl (by decide) rfl (fun ls hl => ?_)
          refine lv_goto (tgt := 4) hx hb dX2_inOrder_41 (by decide) ?_
          exact ih _ _ h _ _ _ hP hD hS (lv_sub hl [1, 2, 3, 0] rfl)
        · have k_5 : ¬ ((h0_byHead x3.toNatClampNeg) = (0 : Int64)) := (fun z9 => c_4 ((lg_cmp_eq _ _).mpr z9))
          have h := cw_f k_5 h
          refine lv_iload_n hx hb dX2_inOrder_23 rfl (lv_at hl 2 rfl) ?_
          refine lv_iload_n hx hb dX2_inOrder_24 rfl (lv_at hl 1 rfl) ?_
          refine lv_icmp_ne (tgt := 35) hx hb dX2_inOrder_25 (by decide) (fun c_6 => ?_) (fun c_6 => ?_)
          · have k_7 : ¬ (x2 = x1) := c_6
            have h := cw_f k_7 h
            refine lv_iinc (v := x2 + (1 : Int32)) (lv' := [(2, .int (x2 + (1 : Int32))), (0, .ref q0), (1, .int x1), (3, .int x3)]) hx hb dX2_inOrder_35 hl (k := 2) rfl rfl (by decide) rfl (fun ls hl => ?_)
            refine lv_iinc (v := x3 + (1 : Int32)) (lv' := [(3, .int (x3 + (1 : Int32))), (2, .int (x2 + (1 : Int32))), (0, .ref q0), (1, .int x1)]) hx hb dX2_inOrder_38 hl (k := 3) rfl rfl (by decide) rfl (fun ls hl => ?_)
            refine lv_goto (tgt := 4) hx hb dX2_inOrder_41 (by decide) ?_
            exact ih _ _ h _ _ _ hP hD hS (lv_sub hl [2, 3, 1, 0] rfl)
          · have k_7 : x2 = x1 := c_6
            have h := cw_t k_7 h
            refine lv_aload_n hx hb dX2_inOrder_28 rfl (lv_at hl 0 rfl) ?_
            refine va_get (D := D) (ci := 2) (v := .ref q0_byHead) (C := RX2) (T := TX2) (N := 3) hx hb hts in_X2_inOrder_X2 hown hK hP 0 rfl rfl 1 (by decide) lk_1 (fun _ h9 => h9) rfl dX2_inOrder_29 ?_
            refine lv_iload_n hx hb dX2_inOrder_32 rfl (lv_at hl 3 rfl) ?_
            obtain ⟨b_8, h⟩ := cw_i h
            refine va_lald hx hb hK hP 1 1 rfl rfl b_8 dX2_inOrder_33 ?_
            have h := Option.some.inj h
            subst h
            subst hQ
            exact W.lret (v := h0_byHead x3.toNatClampNeg) hx hb hr (fun t ht hW => ⟨⟨h0_byHead x3.toNatClampNeg, (), rfl, ⟨rfl, trivial⟩, by rw [ht]; exact hP, hD⟩, hS.F ht⟩) hS.2.2 dX2_inOrder_34
  have h := hr0
  unfold D_X2_inOrder at h
  refine lv_iconst (v := (0 : Int32)) hx hb dX2_inOrder_0 (by decide) ?_
  refine lv_istore_n (lv' := [(2, .int (0 : Int32)), (0, .ref q0), (1, .int x1)]) hx hb dX2_inOrder_1 rfl hl (by decide) rfl (fun ls hl => ?_)
  refine lv_iconst (v := (0 : Int32)) hx hb dX2_inOrder_2 (by decide) ?_
  refine lv_istore_n (lv' := [(3, .int (0 : Int32)), (2, .int (0 : Int32)), (0, .ref q0), (1, .int x1)]) hx hb dX2_inOrder_3 rfl hl (by decide) rfl (fun ls hl => ?_)
  obtain ⟨n9, hn9⟩ := runw_some h
  exact (hloop n9) _ _ hn9 _ _ _ hP hD hS (lv_sub hl [2, 3, 1, 0] rfl)
theorem in_X2_settle_X2 : ∀ w ∈ wsX20, w ∈ wsX2_settle := by decide +kernel
theorem lk_0_X2_settle : Cond.fieldLink RX2 9 "ParityClauses$Rows" "n" "I" ∈ wsX2_settle := by decide +kernel
theorem lk_1_X2_settle : Cond.fieldLink RX2 15 "ParityClauses$Rows" "byHead" "[J" ∈ wsX2_settle := by decide +kernel
theorem lk_2_X2_settle : Cond.constantLong RX2 65 (4611686018427387904) ∈ wsX2_settle := by decide +kernel
abbrev rm_X2_settle : Room := { frames := 2, cells := 0, slots := 0, locals := 47 }
set_option maxHeartbeats 4000000 in
set_option maxRecDepth 100000 in
theorem cm_X2_settle (l : Launch) (D : va_G) (cI cL : ClassId) (q0 q0_byHead : Nat) (n0_byHead : Nat) (f0_n : Int32) (f0_impossible : Bool) (h0_byHead : Nat → Int64) (x1 : Int32) (x2 : Bool) (r0 : Bool × (Nat → Int64)) (hr0 : D_X2_settle f0_n f0_impossible n0_byHead h0_byHead x1 x2 = some r0) (sz : Nat) : Met l yX2_settle wsX2_settle rm_X2_settle (PcW D cI cL [.ref q0, .int x1, .int (bI x2)] [(q0, .inr (2, [.int f0_n, .ref q0_byHead, .int (bI f0_impossible)])), (q0_byHead, .inl (cL, n0_byHead, .inr (.inl h0_byHead)))] sz) (QvW D [(q0, .inr (2, [.int f0_n, .ref q0_byHead, .int (bI f0_impossible)])), (q0_byHead, .inl (cL, n0_byHead, .inr (.inl h0_byHead)))] (fun _ : Unit => [(q0, .inr (2, [.int f0_n, .ref q0_byHead, .int (bI r0.1)])), (q0_byHead, .inl (cL, n0_byHead, .inr (.inl r0.2)))]) tU sz) 0 0 (va_A [(q0, .inr (2, [.int f0_n, .ref q0_byHead, .int (bI f0_impossible)])), (q0_byHead, .inl (cL, n0_byHead, .inr (.inl h0_byHead)))] sz) := by
  refine Met.ofW (cc := cX2_settle) (maxL := 8) (ret := none) (by decide) rfl ?_
  intro p e s m args below meth c s₁ B hml hv
  obtain ⟨hargs, hsz, hP, hEV, hD0⟩ := hv
  have hx := B.exec
  have hb := B.bytes
  have hr := B.returns
  have hts := atoms_spec (ws := wsX2_settle) B.pre
  have hown : s.vm.findClass RX2 = some m.cls := findClass_of_methodNamed B.named
  have hlocks := B.notSynchronized
  have hK := hEV.K
  have lk_0 := hts _ lk_0_X2_settle
  have lk_1 := hts _ lk_1_X2_settle
  have lk_2 := hts _ lk_2_X2_settle
  subst hsz
  unfold QvW PoW
  have hD := hD0.self (sz := s.heap.size)
  generalize hAe : va_A [(q0, .inr (2, [.int f0_n, .ref q0_byHead, .int (bI f0_impossible)])), (q0_byHead, .inl (cL, n0_byHead, .inr (.inl h0_byHead)))] s.heap.size = A at hD ⊢
  have hA : ∀ q : Nat, s.heap.size ≤ q → A q := fun q h => by rw [← hAe]; exact Or.inr h
  have hent : entryFrame m args 8 = entryFrame m ([.ref q0, .int x1, .int (bI x2)] : List Value).toArray 8 := by rw [hargs]
  rw [hent]
  refine kx_Q (fun Q hQ => ?_)
  refine kx_H (fun H hH => ?_)
  have hP : va_P D vwCl [(q0, .inr (2, [.int f0_n, .ref q0_byHead, .int (bI f0_impossible)])), (q0_byHead, .inl (cL, n0_byHead, .inr (.inl h0_byHead)))] H := by rw [hH]; exact hP
  have hS : va_S A s.heap H [] := by rw [hH]; exact va_S.rf
  have hl := lv_entry ([.ref q0, .int x1, .int (bI x2)]) (n := 8) (Nat.le_of_ble_eq_true rfl)
  rw [lg_entry_eq]
  generalize (lg_sl ([.ref q0, .int x1, .int (bI x2)]) ++ List.replicate (8 - (lg_sl ([.ref q0, .int x1, .int (bI x2)])).length) Slot.unset).toArray = ls at hl ⊢
  have hl : lv_has ls 8 [(0, .ref q0), (1, .int x1), (2, .int (bI x2))] := hl
  have hloop : ∀ n9 : Nat, (∀ (x3 : Int64) (x7 : Int32) (f0_impossible : Bool) (h0_byHead : Nat → Int64), iter (st_X2_settle f0_n n0_byHead x1 x2) n9 (x3, x7, f0_impossible, h0_byHead) = some r0 → ∀ (H : Heap) (locs : List Loc) (ls : Array Slot), va_P D vwCl [(q0, .inr (2, [.int f0_n, .ref q0_byHead, .int (bI f0_impossible)])), (q0_byHead, .inl (cL, n0_byHead, .inr (.inl h0_byHead)))] H → va_D A [(q0, .inr (2, [.int f0_n, .ref q0_byHead, .int (bI f0_impossible)])), (q0_byHead, .inl (cL, n0_byHead, .inr (.inl h0_byHead)))] → va_S A s.heap H locs → lv_has ls 8 [(0, .ref q0), (1, .int x1), (3, .long x3), (7, .int x7)] → W p l e (headSpec wsX2_settle rm_X2_settle).room s m args below meth c H locs 0 0 Q (F0 m 63 ls [])) := by
    intro n9
    induction n9 with
    | zero => exact (fun _ _ _ _ h => nomatch h)
    | succ n9 ih =>
      intro x3 x7 f0_impossible h0_byHead h H locs ls hP hD hS hl
      have h : run1 (iter (st_X2_settle f0_n n0_byHead x1 x2) n9) (b_X2_settle_63 f0_n n0_byHead x1 x2 x3 x7 f0_impossible h0_byHead) = some r0 := h
      unfold b_X2_settle_63 at h
      refine lv_iload hx hb dX2_settle_63 (lv_at hl 3 rfl) ?_
      refine lv_iload_n hx hb dX2_settle_65 rfl (lv_at hl 1 rfl) ?_
      refine lv_icmp_ge (tgt := 102) hx hb dX2_settle_66 (by decide) (fun c_19 => ?_) (fun c_19 => ?_)
      · have k_20 : x1 ≤ x7 := c_19
        have h := cw_t k_20 h
        have h := Option.some.inj h
        subst h
        subst hQ
        exact W.vret hx hb hr (fun t ht hW => ⟨⟨(), rfl, trivial, by rw [ht]; exact hP, hD⟩, hS.F ht⟩) hS.2.2 dX2_settle_102
      · have k_20 : ¬ (x1 ≤ x7) := c_19
        have h := cw_f k_20 h
        refine lv_aload_n hx hb dX2_settle_69 rfl (lv_at hl 0 rfl) ?_
        refine va_get (D := D) (ci := 2) (v := .ref q0_byHead) (C := RX2) (T := TX2) (N := 3) hx hb hts in_X2_settle_X2 hown hK hP 0 rfl rfl 1 (by decide) lk_1 (fun _ h9 => h9) rfl dX2_settle_70 ?_
        refine lv_iload hx hb dX2_settle_73 (lv_at hl 3 rfl) ?_
        obtain ⟨b_21, h⟩ := cw_i h
        refine va_lald hx hb hK hP 1 1 rfl rfl b_21 dX2_settle_75 ?_
        refine lv_iload_n hx hb dX2_settle_76 rfl (lv_at hl 1 rfl) ?_
        refine lv_lushr (v := jushr (h0_byHead x7.toNatClampNeg) x1) hx hb dX2_settle_77 rfl ?_
        refine lv_lconst (v := (1 : Int64)) hx hb dX2_settle_78 (by decide) ?_
        refine lv_land hx hb dX2_settle_79 ?_
        refine lv_lconst (v := (0 : Int64)) hx hb dX2_settle_80 (by decide) ?_
        refine W.lcmp hx hb dX2_settle_81 ?_
        refine lv_if_eq (tgt := 96) hx hb dX2_settle_82 (by decide) (fun c_22 => ?_) (fun c_22 => ?_)
        · have k_23 : ((jushr (h0_byHead x7.toNatClampNeg) x1) &&& (1 : Int64)) = (0 : Int64) := ((lg_cmp_eq _ _).mp c_22)
          have h := cw_t k_23 h
          refine lv_iinc (v := x7 + (1 : Int32)) (lv' := [(7, .int (x7 + (1 : Int32))), (0, .ref q0), (1, .int x1), (3, .long x3)]) hx hb dX2_settle_96 hl (k := 3) rfl rfl (by decide) rfl (fun ls hl => ?_)
          refine lv_goto (tgt := 63) hx hb dX2_settle_99 (by decide) ?_
          exact ih _ _ _ _ h _ _ _ hP hD hS (lv_sub hl [1, 2, 3, 0] rfl)
        · have k_23 : ¬ (((jushr (h0_byHead x7.toNatClampNeg) x1) &&& (1 : Int64)) = (0 : Int64)) := (fun z9 => c_22 ((lg_cmp_eq _ _).mpr z9))
          have h := cw_f k_23 h
          refine lv_aload_n hx hb dX2_settle_85 rfl (lv_at hl 0 rfl) ?_
          refine va_get (D := D) (ci := 2) (v := .ref q0_byHead) (C := RX2) (T := TX2) (N := 3) hx hb hts in_X2_settle_X2 hown hK hP 0 rfl rfl 1 (by decide) lk_1 (fun _ h9 => h9) rfl dX2_settle_86 ?_
          refine lv_iload hx hb dX2_settle_89 (lv_at hl 3 rfl) ?_
          refine lv_dup2_11 hx hb dX2_settle_91 rfl rfl ?_
          obtain ⟨b_24, h⟩ := cw_i h
          refine va_lald hx hb hK hP 1 1 rfl rfl b_24 dX2_settle_92 ?_
          refine lv_lload_n hx hb dX2_settle_93 rfl (lv_at hl 2 rfl) ?_
          refine lv_lxor hx hb dX2_settle_94 ?_
          obtain ⟨b_25, h⟩ := cw_i h
          refine va_last hx hb hK hP hD hS 1 1 rfl rfl b_25 dX2_settle_95 (fun H locs hP hD hS => ?_)
          have hP : va_P D vwCl [(q0, .inr (2, [.int f0_n, .ref q0_byHead, .int (bI f0_impossible)])), (q0_byHead, .inl (cL, n0_byHead, .inr (.inl (vp_updL h0_byHead x7.toNatClampNeg ((h0_byHead x7.toNatClampNeg) ^^^ x3)))))] H := hP
          have hD : va_D A [(q0, .inr (2, [.int f0_n, .ref q0_byHead, .int (bI f0_impossible)])), (q0_byHead, .inl (cL, n0_byHead, .inr (.inl (vp_updL h0_byHead x7.toNatClampNeg ((h0_byHead x7.toNatClampNeg) ^^^ x3)))))] := hD
          refine lv_iinc (v := x7 + (1 : Int32)) (lv' := [(7, .int (x7 + (1 : Int32))), (0, .ref q0), (1, .int x1), (3, .long x3)]) hx hb dX2_settle_96 hl (k := 3) rfl rfl (by decide) rfl (fun ls hl => ?_)
          refine lv_goto (tgt := 63) hx hb dX2_settle_99 (by decide) ?_
          exact ih _ _ _ _ h _ _ _ hP hD hS (lv_sub hl [1, 2, 3, 0] rfl)
  have h := hr0
  unfold D_X2_settle at h
  refine lv_iload_n hx hb dX2_settle_0 rfl (lv_at hl 1 rfl) ?_
  refine lv_if_lt (tgt := 12) hx hb dX2_settle_1 (by decide) (fun c_1 => ?_) (fun c_1 => ?_)
  · have k_2 : x1 < 0 := c_1
    have h := co_t k_2 h
    have h := Option.some.inj h
    subst h
    subst hQ
    exact W.vret hx hb hr (fun t ht hW => ⟨⟨(), rfl, trivial, by rw [ht]; exact hP, hD⟩, hS.F ht⟩) hS.2.2 dX2_settle_12
  · have k_2 : ¬ (x1 < 0) := c_1
    have h := co_f k_2 h
    refine lv_iload_n hx hb dX2_settle_4 rfl (lv_at hl 1 rfl) ?_
    refine lv_aload_n hx hb dX2_settle_5 rfl (lv_at hl 0 rfl) ?_
    refine va_get (D := D) (ci := 2) (v := .int f0_n) (C := RX2) (T := TX2) (N := 3) hx hb hts in_X2_settle_X2 hown hK hP 0 rfl rfl 0 (by decide) lk_0 (fun _ h9 => h9) rfl dX2_settle_6 ?_
    refine lv_icmp_lt (tgt := 13) hx hb dX2_settle_9 (by decide) (fun c_3 => ?_) (fun c_3 => ?_)
    · have k_4 : x1 < f0_n := c_3
      have h := co_t k_4 h
      refine lv_lconst (v := (1 : Int64)) hx hb dX2_settle_13 (by decide) ?_
      refine lv_iload_n hx hb dX2_settle_14 rfl (lv_at hl 1 rfl) ?_
      refine lv_lshl (v := jshl (1 : Int64) x1) hx hb dX2_settle_15 rfl ?_
      refine lv_iload_n hx hb dX2_settle_16 rfl (lv_at hl 2 rfl) ?_
      refine lv_if_eq (tgt := 26) hx hb dX2_settle_17 (by decide) (fun c_5 => ?_) (fun c_5 => ?_)
      · have k_6 : ¬ (x2 = true) := (kx_z c_5)
        have h := co_f k_6 h
        refine lv_lconst (v := (0 : Int64)) hx hb dX2_settle_26 (by decide) ?_
        refine lv_lor hx hb dX2_settle_27 ?_
        refine lv_lstore_n (lv' := [(3, .long ((jshl (1 : Int64) x1) ||| (0 : Int64))), (0, .ref q0), (1, .int x1), (2, .int (bI x2))]) hx hb dX2_settle_28 rfl hl (by decide) rfl (fun ls hl => ?_)
        refine lv_aload_n hx hb dX2_settle_29 rfl (lv_at hl 1 rfl) ?_
        refine va_get (D := D) (ci := 2) (v := .ref q0_byHead) (C := RX2) (T := TX2) (N := 3) hx hb hts in_X2_settle_X2 hown hK hP 0 rfl rfl 1 (by decide) lk_1 (fun _ h9 => h9) rfl dX2_settle_30 ?_
        refine lv_iload_n hx hb dX2_settle_33 rfl (lv_at hl 2 rfl) ?_
        obtain ⟨b_7, h⟩ := co_i h
        refine va_lald hx hb hK hP 1 1 rfl rfl b_7 dX2_settle_34 ?_
        refine lv_lstore (lv' := [(5, .long (h0_byHead x1.toNatClampNeg)), (3, .long ((jshl (1 : Int64) x1) ||| (0 : Int64))), (0, .ref q0), (1, .int x1), (2, .int (bI x2))]) hx hb dX2_settle_35 hl (by decide) rfl (fun ls hl => ?_)
        refine lv_lload hx hb dX2_settle_37 (lv_at hl 0 rfl) ?_
        refine lv_lconst (v := (0 : Int64)) hx hb dX2_settle_39 (by decide) ?_
        refine W.lcmp hx hb dX2_settle_40 ?_
        refine lv_if_eq (tgt := 60) hx hb dX2_settle_41 (by decide) (fun c_8 => ?_) (fun c_8 => ?_)
        · have k_9 : (h0_byHead x1.toNatClampNeg) = (0 : Int64) := ((lg_cmp_eq _ _).mp c_8)
          have h := co_t k_9 h
          refine lv_iconst (v := (0 : Int32)) hx hb dX2_settle_60 (by decide) ?_
          refine lv_istore (lv' := [(7, .int (0 : Int32)), (5, .long (h0_byHead x1.toNatClampNeg)), (3, .long ((jshl (1 : Int64) x1) ||| (0 : Int64))), (0, .ref q0), (1, .int x1), (2, .int (bI x2))]) hx hb dX2_settle_61 hl (by decide) rfl (fun ls hl => ?_)
          obtain ⟨n9, hn9⟩ := runw_some h
          exact (hloop n9) _ _ _ _ hn9 _ _ _ hP hD hS (lv_sub hl [3, 4, 2, 0] rfl)
        · have k_9 : ¬ ((h0_byHead x1.toNatClampNeg) = (0 : Int64)) := (fun z9 => c_8 ((lg_cmp_eq _ _).mpr z9))
          have h := co_f k_9 h
          refine lv_aload_n hx hb dX2_settle_44 rfl (lv_at hl 2 rfl) ?_
          refine va_get (D := D) (ci := 2) (v := .ref q0_byHead) (C := RX2) (T := TX2) (N := 3) hx hb hts in_X2_settle_X2 hown hK hP 0 rfl rfl 1 (by decide) lk_1 (fun _ h9 => h9) rfl dX2_settle_45 ?_
          refine lv_iload_n hx hb dX2_settle_48 rfl (lv_at hl 3 rfl) ?_
          refine lv_lconst (v := (0 : Int64)) hx hb dX2_settle_49 (by decide) ?_
          obtain ⟨b_10, h⟩ := co_i h
          refine va_last hx hb hK hP hD hS 1 1 rfl rfl b_10 dX2_settle_50 (fun H locs hP hD hS => ?_)
          have hP : va_P D vwCl [(q0, .inr (2, [.int f0_n, .ref q0_byHead, .int (bI f0_impossible)])), (q0_byHead, .inl (cL, n0_byHead, .inr (.inl (vp_updL h0_byHead x1.toNatClampNeg (0 : Int64)))))] H := hP
          have hD : va_D A [(q0, .inr (2, [.int f0_n, .ref q0_byHead, .int (bI f0_impossible)])), (q0_byHead, .inl (cL, n0_byHead, .inr (.inl (vp_updL h0_byHead x1.toNatClampNeg (0 : Int64)))))] := hD
          refine lv_aload_n hx hb dX2_settle_51 rfl (lv_at hl 2 rfl) ?_
          refine lv_lload hx hb dX2_settle_52 (lv_at hl 0 rfl) ?_
          refine lv_lload_n hx hb dX2_settle_54 rfl (lv_at hl 1 rfl) ?_
          refine lv_lxor hx hb dX2_settle_55 ?_
          obtain ⟨u_11, hu_12, h⟩ := co_b h
          refine kx_v (ws' := fun _ => [(q0, .inr (2, [.int f0_n, .ref q0_byHead, .int (bI u_11.1)])), (q0_byHead, .inl (cL, n0_byHead, .inr (.inl u_11.2)))]) hP hD hS hA [0, 1] [] [0, 1] rfl rfl (by decide) (by decide) (fun _ => rfl) (by decide) (va_runV (As := [.long ((h0_byHead x1.toNatClampNeg) ^^^ ((jshl (1 : Int64) x1) ||| (0 : Int64)))]) (rest := []) ⟨hx, hb, hml, hown, hts⟩ (cm_X2_enter l D cI cL (q0 := q0) (q0_byHead := q0_byHead) (n0_byHead := n0_byHead) (f0_n := f0_n) (f0_impossible := f0_impossible) (h0_byHead := vp_updL h0_byHead x1.toNatClampNeg (0 : Int64)) (x1 := (h0_byHead x1.toNatClampNeg) ^^^ ((jshl (1 : Int64) x1) ||| (0 : Int64))) (r0 := u_11) (hr0 := hu_12) (sz := H.size)) (cwV 1 hts gX2_settle_X2_enter rfl rfl rfl (by decide +kernel) ⟨Nat.le_of_ble_eq_true rfl, Nat.le_of_ble_eq_true rfl⟩) (kx_preV hEV hP hD [0, 1] rfl (by decide) (k0 := 0) (ci := 2) rfl rfl rfl) rfl rfl hl.1 rfl (lv_room (Nat.le_of_ble_eq_true rfl)) dX2_settle_56 ⟨Nat.le_of_ble_eq_true rfl, Nat.le_of_ble_eq_true rfl⟩) (fun _ H locs _ hP hD hS => ?_)
          have h := Option.some.inj h
          subst h
          subst hQ
          exact W.vret hx hb hr (fun t ht hW => ⟨⟨(), rfl, trivial, by rw [ht]; exact hP, hD⟩, hS.F ht⟩) hS.2.2 dX2_settle_59
      · have k_6 : x2 = true := (kx_nz c_5)
        have h := co_t k_6 h
        refine lv_ldc2 hx hb hown lk_2 dX2_settle_20 ?_
        refine lv_goto (tgt := 27) hx hb dX2_settle_23 (by decide) ?_
        refine lv_lor hx hb dX2_settle_27 ?_
        refine lv_lstore_n (lv' := [(3, .long ((jshl (1 : Int64) x1) ||| (4611686018427387904 : Int64))), (0, .ref q0), (1, .int x1), (2, .int (bI x2))]) hx hb dX2_settle_28 rfl hl (by decide) rfl (fun ls hl => ?_)
        refine lv_aload_n hx hb dX2_settle_29 rfl (lv_at hl 1 rfl) ?_
        refine va_get (D := D) (ci := 2) (v := .ref q0_byHead) (C := RX2) (T := TX2) (N := 3) hx hb hts in_X2_settle_X2 hown hK hP 0 rfl rfl 1 (by decide) lk_1 (fun _ h9 => h9) rfl dX2_settle_30 ?_
        refine lv_iload_n hx hb dX2_settle_33 rfl (lv_at hl 2 rfl) ?_
        obtain ⟨b_13, h⟩ := co_i h
        refine va_lald hx hb hK hP 1 1 rfl rfl b_13 dX2_settle_34 ?_
        refine lv_lstore (lv' := [(5, .long (h0_byHead x1.toNatClampNeg)), (3, .long ((jshl (1 : Int64) x1) ||| (4611686018427387904 : Int64))), (0, .ref q0), (1, .int x1), (2, .int (bI x2))]) hx hb dX2_settle_35 hl (by decide) rfl (fun ls hl => ?_)
        refine lv_lload hx hb dX2_settle_37 (lv_at hl 0 rfl) ?_
        refine lv_lconst (v := (0 : Int64)) hx hb dX2_settle_39 (by decide) ?_
        refine W.lcmp hx hb dX2_settle_40 ?_
        refine lv_if_eq (tgt := 60) hx hb dX2_settle_41 (by decide) (fun c_14 => ?_) (fun c_14 => ?_)
        · have k_15 : (h0_byHead x1.toNatClampNeg) = (0 : Int64) := ((lg_cmp_eq _ _).mp c_14)
          have h := co_t k_15 h
          refine lv_iconst (v := (0 : Int32)) hx hb dX2_settle_60 (by decide) ?_
          refine lv_istore (lv' := [(7, .int (0 : Int32)), (5, .long (h0_byHead x1.toNatClampNeg)), (3, .long ((jshl (1 : Int64) x1) ||| (4611686018427387904 : Int64))), (0, .ref q0), (1, .int x1), (2, .int (bI x2))]) hx hb dX2_settle_61 hl (by decide) rfl (fun ls hl => ?_)
          obtain ⟨n9, hn9⟩ := runw_some h
          exact (hloop n9) _ _ _ _ hn9 _ _ _ hP hD hS (lv_sub hl [3, 4, 2, 0] rfl)
        · have k_15 : ¬ ((h0_byHead x1.toNatClampNeg) = (0 : Int64)) := (fun z9 => c_14 ((lg_cmp_eq _ _).mpr z9))
          have h := co_f k_15 h
          refine lv_aload_n hx hb dX2_settle_44 rfl (lv_at hl 2 rfl) ?_
          refine va_get (D := D) (ci := 2) (v := .ref q0_byHead) (C := RX2) (T := TX2) (N := 3) hx hb hts in_X2_settle_X2 hown hK hP 0 rfl rfl 1 (by decide) lk_1 (fun _ h9 => h9) rfl dX2_settle_45 ?_
          refine lv_iload_n hx hb dX2_settle_48 rfl (lv_at hl 3 rfl) ?_
          refine lv_lconst (v := (0 : Int64)) hx hb dX2_settle_49 (by decide) ?_
          obtain ⟨b_16, h⟩ := co_i h
          refine va_last hx hb hK hP hD hS 1 1 rfl rfl b_16 dX2_settle_50 (fun H locs hP hD hS => ?_)
          have hP : va_P D vwCl [(q0, .inr (2, [.int f0_n, .ref q0_byHead, .int (bI f0_impossible)])), (q0_byHead, .inl (cL, n0_byHead, .inr (.inl (vp_updL h0_byHead x1.toNatClampNeg (0 : Int64)))))] H := hP
          have hD : va_D A [(q0, .inr (2, [.int f0_n, .ref q0_byHead, .int (bI f0_impossible)])), (q0_byHead, .inl (cL, n0_byHead, .inr (.inl (vp_updL h0_byHead x1.toNatClampNeg (0 : Int64)))))] := hD
          refine lv_aload_n hx hb dX2_settle_51 rfl (lv_at hl 2 rfl) ?_
          refine lv_lload hx hb dX2_settle_52 (lv_at hl 0 rfl) ?_
          refine lv_lload_n hx hb dX2_settle_54 rfl (lv_at hl 1 rfl) ?_
          refine lv_lxor hx hb dX2_settle_55 ?_
          obtain ⟨u_17, hu_18, h⟩ := co_b h
          refine kx_v (ws' := fun _ => [(q0, .inr (2, [.int f0_n, .ref q0_byHead, .int (bI u_17.1)])), (q0_byHead, .inl (cL, n0_byHead, .inr (.inl u_17.2)))]) hP hD hS hA [0, 1] [] [0, 1] rfl rfl (by decide) (by decide) (fun _ => rfl) (by decide) (va_runV (As := [.long ((h0_byHead x1.toNatClampNeg) ^^^ ((jshl (1 : Int64) x1) ||| (4611686018427387904 : Int64)))]) (rest := []) ⟨hx, hb, hml, hown, hts⟩ (cm_X2_enter l D cI cL (q0 := q0) (q0_byHead := q0_byHead) (n0_byHead := n0_byHead) (f0_n := f0_n) (f0_impossible := f0_impossible) (h0_byHead := vp_updL h0_byHead x1.toNatClampNeg (0 : Int64)) (x1 := (h0_byHead x1.toNatClampNeg) ^^^ ((jshl (1 : Int64) x1) ||| (4611686018427387904 : Int64))) (r0 := u_17) (hr0 := hu_18) (sz := H.size)) (cwV 1 hts gX2_settle_X2_enter rfl rfl rfl (by decide +kernel) ⟨Nat.le_of_ble_eq_true rfl, Nat.le_of_ble_eq_true rfl⟩) (kx_preV hEV hP hD [0, 1] rfl (by decide) (k0 := 0) (ci := 2) rfl rfl rfl) rfl rfl hl.1 rfl (lv_room (Nat.le_of_ble_eq_true rfl)) dX2_settle_56 ⟨Nat.le_of_ble_eq_true rfl, Nat.le_of_ble_eq_true rfl⟩) (fun _ H locs _ hP hD hS => ?_)
          have h := Option.some.inj h
          subst h
          subst hQ
          exact W.vret hx hb hr (fun t ht hW => ⟨⟨(), rfl, trivial, by rw [ht]; exact hP, hD⟩, hS.F ht⟩) hS.2.2 dX2_settle_59
    · have k_4 : ¬ (x1 < f0_n) := c_3
      have h := co_f k_4 h
      have h := Option.some.inj h
      subst h
      subst hQ
      exact W.vret hx hb hr (fun t ht hW => ⟨⟨(), rfl, trivial, by rw [ht]; exact hP, hD⟩, hS.F ht⟩) hS.2.2 dX2_settle_12
theorem in_X5_begin_X5 : ∀ w ∈ wsX50, w ∈ wsX5_begin := by decide +kernel
theorem lk_0_X5_begin : Cond.fieldLink RX5 20 "ParityClauses$Taking" "rows" "LParityClauses$Rows;" ∈ wsX5_begin := by decide +kernel
theorem lk_1_X5_begin : Cond.fieldLink RX5 28 "ParityClauses$Taking" "taken" "J" ∈ wsX5_begin := by decide +kernel
theorem lk_2_X5_begin : Cond.fieldLink RX5 32 "ParityClauses$Taking" "ones" "J" ∈ wsX5_begin := by decide +kernel
abbrev rm_X5_begin : Room := { frames := 2, cells := 0, slots := 0, locals := 61 }
set_option maxHeartbeats 4000000 in
set_option maxRecDepth 100000 in
theorem cm_X5_begin (l : Launch) (D : va_G) (cI cL : ClassId) (q0 q0_rows q0_rows_byHead q1 q1_byHead : Nat) (n0_rows_byHead n1_byHead : Nat) (f0_taken : Int64) (f0_ones : Int64) (f0_rows_n : Int32) (f0_rows_impossible : Bool) (h0_rows_byHead : Nat → Int64) (f1_n : Int32) (f1_impossible : Bool) (h1_byHead : Nat → Int64) (v0_n : Value) (r0 : Int64 × Int64 × Bool × (Nat → Int64)) (hr0 : D_X5_begin f0_taken f0_ones f0_rows_n f0_rows_impossible n0_rows_byHead h0_rows_byHead f1_n f1_impossible n1_byHead h1_byHead = some r0) (sz : Nat) : Met l yX5_begin wsX5_begin rm_X5_begin (PcW D cI cL [.ref q0, .ref q1] [(q0, .inr (5, [v0_n, .ref q0_rows, .long f0_taken, .long f0_ones])), (q0_rows, .inr (2, [.int f0_rows_n, .ref q0_rows_byHead, .int (bI f0_rows_impossible)])), (q0_rows_byHead, .inl (cL, n0_rows_byHead, .inr (.inl h0_rows_byHead))), (q1, .inr (2, [.int f1_n, .ref q1_byHead, .int (bI f1_impossible)])), (q1_byHead, .inl (cL, n1_byHead, .inr (.inl h1_byHead)))] sz) (QvW D [(q0, .inr (5, [v0_n, .ref q0_rows, .long f0_taken, .long f0_ones])), (q0_rows, .inr (2, [.int f0_rows_n, .ref q0_rows_byHead, .int (bI f0_rows_impossible)])), (q0_rows_byHead, .inl (cL, n0_rows_byHead, .inr (.inl h0_rows_byHead))), (q1, .inr (2, [.int f1_n, .ref q1_byHead, .int (bI f1_impossible)])), (q1_byHead, .inl (cL, n1_byHead, .inr (.inl h1_byHead)))] (fun _ : Unit => [(q0, .inr (5, [v0_n, .ref q0_rows, .long r0.1, .long r0.2.1])), (q0_rows, .inr (2, [.int f0_rows_n, .ref q0_rows_byHead, .int (bI r0.2.2.1)])), (q0_rows_byHead, .inl (cL, n0_rows_byHead, .inr (.inl r0.2.2.2))), (q1, .inr (2, [.int f1_n, .ref q1_byHead, .int (bI f1_impossible)])), (q1_byHead, .inl (cL, n1_byHead, .inr (.inl h1_byHead)))]) tU sz) 0 0 (va_A [(q0, .inr (5, [v0_n, .ref q0_rows, .long f0_taken, .long f0_ones])), (q0_rows, .inr (2, [.int f0_rows_n, .ref q0_rows_byHead, .int (bI f0_rows_impossible)])), (q0_rows_byHead, .inl (cL, n0_rows_byHead, .inr (.inl h0_rows_byHead))), (q1, .inr (2, [.int f1_n, .ref q1_byHead, .int (bI f1_impossible)])), (q1_byHead, .inl (cL, n1_byHead, .inr (.inl h1_byHead)))] sz) := by
  refine Met.ofW (cc := cX5_begin) (maxL := 2) (ret := none) (by decide) rfl ?_
  intro p e s m args below meth c s₁ B hml hv
  obtain ⟨hargs, hsz, hP, hEV, hD0⟩ := hv
  have hx := B.exec
  have hb := B.bytes
  have hr := B.returns
  have hts := atoms_spec (ws := wsX5_begin) B.pre
  have hown : s.vm.findClass RX5 = some m.cls := findClass_of_methodNamed B.named
  have hlocks := B.notSynchronized
  have hK := hEV.K
  have lk_0 := hts _ lk_0_X5_begin
  have lk_1 := hts _ lk_1_X5_begin
  have lk_2 := hts _ lk_2_X5_begin
  subst hsz
  unfold QvW PoW
  have hD := hD0.self (sz := s.heap.size)
  generalize hAe : va_A [(q0, .inr (5, [v0_n, .ref q0_rows, .long f0_taken, .long f0_ones])), (q0_rows, .inr (2, [.int f0_rows_n, .ref q0_rows_byHead, .int (bI f0_rows_impossible)])), (q0_rows_byHead, .inl (cL, n0_rows_byHead, .inr (.inl h0_rows_byHead))), (q1, .inr (2, [.int f1_n, .ref q1_byHead, .int (bI f1_impossible)])), (q1_byHead, .inl (cL, n1_byHead, .inr (.inl h1_byHead)))] s.heap.size = A at hD ⊢
  have hA : ∀ q : Nat, s.heap.size ≤ q → A q := fun q h => by rw [← hAe]; exact Or.inr h
  have hent : entryFrame m args 2 = entryFrame m ([.ref q0, .ref q1] : List Value).toArray 2 := by rw [hargs]
  rw [hent]
  refine kx_Q (fun Q hQ => ?_)
  refine kx_H (fun H hH => ?_)
  have hP : va_P D vwCl [(q0, .inr (5, [v0_n, .ref q0_rows, .long f0_taken, .long f0_ones])), (q0_rows, .inr (2, [.int f0_rows_n, .ref q0_rows_byHead, .int (bI f0_rows_impossible)])), (q0_rows_byHead, .inl (cL, n0_rows_byHead, .inr (.inl h0_rows_byHead))), (q1, .inr (2, [.int f1_n, .ref q1_byHead, .int (bI f1_impossible)])), (q1_byHead, .inl (cL, n1_byHead, .inr (.inl h1_byHead)))] H := by rw [hH]; exact hP
  have hS : va_S A s.heap H [] := by rw [hH]; exact va_S.rf
  have hl := lv_entry ([.ref q0, .ref q1]) (n := 2) (Nat.le_of_ble_eq_true rfl)
  rw [lg_entry_eq]
  generalize (lg_sl ([.ref q0, .ref q1]) ++ List.replicate (2 - (lg_sl ([.ref q0, .ref q1])).length) Slot.unset).toArray = ls at hl ⊢
  have hl : lv_has ls 2 [(0, .ref q0), (1, .ref q1)] := hl
  have h := hr0
  unfold D_X5_begin at h
  refine lv_aload_n hx hb dX5_begin_0 rfl (lv_at hl 0 rfl) ?_
  refine va_get (D := D) (ci := 5) (v := .ref q0_rows) (C := RX5) (T := TX5) (N := 4) hx hb hts in_X5_begin_X5 hown hK hP 0 rfl rfl 1 (by decide) lk_0 (fun _ h9 => h9) rfl dX5_begin_1 ?_
  refine lv_aload_n hx hb dX5_begin_4 rfl (lv_at hl 1 rfl) ?_
  obtain ⟨u_1, hu_2, h⟩ := co_b h
  refine kx_v (ws' := fun _ => [(q0, .inr (5, [v0_n, .ref q0_rows, .long f0_taken, .long f0_ones])), (q0_rows, .inr (2, [.int f0_rows_n, .ref q0_rows_byHead, .int (bI u_1.1)])), (q0_rows_byHead, .inl (cL, n0_rows_byHead, .inr (.inl u_1.2))), (q1, .inr (2, [.int f1_n, .ref q1_byHead, .int (bI f1_impossible)])), (q1_byHead, .inl (cL, n1_byHead, .inr (.inl h1_byHead)))]) hP hD hS hA [1, 2, 3, 4] [0] [0, 1, 2, 3, 4] rfl rfl (by decide) (by decide) (fun _ => rfl) (by decide) (va_runV (As := [.ref q1]) (rest := []) ⟨hx, hb, hml, hown, hts⟩ (cm_X2_copyFrom l D cI cL (q0 := q0_rows) (q0_byHead := q0_rows_byHead) (q1 := q1) (q1_byHead := q1_byHead) (n0_byHead := n0_rows_byHead) (n1_byHead := n1_byHead) (f0_n := f0_rows_n) (f0_impossible := f0_rows_impossible) (h0_byHead := h0_rows_byHead) (f1_n := f1_n) (f1_impossible := f1_impossible) (h1_byHead := h1_byHead) (r0 := u_1) (hr0 := hu_2) (sz := H.size)) (cwV 1 hts gX5_begin_X2_copyFrom rfl rfl rfl (by decide +kernel) ⟨Nat.le_of_ble_eq_true rfl, Nat.le_of_ble_eq_true rfl⟩) (kx_preV hEV hP hD [1, 2, 3, 4] rfl (by decide) (k0 := 1) (ci := 2) rfl rfl rfl) rfl rfl hl.1 rfl (lv_room (Nat.le_of_ble_eq_true rfl)) dX5_begin_5 ⟨Nat.le_of_ble_eq_true rfl, Nat.le_of_ble_eq_true rfl⟩) (fun _ H locs _ hP hD hS => ?_)
  refine lv_aload_n hx hb dX5_begin_8 rfl (lv_at hl 0 rfl) ?_
  refine lv_lconst (v := (0 : Int64)) hx hb dX5_begin_9 (by decide) ?_
  refine va_put (D := D) (ci := 5) (v := .long (0 : Int64)) (ty := .long) (C := RX5) (T := TX5) (N := 4) hx hb hts in_X5_begin_X5 tyX5 tyX5_ok nmX5 hown hK hP hD hS 0 rfl rfl 2 (by decide) lk_1 (fun _ h9 => h9) rfl (by decide +kernel) rfl rfl (Nat.le_of_ble_eq_true rfl) dX5_begin_10 (fun H locs hP hD hS => ?_)
  have hP : va_P D vwCl [(q0, .inr (5, [v0_n, .ref q0_rows, .long (0 : Int64), .long f0_ones])), (q0_rows, .inr (2, [.int f0_rows_n, .ref q0_rows_byHead, .int (bI u_1.1)])), (q0_rows_byHead, .inl (cL, n0_rows_byHead, .inr (.inl u_1.2))), (q1, .inr (2, [.int f1_n, .ref q1_byHead, .int (bI f1_impossible)])), (q1_byHead, .inl (cL, n1_byHead, .inr (.inl h1_byHead)))] H := hP
  have hD : va_D A [(q0, .inr (5, [v0_n, .ref q0_rows, .long (0 : Int64), .long f0_ones])), (q0_rows, .inr (2, [.int f0_rows_n, .ref q0_rows_byHead, .int (bI u_1.1)])), (q0_rows_byHead, .inl (cL, n0_rows_byHead, .inr (.inl u_1.2))), (q1, .inr (2, [.int f1_n, .ref q1_byHead, .int (bI f1_impossible)])), (q1_byHead, .inl (cL, n1_byHead, .inr (.inl h1_byHead)))] := hD
  refine lv_aload_n hx hb dX5_begin_13 rfl (lv_at hl 0 rfl) ?_
  refine lv_lconst (v := (0 : Int64)) hx hb dX5_begin_14 (by decide) ?_
  refine va_put (D := D) (ci := 5) (v := .long (0 : Int64)) (ty := .long) (C := RX5) (T := TX5) (N := 4) hx hb hts in_X5_begin_X5 tyX5 tyX5_ok nmX5 hown hK hP hD hS 0 rfl rfl 3 (by decide) lk_2 (fun _ h9 => h9) rfl (by decide +kernel) rfl rfl (Nat.le_of_ble_eq_true rfl) dX5_begin_15 (fun H locs hP hD hS => ?_)
  have hP : va_P D vwCl [(q0, .inr (5, [v0_n, .ref q0_rows, .long (0 : Int64), .long (0 : Int64)])), (q0_rows, .inr (2, [.int f0_rows_n, .ref q0_rows_byHead, .int (bI u_1.1)])), (q0_rows_byHead, .inl (cL, n0_rows_byHead, .inr (.inl u_1.2))), (q1, .inr (2, [.int f1_n, .ref q1_byHead, .int (bI f1_impossible)])), (q1_byHead, .inl (cL, n1_byHead, .inr (.inl h1_byHead)))] H := hP
  have hD : va_D A [(q0, .inr (5, [v0_n, .ref q0_rows, .long (0 : Int64), .long (0 : Int64)])), (q0_rows, .inr (2, [.int f0_rows_n, .ref q0_rows_byHead, .int (bI u_1.1)])), (q0_rows_byHead, .inl (cL, n0_rows_byHead, .inr (.inl u_1.2))), (q1, .inr (2, [.int f1_n, .ref q1_byHead, .int (bI f1_impossible)])), (q1_byHead, .inl (cL, n1_byHead, .inr (.inl h1_byHead)))] := hD
  have h := Option.some.inj h
  subst h
  subst hQ
  exact W.vret hx hb hr (fun t ht hW => ⟨⟨(), rfl, trivial, by rw [ht]; exact hP, hD⟩, hS.F ht⟩) hS.2.2 dX5_begin_18
theorem in_X3_begin_X3 : ∀ w ∈ wsX30, w ∈ wsX3_begin := by decide +kernel
theorem lk_0_X3_begin : Cond.fieldLink RX3 18 "ParityClauses$Search" "start" "LParityClauses$Taking;" ∈ wsX3_begin := by decide +kernel
theorem lk_1_X3_begin : Cond.fieldLink RX3 36 "ParityClauses$Search" "pileSize" "I" ∈ wsX3_begin := by decide +kernel
theorem lk_2_X3_begin : Cond.fieldLink RX3 39 "ParityClauses$Search" "nodeCount" "I" ∈ wsX3_begin := by decide +kernel
theorem lk_3_X3_begin : Cond.fieldLink RX3 42 "ParityClauses$Search" "modelCount" "I" ∈ wsX3_begin := by decide +kernel
theorem lk_4_X3_begin : Cond.fieldLink RX3 45 "ParityClauses$Search" "cut" "Z" ∈ wsX3_begin := by decide +kernel
abbrev rm_X3_begin : Room := { frames := 3, cells := 0, slots := 0, locals := 82 }
set_option maxHeartbeats 4000000 in
set_option maxRecDepth 100000 in
theorem cm_X3_begin (l : Launch) (D : va_G) (cI cL : ClassId) (q0 q0_start q0_start_rows q0_start_rows_byHead q1 q1_byHead : Nat) (n0_start_rows_byHead n1_byHead : Nat) (f0_pileSize : Int32) (f0_nodeCount : Int32) (f0_modelCount : Int32) (f0_cut : Bool) (f0_start_taken : Int64) (f0_start_ones : Int64) (f0_start_rows_n : Int32) (f0_start_rows_impossible : Bool) (h0_start_rows_byHead : Nat → Int64) (f1_n : Int32) (f1_impossible : Bool) (h1_byHead : Nat → Int64) (v0_n v0_pileRows v0_pileTaken v0_pileOnes v0_lastModel v0_start_n : Value) (r0 : Int32 × Int32 × Int32 × Bool × Int64 × Int64 × Bool × (Nat → Int64)) (hr0 : D_X3_begin f0_pileSize f0_nodeCount f0_modelCount f0_cut f0_start_taken f0_start_ones f0_start_rows_n f0_start_rows_impossible n0_start_rows_byHead h0_start_rows_byHead f1_n f1_impossible n1_byHead h1_byHead = some r0) (sz : Nat) : Met l yX3_begin wsX3_begin rm_X3_begin (PcW D cI cL [.ref q0, .ref q1] [(q0, .inr (3, [v0_n, .ref q0_start, v0_pileRows, v0_pileTaken, v0_pileOnes, .int f0_pileSize, .int f0_nodeCount, .int f0_modelCount, v0_lastModel, .int (bI f0_cut)])), (q0_start, .inr (5, [v0_start_n, .ref q0_start_rows, .long f0_start_taken, .long f0_start_ones])), (q0_start_rows, .inr (2, [.int f0_start_rows_n, .ref q0_start_rows_byHead, .int (bI f0_start_rows_impossible)])), (q0_start_rows_byHead, .inl (cL, n0_start_rows_byHead, .inr (.inl h0_start_rows_byHead))), (q1, .inr (2, [.int f1_n, .ref q1_byHead, .int (bI f1_impossible)])), (q1_byHead, .inl (cL, n1_byHead, .inr (.inl h1_byHead)))] sz) (QvW D [(q0, .inr (3, [v0_n, .ref q0_start, v0_pileRows, v0_pileTaken, v0_pileOnes, .int f0_pileSize, .int f0_nodeCount, .int f0_modelCount, v0_lastModel, .int (bI f0_cut)])), (q0_start, .inr (5, [v0_start_n, .ref q0_start_rows, .long f0_start_taken, .long f0_start_ones])), (q0_start_rows, .inr (2, [.int f0_start_rows_n, .ref q0_start_rows_byHead, .int (bI f0_start_rows_impossible)])), (q0_start_rows_byHead, .inl (cL, n0_start_rows_byHead, .inr (.inl h0_start_rows_byHead))), (q1, .inr (2, [.int f1_n, .ref q1_byHead, .int (bI f1_impossible)])), (q1_byHead, .inl (cL, n1_byHead, .inr (.inl h1_byHead)))] (fun _ : Unit => [(q0, .inr (3, [v0_n, .ref q0_start, v0_pileRows, v0_pileTaken, v0_pileOnes, .int r0.1, .int r0.2.1, .int r0.2.2.1, v0_lastModel, .int (bI r0.2.2.2.1)])), (q0_start, .inr (5, [v0_start_n, .ref q0_start_rows, .long r0.2.2.2.2.1, .long r0.2.2.2.2.2.1])), (q0_start_rows, .inr (2, [.int f0_start_rows_n, .ref q0_start_rows_byHead, .int (bI r0.2.2.2.2.2.2.1)])), (q0_start_rows_byHead, .inl (cL, n0_start_rows_byHead, .inr (.inl r0.2.2.2.2.2.2.2))), (q1, .inr (2, [.int f1_n, .ref q1_byHead, .int (bI f1_impossible)])), (q1_byHead, .inl (cL, n1_byHead, .inr (.inl h1_byHead)))]) tU sz) 0 0 (va_A [(q0, .inr (3, [v0_n, .ref q0_start, v0_pileRows, v0_pileTaken, v0_pileOnes, .int f0_pileSize, .int f0_nodeCount, .int f0_modelCount, v0_lastModel, .int (bI f0_cut)])), (q0_start, .inr (5, [v0_start_n, .ref q0_start_rows, .long f0_start_taken, .long f0_start_ones])), (q0_start_rows, .inr (2, [.int f0_start_rows_n, .ref q0_start_rows_byHead, .int (bI f0_start_rows_impossible)])), (q0_start_rows_byHead, .inl (cL, n0_start_rows_byHead, .inr (.inl h0_start_rows_byHead))), (q1, .inr (2, [.int f1_n, .ref q1_byHead, .int (bI f1_impossible)])), (q1_byHead, .inl (cL, n1_byHead, .inr (.inl h1_byHead)))] sz) := by
  refine Met.ofW (cc := cX3_begin) (maxL := 2) (ret := none) (by decide) rfl ?_
  intro p e s m args below meth c s₁ B hml hv
  obtain ⟨hargs, hsz, hP, hEV, hD0⟩ := hv
  have hx := B.exec
  have hb := B.bytes
  have hr := B.returns
  have hts := atoms_spec (ws := wsX3_begin) B.pre
  have hown : s.vm.findClass RX3 = some m.cls := findClass_of_methodNamed B.named
  have hlocks := B.notSynchronized
  have hK := hEV.K
  have lk_0 := hts _ lk_0_X3_begin
  have lk_1 := hts _ lk_1_X3_begin
  have lk_2 := hts _ lk_2_X3_begin
  have lk_3 := hts _ lk_3_X3_begin
  have lk_4 := hts _ lk_4_X3_begin
  subst hsz
  unfold QvW PoW
  have hD := hD0.self (sz := s.heap.size)
  generalize hAe : va_A [(q0, .inr (3, [v0_n, .ref q0_start, v0_pileRows, v0_pileTaken, v0_pileOnes, .int f0_pileSize, .int f0_nodeCount, .int f0_modelCount, v0_lastModel, .int (bI f0_cut)])), (q0_start, .inr (5, [v0_start_n, .ref q0_start_rows, .long f0_start_taken, .long f0_start_ones])), (q0_start_rows, .inr (2, [.int f0_start_rows_n, .ref q0_start_rows_byHead, .int (bI f0_start_rows_impossible)])), (q0_start_rows_byHead, .inl (cL, n0_start_rows_byHead, .inr (.inl h0_start_rows_byHead))), (q1, .inr (2, [.int f1_n, .ref q1_byHead, .int (bI f1_impossible)])), (q1_byHead, .inl (cL, n1_byHead, .inr (.inl h1_byHead)))] s.heap.size = A at hD ⊢
  have hA : ∀ q : Nat, s.heap.size ≤ q → A q := fun q h => by rw [← hAe]; exact Or.inr h
  have hent : entryFrame m args 2 = entryFrame m ([.ref q0, .ref q1] : List Value).toArray 2 := by rw [hargs]
  rw [hent]
  refine kx_Q (fun Q hQ => ?_)
  refine kx_H (fun H hH => ?_)
  have hP : va_P D vwCl [(q0, .inr (3, [v0_n, .ref q0_start, v0_pileRows, v0_pileTaken, v0_pileOnes, .int f0_pileSize, .int f0_nodeCount, .int f0_modelCount, v0_lastModel, .int (bI f0_cut)])), (q0_start, .inr (5, [v0_start_n, .ref q0_start_rows, .long f0_start_taken, .long f0_start_ones])), (q0_start_rows, .inr (2, [.int f0_start_rows_n, .ref q0_start_rows_byHead, .int (bI f0_start_rows_impossible)])), (q0_start_rows_byHead, .inl (cL, n0_start_rows_byHead, .inr (.inl h0_start_rows_byHead))), (q1, .inr (2, [.int f1_n, .ref q1_byHead, .int (bI f1_impossible)])), (q1_byHead, .inl (cL, n1_byHead, .inr (.inl h1_byHead)))] H := by rw [hH]; exact hP
  have hS : va_S A s.heap H [] := by rw [hH]; exact va_S.rf
  have hl := lv_entry ([.ref q0, .ref q1]) (n := 2) (Nat.le_of_ble_eq_true rfl)
  rw [lg_entry_eq]
  generalize (lg_sl ([.ref q0, .ref q1]) ++ List.replicate (2 - (lg_sl ([.ref q0, .ref q1])).length) Slot.unset).toArray = ls at hl ⊢
  have hl : lv_has ls 2 [(0, .ref q0), (1, .ref q1)] := hl
  have h := hr0
  unfold D_X3_begin at h
  refine lv_aload_n hx hb dX3_begin_0 rfl (lv_at hl 0 rfl) ?_
  refine va_get (D := D) (ci := 3) (v := .ref q0_start) (C := RX3) (T := TX3) (N := 10) hx hb hts in_X3_begin_X3 hown hK hP 0 rfl rfl 1 (by decide) lk_0 (fun _ h9 => h9) rfl dX3_begin_1 ?_
  refine lv_aload_n hx hb dX3_begin_4 rfl (lv_at hl 1 rfl) ?_
  obtain ⟨u_1, hu_2, h⟩ := co_b h
  refine kx_v (ws' := fun _ => [(q0, .inr (3, [v0_n, .ref q0_start, v0_pileRows, v0_pileTaken, v0_pileOnes, .int f0_pileSize, .int f0_nodeCount, .int f0_modelCount, v0_lastModel, .int (bI f0_cut)])), (q0_start, .inr (5, [v0_start_n, .ref q0_start_rows, .long u_1.1, .long u_1.2.1])), (q0_start_rows, .inr (2, [.int f0_start_rows_n, .ref q0_start_rows_byHead, .int (bI u_1.2.2.1)])), (q0_start_rows_byHead, .inl (cL, n0_start_rows_byHead, .inr (.inl u_1.2.2.2))), (q1, .inr (2, [.int f1_n, .ref q1_byHead, .int (bI f1_impossible)])), (q1_byHead, .inl (cL, n1_byHead, .inr (.inl h1_byHead)))]) hP hD hS hA [1, 2, 3, 4, 5] [0] [0, 1, 2, 3, 4, 5] rfl rfl (by decide) (by decide) (fun _ => rfl) (by decide) (va_runV (As := [.ref q1]) (rest := []) ⟨hx, hb, hml, hown, hts⟩ (cm_X5_begin l D cI cL (q0 := q0_start) (q0_rows := q0_start_rows) (q0_rows_byHead := q0_start_rows_byHead) (q1 := q1) (q1_byHead := q1_byHead) (n0_rows_byHead := n0_start_rows_byHead) (n1_byHead := n1_byHead) (f0_taken := f0_start_taken) (f0_ones := f0_start_ones) (f0_rows_n := f0_start_rows_n) (f0_rows_impossible := f0_start_rows_impossible) (h0_rows_byHead := h0_start_rows_byHead) (f1_n := f1_n) (f1_impossible := f1_impossible) (h1_byHead := h1_byHead) (v0_n := v0_start_n) (r0 := u_1) (hr0 := hu_2) (sz := H.size)) (cwV 1 hts gX3_begin_X5_begin rfl rfl rfl (by decide +kernel) ⟨Nat.le_of_ble_eq_true rfl, Nat.le_of_ble_eq_true rfl⟩) (kx_preV hEV hP hD [1, 2, 3, 4, 5] rfl (by decide) (k0 := 1) (ci := 5) rfl rfl rfl) rfl rfl hl.1 rfl (lv_room (Nat.le_of_ble_eq_true rfl)) dX3_begin_5 ⟨Nat.le_of_ble_eq_true rfl, Nat.le_of_ble_eq_true rfl⟩) (fun _ H locs _ hP hD hS => ?_)
  refine lv_aload_n hx hb dX3_begin_8 rfl (lv_at hl 0 rfl) ?_
  refine lv_iconst (v := (0 : Int32)) hx hb dX3_begin_9 (by decide) ?_
  refine va_put (D := D) (ci := 3) (v := .int (0 : Int32)) (ty := .int) (C := RX3) (T := TX3) (N := 10) hx hb hts in_X3_begin_X3 tyX3 tyX3_ok nmX3 hown hK hP hD hS 0 rfl rfl 5 (by decide) lk_1 (fun _ h9 => h9) rfl (by decide +kernel) rfl rfl (Nat.le_of_ble_eq_true rfl) dX3_begin_10 (fun H locs hP hD hS => ?_)
  have hP : va_P D vwCl [(q0, .inr (3, [v0_n, .ref q0_start, v0_pileRows, v0_pileTaken, v0_pileOnes, .int (0 : Int32), .int f0_nodeCount, .int f0_modelCount, v0_lastModel, .int (bI f0_cut)])), (q0_start, .inr (5, [v0_start_n, .ref q0_start_rows, .long u_1.1, .long u_1.2.1])), (q0_start_rows, .inr (2, [.int f0_start_rows_n, .ref q0_start_rows_byHead, .int (bI u_1.2.2.1)])), (q0_start_rows_byHead, .inl (cL, n0_start_rows_byHead, .inr (.inl u_1.2.2.2))), (q1, .inr (2, [.int f1_n, .ref q1_byHead, .int (bI f1_impossible)])), (q1_byHead, .inl (cL, n1_byHead, .inr (.inl h1_byHead)))] H := hP
  have hD : va_D A [(q0, .inr (3, [v0_n, .ref q0_start, v0_pileRows, v0_pileTaken, v0_pileOnes, .int (0 : Int32), .int f0_nodeCount, .int f0_modelCount, v0_lastModel, .int (bI f0_cut)])), (q0_start, .inr (5, [v0_start_n, .ref q0_start_rows, .long u_1.1, .long u_1.2.1])), (q0_start_rows, .inr (2, [.int f0_start_rows_n, .ref q0_start_rows_byHead, .int (bI u_1.2.2.1)])), (q0_start_rows_byHead, .inl (cL, n0_start_rows_byHead, .inr (.inl u_1.2.2.2))), (q1, .inr (2, [.int f1_n, .ref q1_byHead, .int (bI f1_impossible)])), (q1_byHead, .inl (cL, n1_byHead, .inr (.inl h1_byHead)))] := hD
  refine lv_aload_n hx hb dX3_begin_13 rfl (lv_at hl 0 rfl) ?_
  refine lv_iconst (v := (0 : Int32)) hx hb dX3_begin_14 (by decide) ?_
  refine va_put (D := D) (ci := 3) (v := .int (0 : Int32)) (ty := .int) (C := RX3) (T := TX3) (N := 10) hx hb hts in_X3_begin_X3 tyX3 tyX3_ok nmX3 hown hK hP hD hS 0 rfl rfl 6 (by decide) lk_2 (fun _ h9 => h9) rfl (by decide +kernel) rfl rfl (Nat.le_of_ble_eq_true rfl) dX3_begin_15 (fun H locs hP hD hS => ?_)
  have hP : va_P D vwCl [(q0, .inr (3, [v0_n, .ref q0_start, v0_pileRows, v0_pileTaken, v0_pileOnes, .int (0 : Int32), .int (0 : Int32), .int f0_modelCount, v0_lastModel, .int (bI f0_cut)])), (q0_start, .inr (5, [v0_start_n, .ref q0_start_rows, .long u_1.1, .long u_1.2.1])), (q0_start_rows, .inr (2, [.int f0_start_rows_n, .ref q0_start_rows_byHead, .int (bI u_1.2.2.1)])), (q0_start_rows_byHead, .inl (cL, n0_start_rows_byHead, .inr (.inl u_1.2.2.2))), (q1, .inr (2, [.int f1_n, .ref q1_byHead, .int (bI f1_impossible)])), (q1_byHead, .inl (cL, n1_byHead, .inr (.inl h1_byHead)))] H := hP
  have hD : va_D A [(q0, .inr (3, [v0_n, .ref q0_start, v0_pileRows, v0_pileTaken, v0_pileOnes, .int (0 : Int32), .int (0 : Int32), .int f0_modelCount, v0_lastModel, .int (bI f0_cut)])), (q0_start, .inr (5, [v0_start_n, .ref q0_start_rows, .long u_1.1, .long u_1.2.1])), (q0_start_rows, .inr (2, [.int f0_start_rows_n, .ref q0_start_rows_byHead, .int (bI u_1.2.2.1)])), (q0_start_rows_byHead, .inl (cL, n0_start_rows_byHead, .inr (.inl u_1.2.2.2))), (q1, .inr (2, [.int f1_n, .ref q1_byHead, .int (bI f1_impossible)])), (q1_byHead, .inl (cL, n1_byHead, .inr (.inl h1_byHead)))] := hD
  refine lv_aload_n hx hb dX3_begin_18 rfl (lv_at hl 0 rfl) ?_
  refine lv_iconst (v := (0 : Int32)) hx hb dX3_begin_19 (by decide) ?_
  refine va_put (D := D) (ci := 3) (v := .int (0 : Int32)) (ty := .int) (C := RX3) (T := TX3) (N := 10) hx hb hts in_X3_begin_X3 tyX3 tyX3_ok nmX3 hown hK hP hD hS 0 rfl rfl 7 (by decide) lk_3 (fun _ h9 => h9) rfl (by decide +kernel) rfl rfl (Nat.le_of_ble_eq_true rfl) dX3_begin_20 (fun H locs hP hD hS => ?_)
  have hP : va_P D vwCl [(q0, .inr (3, [v0_n, .ref q0_start, v0_pileRows, v0_pileTaken, v0_pileOnes, .int (0 : Int32), .int (0 : Int32), .int (0 : Int32), v0_lastModel, .int (bI f0_cut)])), (q0_start, .inr (5, [v0_start_n, .ref q0_start_rows, .long u_1.1, .long u_1.2.1])), (q0_start_rows, .inr (2, [.int f0_start_rows_n, .ref q0_start_rows_byHead, .int (bI u_1.2.2.1)])), (q0_start_rows_byHead, .inl (cL, n0_start_rows_byHead, .inr (.inl u_1.2.2.2))), (q1, .inr (2, [.int f1_n, .ref q1_byHead, .int (bI f1_impossible)])), (q1_byHead, .inl (cL, n1_byHead, .inr (.inl h1_byHead)))] H := hP
  have hD : va_D A [(q0, .inr (3, [v0_n, .ref q0_start, v0_pileRows, v0_pileTaken, v0_pileOnes, .int (0 : Int32), .int (0 : Int32), .int (0 : Int32), v0_lastModel, .int (bI f0_cut)])), (q0_start, .inr (5, [v0_start_n, .ref q0_start_rows, .long u_1.1, .long u_1.2.1])), (q0_start_rows, .inr (2, [.int f0_start_rows_n, .ref q0_start_rows_byHead, .int (bI u_1.2.2.1)])), (q0_start_rows_byHead, .inl (cL, n0_start_rows_byHead, .inr (.inl u_1.2.2.2))), (q1, .inr (2, [.int f1_n, .ref q1_byHead, .int (bI f1_impossible)])), (q1_byHead, .inl (cL, n1_byHead, .inr (.inl h1_byHead)))] := hD
  refine lv_aload_n hx hb dX3_begin_23 rfl (lv_at hl 0 rfl) ?_
  refine lv_iconst (v := (0 : Int32)) hx hb dX3_begin_24 (by decide) ?_
  refine va_put (D := D) (ci := 3) (v := .int (bI false)) (ty := .boolean) (C := RX3) (T := TX3) (N := 10) hx hb hts in_X3_begin_X3 tyX3 tyX3_ok nmX3 hown hK hP hD hS 0 rfl rfl 9 (by decide) lk_4 (fun _ h9 => h9) rfl (by decide +kernel) (bI_n false) (bI_fit false) (Nat.le_of_ble_eq_true rfl) dX3_begin_25 (fun H locs hP hD hS => ?_)
  have hP : va_P D vwCl [(q0, .inr (3, [v0_n, .ref q0_start, v0_pileRows, v0_pileTaken, v0_pileOnes, .int (0 : Int32), .int (0 : Int32), .int (0 : Int32), v0_lastModel, .int (bI false)])), (q0_start, .inr (5, [v0_start_n, .ref q0_start_rows, .long u_1.1, .long u_1.2.1])), (q0_start_rows, .inr (2, [.int f0_start_rows_n, .ref q0_start_rows_byHead, .int (bI u_1.2.2.1)])), (q0_start_rows_byHead, .inl (cL, n0_start_rows_byHead, .inr (.inl u_1.2.2.2))), (q1, .inr (2, [.int f1_n, .ref q1_byHead, .int (bI f1_impossible)])), (q1_byHead, .inl (cL, n1_byHead, .inr (.inl h1_byHead)))] H := hP
  have hD : va_D A [(q0, .inr (3, [v0_n, .ref q0_start, v0_pileRows, v0_pileTaken, v0_pileOnes, .int (0 : Int32), .int (0 : Int32), .int (0 : Int32), v0_lastModel, .int (bI false)])), (q0_start, .inr (5, [v0_start_n, .ref q0_start_rows, .long u_1.1, .long u_1.2.1])), (q0_start_rows, .inr (2, [.int f0_start_rows_n, .ref q0_start_rows_byHead, .int (bI u_1.2.2.1)])), (q0_start_rows_byHead, .inl (cL, n0_start_rows_byHead, .inr (.inl u_1.2.2.2))), (q1, .inr (2, [.int f1_n, .ref q1_byHead, .int (bI f1_impossible)])), (q1_byHead, .inl (cL, n1_byHead, .inr (.inl h1_byHead)))] := hD
  have h := Option.some.inj h
  subst h
  subst hQ
  exact W.vret hx hb hr (fun t ht hW => ⟨⟨(), rfl, trivial, by rw [ht]; exact hP, hD⟩, hS.F ht⟩) hS.2.2 dX3_begin_28
