abbrev rm_J7_fill_d0a16 : Room := { frames := 0, cells := 0, slots := 0, locals := 0 }
set_option maxHeartbeats 4000000 in
set_option maxRecDepth 100000 in
theorem cm_J7_fill_d0a16 (l : Launch) (D : va_G) (cI cL : ClassId) (q0 : Nat) (n0 : Nat) (h0 : Nat → Int64) (x1 : Int64) (r0 : (Nat → Int64)) (hr0 : D_J7_fill_d0a16 n0 h0 x1 = some r0) (sz : Nat) : Met l yJ7_fill_d0a16 wsJ7_fill_d0a16 rm_J7_fill_d0a16 (PcW D cI cL [.ref q0, .long x1] [(q0, .inl (cL, n0, .inr (.inl h0)))] sz) (QvW D [(q0, .inl (cL, n0, .inr (.inl h0)))] (fun _ : Unit => [(q0, .inl (cL, n0, .inr (.inl r0)))]) tU sz) 0 0 (va_A [(q0, .inl (cL, n0, .inr (.inl h0)))] sz) := by
  refine Met.ofW (cc := cJ7_fill_d0a16) (maxL := 5) (ret := none) (by decide) rfl ?_
  intro p e s m args below meth c s₁ B hml hv
  obtain ⟨hargs, hsz, hP, hEV, hD0⟩ := hv
  have hx := B.exec
  have hb := B.bytes
  have hr := B.returns
  have hts := atoms_spec (ws := wsJ7_fill_d0a16) B.pre
  have hown : s.vm.findClass RJ7 = some m.cls := findClass_of_methodNamed B.named
  have hlocks := B.notSynchronized
  have hK := hEV.K
  subst hsz
  unfold QvW PoW
  have hD := hD0.self (sz := s.heap.size)
  generalize hAe : va_A [(q0, .inl (cL, n0, .inr (.inl h0)))] s.heap.size = A at hD ⊢
  have hA : ∀ q : Nat, s.heap.size ≤ q → A q := fun q h => by rw [← hAe]; exact Or.inr h
  have hent : entryFrame m args 5 = entryFrame m ([.ref q0, .long x1] : List Value).toArray 5 := by rw [hargs]
  rw [hent]
  refine kx_Q (fun Q hQ => ?_)
  refine kx_H (fun H hH => ?_)
  have hP : va_P D vwCl [(q0, .inl (cL, n0, .inr (.inl h0)))] H := by rw [hH]; exact hP
  have hS : va_S A s.heap H [] := by rw [hH]; exact va_S.rf
  have hl := lv_entry ([.ref q0, .long x1]) (n := 5) (Nat.le_of_ble_eq_true rfl)
  rw [lg_entry_eq]
  generalize (lg_sl ([.ref q0, .long x1]) ++ List.replicate (5 - (lg_sl ([.ref q0, .long x1])).length) Slot.unset).toArray = ls at hl ⊢
  have hl : lv_has ls 5 [(0, .ref q0), (1, .long x1)] := hl
  have hloop : ∀ n9 : Nat, (∀ (x3 : Int32) (x4 : Int32) (h0 : Nat → Int64), iter (st_J7_fill_d0a16 n0 x1) n9 (x3, x4, h0) = some r0 → ∀ (H : Heap) (locs : List Loc) (ls : Array Slot), va_P D vwCl [(q0, .inl (cL, n0, .inr (.inl h0)))] H → va_D A [(q0, .inl (cL, n0, .inr (.inl h0)))] → va_S A s.heap H locs → lv_has ls 5 [(0, .ref q0), (1, .long x1), (3, .int x3), (4, .int x4)] → W p l e (headSpec wsJ7_fill_d0a16 rm_J7_fill_d0a16).room s m args below meth c H locs 0 0 Q (F0 m 6 ls [])) := by
    intro n9
    induction n9 with
    | zero => exact (fun _ _ _ h => nomatch h)
    | succ n9 ih =>
      intro x3 x4 h0 h H locs ls hP hD hS hl
      have h : run1 (iter (st_J7_fill_d0a16 n0 x1) n9) (b_J7_fill_d0a16_6 n0 x1 x3 x4 h0) = some r0 := h
      unfold b_J7_fill_d0a16_6 at h
      refine lv_iload_n hx hb dJ7_fill_d0a16_6 rfl (lv_at hl 2 rfl) ?_
      refine lv_iload hx hb dJ7_fill_d0a16_7 (lv_at hl 3 rfl) ?_
      refine lv_icmp_ge (tgt := 22) hx hb dJ7_fill_d0a16_9 (by decide) (fun c_1 => ?_) (fun c_1 => ?_)
      · have k_2 : x4 ≤ x3 := c_1
        have h := cw_t k_2 h
        have h := Option.some.inj h
        subst h
        subst hQ
        exact W.vret hx hb hr (fun t ht hW => ⟨⟨(), rfl, trivial, by rw [ht]; exact hP, hD⟩, hS.F ht⟩) hS.2.2 dJ7_fill_d0a16_22
      · have k_2 : ¬ (x4 ≤ x3) := c_1
        have h := cw_f k_2 h
        refine lv_aload_n hx hb dJ7_fill_d0a16_12 rfl (lv_at hl 0 rfl) ?_
        refine lv_iload_n hx hb dJ7_fill_d0a16_13 rfl (lv_at hl 2 rfl) ?_
        refine lv_lload_n hx hb dJ7_fill_d0a16_14 rfl (lv_at hl 1 rfl) ?_
        obtain ⟨b_3, h⟩ := cw_i h
        refine va_last hx hb hK hP hD hS 0 1 rfl rfl b_3 dJ7_fill_d0a16_15 (fun H locs hP hD hS => ?_)
        have hP : va_P D vwCl [(q0, .inl (cL, n0, .inr (.inl (vp_updL h0 x3.toNatClampNeg x1))))] H := hP
        have hD : va_D A [(q0, .inl (cL, n0, .inr (.inl (vp_updL h0 x3.toNatClampNeg x1))))] := hD
        refine lv_iinc (v := x3 + (1 : Int32)) (lv' := [(3, .int (x3 + (1 : Int32))), (0, .ref q0), (1, .long x1), (4, .int x4)]) hx hb dJ7_fill_d0a16_16 hl (k := 2) rfl rfl (by decide) rfl (fun ls hl => ?_)
        refine lv_goto (tgt := 6) hx hb dJ7_fill_d0a16_19 (by decide) ?_
        exact ih _ _ _ h _ _ _ hP hD hS (lv_sub hl [1, 2, 0, 3] rfl)
  have h := hr0
  unfold D_J7_fill_d0a16 at h
  refine lv_iconst (v := (0 : Int32)) hx hb dJ7_fill_d0a16_0 (by decide) ?_
  refine lv_istore_n (lv' := [(3, .int (0 : Int32)), (0, .ref q0), (1, .long x1)]) hx hb dJ7_fill_d0a16_1 rfl hl (by decide) rfl (fun ls hl => ?_)
  refine lv_aload_n hx hb dJ7_fill_d0a16_2 rfl (lv_at hl 1 rfl) ?_
  refine va_alen (ty := .long) (v := nI n0) hx hb hK hP 0 1 rfl rfl rfl dJ7_fill_d0a16_3 ?_
  refine lv_istore (lv' := [(4, .int (nI n0)), (3, .int (0 : Int32)), (0, .ref q0), (1, .long x1)]) hx hb dJ7_fill_d0a16_4 hl (by decide) rfl (fun ls hl => ?_)
  obtain ⟨n9, hn9⟩ := runw_some h
  exact (hloop n9) _ _ _ hn9 _ _ _ hP hD hS (lv_sub hl [2, 3, 1, 0] rfl)
theorem in_X0_add_X0 : ∀ w ∈ wsX00, w ∈ wsX0_add := by decide +kernel
theorem lk_0_X0_add : Cond.fieldLink RX0 7 "ParityClauses$Blame" "n" "I" ∈ wsX0_add := by decide +kernel
theorem lk_1_X0_add : Cond.fieldLink RX0 13 "ParityClauses$Blame" "byHead" "[J" ∈ wsX0_add := by decide +kernel
theorem lk_2_X0_add : Cond.fieldLink RX0 17 "ParityClauses$Blame" "madeOf" "[J" ∈ wsX0_add := by decide +kernel
abbrev rm_X0_add : Room := { frames := 0, cells := 0, slots := 0, locals := 0 }
set_option maxHeartbeats 4000000 in
set_option maxRecDepth 100000 in
theorem cm_X0_add (l : Launch) (D : va_G) (cI cL : ClassId) (q0 q0_byHead q0_madeOf : Nat) (n0_byHead n0_madeOf : Nat) (f0_n : Int32) (h0_byHead : Nat → Int64) (h0_madeOf : Nat → Int64) (x1 : Int64) (x3 : Int64) (r0 : Int64 × (Nat → Int64) × (Nat → Int64)) (hr0 : D_X0_add f0_n n0_byHead h0_byHead n0_madeOf h0_madeOf x1 x3 = some r0) (sz : Nat) : Met l yX0_add wsX0_add rm_X0_add (PcW D cI cL [.ref q0, .long x1, .long x3] [(q0, .inr (0, [.int f0_n, .ref q0_byHead, .ref q0_madeOf])), (q0_byHead, .inl (cL, n0_byHead, .inr (.inl h0_byHead))), (q0_madeOf, .inl (cL, n0_madeOf, .inr (.inl h0_madeOf)))] sz) (QlW D [(q0, .inr (0, [.int f0_n, .ref q0_byHead, .ref q0_madeOf])), (q0_byHead, .inl (cL, n0_byHead, .inr (.inl h0_byHead))), (q0_madeOf, .inl (cL, n0_madeOf, .inr (.inl h0_madeOf)))] r0.1 (fun _ : Unit => [(q0, .inr (0, [.int f0_n, .ref q0_byHead, .ref q0_madeOf])), (q0_byHead, .inl (cL, n0_byHead, .inr (.inl r0.2.1))), (q0_madeOf, .inl (cL, n0_madeOf, .inr (.inl r0.2.2)))]) tU sz) 0 0 (va_A [(q0, .inr (0, [.int f0_n, .ref q0_byHead, .ref q0_madeOf])), (q0_byHead, .inl (cL, n0_byHead, .inr (.inl h0_byHead))), (q0_madeOf, .inl (cL, n0_madeOf, .inr (.inl h0_madeOf)))] sz) := by
  refine Met.ofW (cc := cX0_add) (maxL := 10) (ret := (some .long)) (by decide) rfl ?_
  intro p e s m args below meth c s₁ B hml hv
  obtain ⟨hargs, hsz, hP, hEV, hD0⟩ := hv
  have hx := B.exec
  have hb := B.bytes
  have hr := B.returns
  have hts := atoms_spec (ws := wsX0_add) B.pre
  have hown : s.vm.findClass RX0 = some m.cls := findClass_of_methodNamed B.named
  have hlocks := B.notSynchronized
  have hK := hEV.K
  have lk_0 := hts _ lk_0_X0_add
  have lk_1 := hts _ lk_1_X0_add
  have lk_2 := hts _ lk_2_X0_add
  subst hsz
  unfold QlW PoW
  have hD := hD0.self (sz := s.heap.size)
  generalize hAe : va_A [(q0, .inr (0, [.int f0_n, .ref q0_byHead, .ref q0_madeOf])), (q0_byHead, .inl (cL, n0_byHead, .inr (.inl h0_byHead))), (q0_madeOf, .inl (cL, n0_madeOf, .inr (.inl h0_madeOf)))] s.heap.size = A at hD ⊢
  have hA : ∀ q : Nat, s.heap.size ≤ q → A q := fun q h => by rw [← hAe]; exact Or.inr h
  have hent : entryFrame m args 10 = entryFrame m ([.ref q0, .long x1, .long x3] : List Value).toArray 10 := by rw [hargs]
  rw [hent]
  refine kx_Q (fun Q hQ => ?_)
  refine kx_H (fun H hH => ?_)
  have hP : va_P D vwCl [(q0, .inr (0, [.int f0_n, .ref q0_byHead, .ref q0_madeOf])), (q0_byHead, .inl (cL, n0_byHead, .inr (.inl h0_byHead))), (q0_madeOf, .inl (cL, n0_madeOf, .inr (.inl h0_madeOf)))] H := by rw [hH]; exact hP
  have hS : va_S A s.heap H [] := by rw [hH]; exact va_S.rf
  have hl := lv_entry ([.ref q0, .long x1, .long x3]) (n := 10) (Nat.le_of_ble_eq_true rfl)
  rw [lg_entry_eq]
  generalize (lg_sl ([.ref q0, .long x1, .long x3]) ++ List.replicate (10 - (lg_sl ([.ref q0, .long x1, .long x3])).length) Slot.unset).toArray = ls at hl ⊢
  have hl : lv_has ls 10 [(0, .ref q0), (1, .long x1), (3, .long x3)] := hl
  have hloop : ∀ n9 : Nat, (∀ (x5 : Int64) (x7 : Int64) (x9 : Int32) (h0_byHead : Nat → Int64) (h0_madeOf : Nat → Int64), iter (st_X0_add f0_n n0_byHead n0_madeOf x1 x3) n9 (x5, x7, x9, h0_byHead, h0_madeOf) = some r0 → ∀ (H : Heap) (locs : List Loc) (ls : Array Slot), va_P D vwCl [(q0, .inr (0, [.int f0_n, .ref q0_byHead, .ref q0_madeOf])), (q0_byHead, .inl (cL, n0_byHead, .inr (.inl h0_byHead))), (q0_madeOf, .inl (cL, n0_madeOf, .inr (.inl h0_madeOf)))] H → va_D A [(q0, .inr (0, [.int f0_n, .ref q0_byHead, .ref q0_madeOf])), (q0_byHead, .inl (cL, n0_byHead, .inr (.inl h0_byHead))), (q0_madeOf, .inl (cL, n0_madeOf, .inr (.inl h0_madeOf)))] → va_S A s.heap H locs → lv_has ls 10 [(0, .ref q0), (5, .long x5), (7, .long x7), (9, .int x9)] → W p l e (headSpec wsX0_add rm_X0_add).room s m args below meth c H locs 0 0 Q (F0 m 9 ls [])) := by
    intro n9
    induction n9 with
    | zero => exact (fun _ _ _ _ _ h => nomatch h)
    | succ n9 ih =>
      intro x5 x7 x9 h0_byHead h0_madeOf h H locs ls hP hD hS hl
      have h : run1 (iter (st_X0_add f0_n n0_byHead n0_madeOf x1 x3) n9) (b_X0_add_9 f0_n n0_byHead n0_madeOf x1 x3 x5 x7 x9 h0_byHead h0_madeOf) = some r0 := h
      unfold b_X0_add_9 at h
      refine lv_iload hx hb dX0_add_9 (lv_at hl 3 rfl) ?_
      refine lv_aload_n hx hb dX0_add_11 rfl (lv_at hl 0 rfl) ?_
      refine va_get (D := D) (ci := 0) (v := .int f0_n) (C := RX0) (T := TX0) (N := 3) hx hb hts in_X0_add_X0 hown hK hP 0 rfl rfl 0 (by decide) lk_0 (fun _ h9 => h9) rfl dX0_add_12 ?_
      refine lv_icmp_ge (tgt := 92) hx hb dX0_add_15 (by decide) (fun c_1 => ?_) (fun c_1 => ?_)
      · have k_2 : f0_n ≤ x9 := c_1
        have h := cw_t k_2 h
        refine lv_lload hx hb dX0_add_92 (lv_at hl 1 rfl) ?_
        refine lv_lconst (v := (0 : Int64)) hx hb dX0_add_94 (by decide) ?_
        refine W.lcmp hx hb dX0_add_95 ?_
        refine lv_if_eq (tgt := 104) hx hb dX0_add_96 (by decide) (fun c_3 => ?_) (fun c_3 => ?_)
        · have k_4 : x5 = (0 : Int64) := ((lg_cmp_eq _ _).mp c_3)
          have h := cw_t k_4 h
          refine lv_lconst (v := (0 : Int64)) hx hb dX0_add_104 (by decide) ?_
          have h := Option.some.inj h
          subst h
          subst hQ
          exact W.lret (v := (0 : Int64)) hx hb hr (fun t ht hW => ⟨⟨(0 : Int64), (), rfl, ⟨rfl, trivial⟩, by rw [ht]; exact hP, hD⟩, hS.F ht⟩) hS.2.2 dX0_add_105
        · have k_4 : ¬ (x5 = (0 : Int64)) := (fun z9 => c_3 ((lg_cmp_eq _ _).mpr z9))
          have h := cw_f k_4 h
          refine lv_lload hx hb dX0_add_99 (lv_at hl 2 rfl) ?_
          refine lv_goto (tgt := 105) hx hb dX0_add_101 (by decide) ?_
          have h := Option.some.inj h
          subst h
          subst hQ
          exact W.lret (v := x7) hx hb hr (fun t ht hW => ⟨⟨x7, (), rfl, ⟨rfl, trivial⟩, by rw [ht]; exact hP, hD⟩, hS.F ht⟩) hS.2.2 dX0_add_105
      · have k_2 : ¬ (f0_n ≤ x9) := c_1
        have h := cw_f k_2 h
        refine lv_lload hx hb dX0_add_18 (lv_at hl 1 rfl) ?_
        refine lv_iload hx hb dX0_add_20 (lv_at hl 3 rfl) ?_
        refine lv_lushr (v := jushr x5 x9) hx hb dX0_add_22 rfl ?_
        refine lv_lconst (v := (1 : Int64)) hx hb dX0_add_23 (by decide) ?_
        refine lv_land hx hb dX0_add_24 ?_
        refine lv_lconst (v := (0 : Int64)) hx hb dX0_add_25 (by decide) ?_
        refine W.lcmp hx hb dX0_add_26 ?_
        refine lv_if_eq (tgt := 86) hx hb dX0_add_27 (by decide) (fun c_5 => ?_) (fun c_5 => ?_)
        · have k_6 : ((jushr x5 x9) &&& (1 : Int64)) = (0 : Int64) := ((lg_cmp_eq _ _).mp c_5)
          have h := cw_t k_6 h
          refine lv_iinc (v := x9 + (1 : Int32)) (lv' := [(9, .int (x9 + (1 : Int32))), (0, .ref q0), (5, .long x5), (7, .long x7)]) hx hb dX0_add_86 hl (k := 3) rfl rfl (by decide) rfl (fun ls hl => ?_)
          refine lv_goto (tgt := 9) hx hb dX0_add_89 (by decide) ?_
          exact ih _ _ _ _ _ h _ _ _ hP hD hS (lv_sub hl [1, 2, 3, 0] rfl)
        · have k_6 : ¬ (((jushr x5 x9) &&& (1 : Int64)) = (0 : Int64)) := (fun z9 => c_5 ((lg_cmp_eq _ _).mpr z9))
          have h := cw_f k_6 h
          refine lv_aload_n hx hb dX0_add_30 rfl (lv_at hl 0 rfl) ?_
          refine va_get (D := D) (ci := 0) (v := .ref q0_byHead) (C := RX0) (T := TX0) (N := 3) hx hb hts in_X0_add_X0 hown hK hP 0 rfl rfl 1 (by decide) lk_1 (fun _ h9 => h9) rfl dX0_add_31 ?_
          refine lv_iload hx hb dX0_add_34 (lv_at hl 3 rfl) ?_
          obtain ⟨b_7, h⟩ := cw_i h
          refine va_lald hx hb hK hP 1 1 rfl rfl b_7 dX0_add_36 ?_
          refine lv_lconst (v := (0 : Int64)) hx hb dX0_add_37 (by decide) ?_
          refine W.lcmp hx hb dX0_add_38 ?_
          refine lv_if_ne (tgt := 62) hx hb dX0_add_39 (by decide) (fun c_8 => ?_) (fun c_8 => ?_)
          · have k_9 : ¬ ((h0_byHead x9.toNatClampNeg) = (0 : Int64)) := (fun z9 => c_8 ((lg_cmp_eq _ _).mpr z9))
            have h := cw_f k_9 h
            refine lv_lload hx hb dX0_add_62 (lv_at hl 1 rfl) ?_
            refine lv_aload_n hx hb dX0_add_64 rfl (lv_at hl 0 rfl) ?_
            refine va_get (D := D) (ci := 0) (v := .ref q0_byHead) (C := RX0) (T := TX0) (N := 3) hx hb hts in_X0_add_X0 hown hK hP 0 rfl rfl 1 (by decide) lk_1 (fun _ h9 => h9) rfl dX0_add_65 ?_
            refine lv_iload hx hb dX0_add_68 (lv_at hl 3 rfl) ?_
            obtain ⟨b_10, h⟩ := cw_i h
            refine va_lald hx hb hK hP 1 1 rfl rfl b_10 dX0_add_70 ?_
            refine lv_lxor hx hb dX0_add_71 ?_
            refine lv_lstore (lv' := [(5, .long (x5 ^^^ (h0_byHead x9.toNatClampNeg))), (0, .ref q0), (7, .long x7), (9, .int x9)]) hx hb dX0_add_72 hl (by decide) rfl (fun ls hl => ?_)
            refine lv_lload hx hb dX0_add_74 (lv_at hl 2 rfl) ?_
            refine lv_aload_n hx hb dX0_add_76 rfl (lv_at hl 1 rfl) ?_
            refine va_get (D := D) (ci := 0) (v := .ref q0_madeOf) (C := RX0) (T := TX0) (N := 3) hx hb hts in_X0_add_X0 hown hK hP 0 rfl rfl 2 (by decide) lk_2 (fun _ h9 => h9) rfl dX0_add_77 ?_
            refine lv_iload hx hb dX0_add_80 (lv_at hl 3 rfl) ?_
            obtain ⟨b_11, h⟩ := cw_i h
            refine va_lald hx hb hK hP 2 1 rfl rfl b_11 dX0_add_82 ?_
            refine lv_lxor hx hb dX0_add_83 ?_
            refine lv_lstore (lv' := [(7, .long (x7 ^^^ (h0_madeOf x9.toNatClampNeg))), (5, .long (x5 ^^^ (h0_byHead x9.toNatClampNeg))), (0, .ref q0), (9, .int x9)]) hx hb dX0_add_84 hl (by decide) rfl (fun ls hl => ?_)
            refine lv_iinc (v := x9 + (1 : Int32)) (lv' := [(9, .int (x9 + (1 : Int32))), (7, .long (x7 ^^^ (h0_madeOf x9.toNatClampNeg))), (5, .long (x5 ^^^ (h0_byHead x9.toNatClampNeg))), (0, .ref q0)]) hx hb dX0_add_86 hl (k := 3) rfl rfl (by decide) rfl (fun ls hl => ?_)
            refine lv_goto (tgt := 9) hx hb dX0_add_89 (by decide) ?_
            exact ih _ _ _ _ _ h _ _ _ hP hD hS (lv_sub hl [3, 2, 1, 0] rfl)
          · have k_9 : (h0_byHead x9.toNatClampNeg) = (0 : Int64) := ((lg_cmp_eq _ _).mp c_8)
            have h := cw_t k_9 h
            refine lv_aload_n hx hb dX0_add_42 rfl (lv_at hl 0 rfl) ?_
            refine va_get (D := D) (ci := 0) (v := .ref q0_byHead) (C := RX0) (T := TX0) (N := 3) hx hb hts in_X0_add_X0 hown hK hP 0 rfl rfl 1 (by decide) lk_1 (fun _ h9 => h9) rfl dX0_add_43 ?_
            refine lv_iload hx hb dX0_add_46 (lv_at hl 3 rfl) ?_
            refine lv_lload hx hb dX0_add_48 (lv_at hl 1 rfl) ?_
            obtain ⟨b_12, h⟩ := cw_i h
            refine va_last hx hb hK hP hD hS 1 1 rfl rfl b_12 dX0_add_50 (fun H locs hP hD hS => ?_)
            have hP : va_P D vwCl [(q0, .inr (0, [.int f0_n, .ref q0_byHead, .ref q0_madeOf])), (q0_byHead, .inl (cL, n0_byHead, .inr (.inl (vp_updL h0_byHead x9.toNatClampNeg x5)))), (q0_madeOf, .inl (cL, n0_madeOf, .inr (.inl h0_madeOf)))] H := hP
            have hD : va_D A [(q0, .inr (0, [.int f0_n, .ref q0_byHead, .ref q0_madeOf])), (q0_byHead, .inl (cL, n0_byHead, .inr (.inl (vp_updL h0_byHead x9.toNatClampNeg x5)))), (q0_madeOf, .inl (cL, n0_madeOf, .inr (.inl h0_madeOf)))] := hD
            refine lv_aload_n hx hb dX0_add_51 rfl (lv_at hl 0 rfl) ?_
            refine va_get (D := D) (ci := 0) (v := .ref q0_madeOf) (C := RX0) (T := TX0) (N := 3) hx hb hts in_X0_add_X0 hown hK hP 0 rfl rfl 2 (by decide) lk_2 (fun _ h9 => h9) rfl dX0_add_52 ?_
            refine lv_iload hx hb dX0_add_55 (lv_at hl 3 rfl) ?_
            refine lv_lload hx hb dX0_add_57 (lv_at hl 2 rfl) ?_
            obtain ⟨b_13, h⟩ := cw_i h
            refine va_last hx hb hK hP hD hS 2 1 rfl rfl b_13 dX0_add_59 (fun H locs hP hD hS => ?_)
            have hP : va_P D vwCl [(q0, .inr (0, [.int f0_n, .ref q0_byHead, .ref q0_madeOf])), (q0_byHead, .inl (cL, n0_byHead, .inr (.inl (vp_updL h0_byHead x9.toNatClampNeg x5)))), (q0_madeOf, .inl (cL, n0_madeOf, .inr (.inl (vp_updL h0_madeOf x9.toNatClampNeg x7))))] H := hP
            have hD : va_D A [(q0, .inr (0, [.int f0_n, .ref q0_byHead, .ref q0_madeOf])), (q0_byHead, .inl (cL, n0_byHead, .inr (.inl (vp_updL h0_byHead x9.toNatClampNeg x5)))), (q0_madeOf, .inl (cL, n0_madeOf, .inr (.inl (vp_updL h0_madeOf x9.toNatClampNeg x7))))] := hD
            refine lv_lconst (v := (0 : Int64)) hx hb dX0_add_60 (by decide) ?_
            have h := Option.some.inj h
            subst h
            subst hQ
            exact W.lret (v := (0 : Int64)) hx hb hr (fun t ht hW => ⟨⟨(0 : Int64), (), rfl, ⟨rfl, trivial⟩, by rw [ht]; exact hP, hD⟩, hS.F ht⟩) hS.2.2 dX0_add_61
  have h := hr0
  unfold D_X0_add at h
  refine lv_lload_n hx hb dX0_add_0 rfl (lv_at hl 1 rfl) ?_
  refine lv_lstore (lv' := [(5, .long x1), (0, .ref q0), (1, .long x1), (3, .long x3)]) hx hb dX0_add_1 hl (by decide) rfl (fun ls hl => ?_)
  refine lv_lload_n hx hb dX0_add_3 rfl (lv_at hl 3 rfl) ?_
  refine lv_lstore (lv' := [(7, .long x3), (5, .long x1), (0, .ref q0), (1, .long x1), (3, .long x3)]) hx hb dX0_add_4 hl (by decide) rfl (fun ls hl => ?_)
  refine lv_iconst (v := (0 : Int32)) hx hb dX0_add_6 (by decide) ?_
  refine lv_istore (lv' := [(9, .int (0 : Int32)), (7, .long x3), (5, .long x1), (0, .ref q0), (1, .long x1), (3, .long x3)]) hx hb dX0_add_7 hl (by decide) rfl (fun ls hl => ?_)
  obtain ⟨n9, hn9⟩ := runw_some h
  exact (hloop n9) _ _ _ _ _ hn9 _ _ _ hP hD hS (lv_sub hl [3, 2, 1, 0] rfl)
theorem in_X0_leastSum_X0 : ∀ w ∈ wsX00, w ∈ wsX0_leastSum := by decide +kernel
theorem in_X0_leastSum_X4 : ∀ w ∈ wsX40, w ∈ wsX0_leastSum := by decide +kernel
theorem lk_0_X0_leastSum : Cond.fieldLink RX0 13 "ParityClauses$Blame" "byHead" "[J" ∈ wsX0_leastSum := by decide +kernel
theorem lk_1_X0_leastSum : Cond.fieldLink RX0 17 "ParityClauses$Blame" "madeOf" "[J" ∈ wsX0_leastSum := by decide +kernel
theorem lk_2_X0_leastSum : Cond.fieldLink RX0 26 "ParityClauses$Store" "equationCount" "I" ∈ wsX0_leastSum := by decide +kernel
theorem lk_3_X0_leastSum : Cond.fieldLink RX0 31 "ParityClauses$Store" "equations" "[J" ∈ wsX0_leastSum := by decide +kernel
abbrev rm_X0_leastSum : Room := { frames := 1, cells := 0, slots := 0, locals := 29 }
set_option maxHeartbeats 4000000 in
set_option maxRecDepth 100000 in
theorem cm_X0_leastSum (l : Launch) (D : va_G) (cI cL : ClassId) (q0 q0_byHead q0_madeOf q1 q1_equations : Nat) (n0_byHead n0_madeOf n1_equations : Nat) (f0_n : Int32) (h0_byHead : Nat → Int64) (h0_madeOf : Nat → Int64) (f1_equationCount : Int32) (h1_equations : Nat → Int64) (v1_yes v1_no v1_clauseCount v1_equationsBefore v1_clausesBefore v1_levelCount : Value) (r0 : Int64 × (Nat → Int64) × (Nat → Int64)) (hr0 : D_X0_leastSum f0_n n0_byHead h0_byHead n0_madeOf h0_madeOf f1_equationCount n1_equations h1_equations = some r0) (sz : Nat) : Met l yX0_leastSum wsX0_leastSum rm_X0_leastSum (PcW D cI cL [.ref q0, .ref q1] [(q0, .inr (0, [.int f0_n, .ref q0_byHead, .ref q0_madeOf])), (q0_byHead, .inl (cL, n0_byHead, .inr (.inl h0_byHead))), (q0_madeOf, .inl (cL, n0_madeOf, .inr (.inl h0_madeOf))), (q1, .inr (4, [.ref q1_equations, v1_yes, v1_no, .int f1_equationCount, v1_clauseCount, v1_equationsBefore, v1_clausesBefore, v1_levelCount])), (q1_equations, .inl (cL, n1_equations, .inr (.inl h1_equations)))] sz) (QlW D [(q0, .inr (0, [.int f0_n, .ref q0_byHead, .ref q0_madeOf])), (q0_byHead, .inl (cL, n0_byHead, .inr (.inl h0_byHead))), (q0_madeOf, .inl (cL, n0_madeOf, .inr (.inl h0_madeOf))), (q1, .inr (4, [.ref q1_equations, v1_yes, v1_no, .int f1_equationCount, v1_clauseCount, v1_equationsBefore, v1_clausesBefore, v1_levelCount])), (q1_equations, .inl (cL, n1_equations, .inr (.inl h1_equations)))] r0.1 (fun _ : Unit => [(q0, .inr (0, [.int f0_n, .ref q0_byHead, .ref q0_madeOf])), (q0_byHead, .inl (cL, n0_byHead, .inr (.inl r0.2.1))), (q0_madeOf, .inl (cL, n0_madeOf, .inr (.inl r0.2.2))), (q1, .inr (4, [.ref q1_equations, v1_yes, v1_no, .int f1_equationCount, v1_clauseCount, v1_equationsBefore, v1_clausesBefore, v1_levelCount])), (q1_equations, .inl (cL, n1_equations, .inr (.inl h1_equations)))]) tU sz) 0 0 (va_A [(q0, .inr (0, [.int f0_n, .ref q0_byHead, .ref q0_madeOf])), (q0_byHead, .inl (cL, n0_byHead, .inr (.inl h0_byHead))), (q0_madeOf, .inl (cL, n0_madeOf, .inr (.inl h0_madeOf))), (q1, .inr (4, [.ref q1_equations, v1_yes, v1_no, .int f1_equationCount, v1_clauseCount, v1_equationsBefore, v1_clausesBefore, v1_levelCount])), (q1_equations, .inl (cL, n1_equations, .inr (.inl h1_equations)))] sz) := by
  refine Met.ofW (cc := cX0_leastSum) (maxL := 5) (ret := (some .long)) (by decide) rfl ?_
  intro p e s m args below meth c s₁ B hml hv
  obtain ⟨hargs, hsz, hP, hEV, hD0⟩ := hv
  have hx := B.exec
  have hb := B.bytes
  have hr := B.returns
  have hts := atoms_spec (ws := wsX0_leastSum) B.pre
  have hown : s.vm.findClass RX0 = some m.cls := findClass_of_methodNamed B.named
  have hlocks := B.notSynchronized
  have hK := hEV.K
  have lk_0 := hts _ lk_0_X0_leastSum
  have lk_1 := hts _ lk_1_X0_leastSum
  have lk_2 := hts _ lk_2_X0_leastSum
  have lk_3 := hts _ lk_3_X0_leastSum
  subst hsz
  unfold QlW PoW
  have hD := hD0.self (sz := s.heap.size)
  generalize hAe : va_A [(q0, .inr (0, [.int f0_n, .ref q0_byHead, .ref q0_madeOf])), (q0_byHead, .inl (cL, n0_byHead, .inr (.inl h0_byHead))), (q0_madeOf, .inl (cL, n0_madeOf, .inr (.inl h0_madeOf))), (q1, .inr (4, [.ref q1_equations, v1_yes, v1_no, .int f1_equationCount, v1_clauseCount, v1_equationsBefore, v1_clausesBefore, v1_levelCount])), (q1_equations, .inl (cL, n1_equations, .inr (.inl h1_equations)))] s.heap.size = A at hD ⊢
  have hA : ∀ q : Nat, s.heap.size ≤ q → A q := fun q h => by rw [← hAe]; exact Or.inr h
  have hent : entryFrame m args 5 = entryFrame m ([.ref q0, .ref q1] : List Value).toArray 5 := by rw [hargs]
  rw [hent]
  refine kx_Q (fun Q hQ => ?_)
  refine kx_H (fun H hH => ?_)
  have hP : va_P D vwCl [(q0, .inr (0, [.int f0_n, .ref q0_byHead, .ref q0_madeOf])), (q0_byHead, .inl (cL, n0_byHead, .inr (.inl h0_byHead))), (q0_madeOf, .inl (cL, n0_madeOf, .inr (.inl h0_madeOf))), (q1, .inr (4, [.ref q1_equations, v1_yes, v1_no, .int f1_equationCount, v1_clauseCount, v1_equationsBefore, v1_clausesBefore, v1_levelCount])), (q1_equations, .inl (cL, n1_equations, .inr (.inl h1_equations)))] H := by rw [hH]; exact hP
  have hS : va_S A s.heap H [] := by rw [hH]; exact va_S.rf
  have hl := lv_entry ([.ref q0, .ref q1]) (n := 5) (Nat.le_of_ble_eq_true rfl)
  rw [lg_entry_eq]
  generalize (lg_sl ([.ref q0, .ref q1]) ++ List.replicate (5 - (lg_sl ([.ref q0, .ref q1])).length) Slot.unset).toArray = ls at hl ⊢
  have hl : lv_has ls 5 [(0, .ref q0), (1, .ref q1)] := hl
  have hloop : ∀ n9 : Nat, (∀ (x2 : Int32) (h0_byHead : Nat → Int64) (h0_madeOf : Nat → Int64), iter (st_X0_leastSum f0_n n0_byHead n0_madeOf f1_equationCount n1_equations h1_equations) n9 (x2, h0_byHead, h0_madeOf) = some r0 → ∀ (H : Heap) (locs : List Loc) (ls : Array Slot), va_P D vwCl [(q0, .inr (0, [.int f0_n, .ref q0_byHead, .ref q0_madeOf])), (q0_byHead, .inl (cL, n0_byHead, .inr (.inl h0_byHead))), (q0_madeOf, .inl (cL, n0_madeOf, .inr (.inl h0_madeOf))), (q1, .inr (4, [.ref q1_equations, v1_yes, v1_no, .int f1_equationCount, v1_clauseCount, v1_equationsBefore, v1_clausesBefore, v1_levelCount])), (q1_equations, .inl (cL, n1_equations, .inr (.inl h1_equations)))] H → va_D A [(q0, .inr (0, [.int f0_n, .ref q0_byHead, .ref q0_madeOf])), (q0_byHead, .inl (cL, n0_byHead, .inr (.inl h0_byHead))), (q0_madeOf, .inl (cL, n0_madeOf, .inr (.inl h0_madeOf))), (q1, .inr (4, [.ref q1_equations, v1_yes, v1_no, .int f1_equationCount, v1_clauseCount, v1_equationsBefore, v1_clausesBefore, v1_levelCount])), (q1_equations, .inl (cL, n1_equations, .inr (.inl h1_equations)))] → va_S A s.heap H locs → lv_has ls 5 [(0, .ref q0), (1, .ref q1), (2, .int x2)] → W p l e (headSpec wsX0_leastSum rm_X0_leastSum).room s m args below meth c H locs 0 0 Q (F0 m 18 ls [])) := by
    intro n9
    induction n9 with
    | zero => exact (fun _ _ _ h => nomatch h)
    | succ n9 ih =>
      intro x2 h0_byHead h0_madeOf h H locs ls hP hD hS hl
      have h : run1 (iter (st_X0_leastSum f0_n n0_byHead n0_madeOf f1_equationCount n1_equations h1_equations) n9) (b_X0_leastSum_18 f0_n n0_byHead n0_madeOf f1_equationCount n1_equations h1_equations x2 h0_byHead h0_madeOf) = some r0 := h
      unfold b_X0_leastSum_18 at h
      refine lv_iload_n hx hb dX0_leastSum_18 rfl (lv_at hl 2 rfl) ?_
      refine lv_aload_n hx hb dX0_leastSum_19 rfl (lv_at hl 1 rfl) ?_
      refine va_get (D := D) (ci := 4) (v := .int f1_equationCount) (C := RX4) (T := TX4) (N := 8) hx hb hts in_X0_leastSum_X4 hown hK hP 3 rfl rfl 3 (by decide) lk_2 (fun _ h9 => h9) rfl dX0_leastSum_20 ?_
      refine lv_icmp_ge (tgt := 54) hx hb dX0_leastSum_23 (by decide) (fun c_5 => ?_) (fun c_5 => ?_)
      · have k_6 : f1_equationCount ≤ x2 := c_5
        have h := cw_t k_6 h
        refine lv_lconst (v := (0 : Int64)) hx hb dX0_leastSum_54 (by decide) ?_
        have h := Option.some.inj h
        subst h
        subst hQ
        exact W.lret (v := (0 : Int64)) hx hb hr (fun t ht hW => ⟨⟨(0 : Int64), (), rfl, ⟨rfl, trivial⟩, by rw [ht]; exact hP, hD⟩, hS.F ht⟩) hS.2.2 dX0_leastSum_55
      · have k_6 : ¬ (f1_equationCount ≤ x2) := c_5
        have h := cw_f k_6 h
        refine lv_aload_n hx hb dX0_leastSum_26 rfl (lv_at hl 0 rfl) ?_
        refine lv_aload_n hx hb dX0_leastSum_27 rfl (lv_at hl 1 rfl) ?_
        refine va_get (D := D) (ci := 4) (v := .ref q1_equations) (C := RX4) (T := TX4) (N := 8) hx hb hts in_X0_leastSum_X4 hown hK hP 3 rfl rfl 0 (by decide) lk_3 (fun _ h9 => h9) rfl dX0_leastSum_28 ?_
        refine lv_iload_n hx hb dX0_leastSum_31 rfl (lv_at hl 2 rfl) ?_
        obtain ⟨b_7, h⟩ := cw_i h
        refine va_lald hx hb hK hP 4 1 rfl rfl b_7 dX0_leastSum_32 ?_
        refine lv_lconst (v := (1 : Int64)) hx hb dX0_leastSum_33 (by decide) ?_
        refine lv_iload_n hx hb dX0_leastSum_34 rfl (lv_at hl 2 rfl) ?_
        refine lv_lshl (v := jshl (1 : Int64) x2) hx hb dX0_leastSum_35 rfl ?_
        obtain ⟨u_8, hu_9, h⟩ := cw_b h
        refine kx_l (ws' := fun _ => [(q0, .inr (0, [.int f0_n, .ref q0_byHead, .ref q0_madeOf])), (q0_byHead, .inl (cL, n0_byHead, .inr (.inl u_8.2.1))), (q0_madeOf, .inl (cL, n0_madeOf, .inr (.inl u_8.2.2))), (q1, .inr (4, [.ref q1_equations, v1_yes, v1_no, .int f1_equationCount, v1_clauseCount, v1_equationsBefore, v1_clausesBefore, v1_levelCount])), (q1_equations, .inl (cL, n1_equations, .inr (.inl h1_equations)))]) hP hD hS hA [0, 1, 2] [3, 4] [2, 3, 4, 0, 1] rfl rfl (by decide) (by decide) (fun _ => rfl) (by decide) (va_runV (As := [.long (h1_equations x2.toNatClampNeg), .long (jshl (1 : Int64) x2)]) (rest := []) ⟨hx, hb, hml, hown, hts⟩ (cm_X0_add l D cI cL (q0 := q0) (q0_byHead := q0_byHead) (q0_madeOf := q0_madeOf) (n0_byHead := n0_byHead) (n0_madeOf := n0_madeOf) (f0_n := f0_n) (h0_byHead := h0_byHead) (h0_madeOf := h0_madeOf) (x1 := h1_equations x2.toNatClampNeg) (x3 := jshl (1 : Int64) x2) (r0 := u_8) (hr0 := hu_9) (sz := H.size)) (cwV 2 hts gX0_leastSum_X0_add rfl rfl rfl (by decide +kernel) ⟨Nat.le_of_ble_eq_true rfl, Nat.le_of_ble_eq_true rfl⟩) (kx_preV hEV hP hD [0, 1, 2] rfl (by decide) (k0 := 0) (ci := 0) rfl rfl rfl) rfl rfl hl.1 rfl (lv_room (Nat.le_of_ble_eq_true rfl)) dX0_leastSum_36 ⟨Nat.le_of_ble_eq_true rfl, Nat.le_of_ble_eq_true rfl⟩) (fun _ H locs _ hP hD hS => ?_)
        refine lv_lstore_n (lv' := [(3, .long u_8.1), (0, .ref q0), (1, .ref q1), (2, .int x2)]) hx hb dX0_leastSum_39 rfl hl (by decide) rfl (fun ls hl => ?_)
        refine lv_lload_n hx hb dX0_leastSum_40 rfl (lv_at hl 0 rfl) ?_
        refine lv_lconst (v := (0 : Int64)) hx hb dX0_leastSum_41 (by decide) ?_
        refine W.lcmp hx hb dX0_leastSum_42 ?_
        refine lv_if_eq (tgt := 48) hx hb dX0_leastSum_43 (by decide) (fun c_10 => ?_) (fun c_10 => ?_)
        · have k_11 : u_8.1 = (0 : Int64) := ((lg_cmp_eq _ _).mp c_10)
          have h := cw_t k_11 h
          refine lv_iinc (v := x2 + (1 : Int32)) (lv' := [(2, .int (x2 + (1 : Int32))), (3, .long u_8.1), (0, .ref q0), (1, .ref q1)]) hx hb dX0_leastSum_48 hl (k := 3) rfl rfl (by decide) rfl (fun ls hl => ?_)
          refine lv_goto (tgt := 18) hx hb dX0_leastSum_51 (by decide) ?_
          exact ih _ _ _ h _ _ _ hP hD hS (lv_sub hl [2, 3, 0] rfl)
        · have k_11 : ¬ (u_8.1 = (0 : Int64)) := (fun z9 => c_10 ((lg_cmp_eq _ _).mpr z9))
          have h := cw_f k_11 h
          refine lv_lload_n hx hb dX0_leastSum_46 rfl (lv_at hl 0 rfl) ?_
          have h := Option.some.inj h
          subst h
          subst hQ
          exact W.lret (v := u_8.1) hx hb hr (fun t ht hW => ⟨⟨u_8.1, (), rfl, ⟨rfl, trivial⟩, by rw [ht]; exact hP, hD⟩, hS.F ht⟩) hS.2.2 dX0_leastSum_47
  have h := hr0
  unfold D_X0_leastSum at h
  refine lv_aload_n hx hb dX0_leastSum_0 rfl (lv_at hl 0 rfl) ?_
  refine va_get (D := D) (ci := 0) (v := .ref q0_byHead) (C := RX0) (T := TX0) (N := 3) hx hb hts in_X0_leastSum_X0 hown hK hP 0 rfl rfl 1 (by decide) lk_0 (fun _ h9 => h9) rfl dX0_leastSum_1 ?_
  refine lv_lconst (v := (0 : Int64)) hx hb dX0_leastSum_4 (by decide) ?_
  obtain ⟨u_1, hu_2, h⟩ := co_b h
  refine kx_v (ws' := fun _ => [(q0, .inr (0, [.int f0_n, .ref q0_byHead, .ref q0_madeOf])), (q0_byHead, .inl (cL, n0_byHead, .inr (.inl u_1))), (q0_madeOf, .inl (cL, n0_madeOf, .inr (.inl h0_madeOf))), (q1, .inr (4, [.ref q1_equations, v1_yes, v1_no, .int f1_equationCount, v1_clauseCount, v1_equationsBefore, v1_clausesBefore, v1_levelCount])), (q1_equations, .inl (cL, n1_equations, .inr (.inl h1_equations)))]) hP hD hS hA [1] [0, 2, 3, 4] [0, 4, 1, 2, 3] rfl rfl (by decide) (by decide) (fun _ => rfl) (by decide) (va_runS (As := [.ref q0_byHead, .long (0 : Int64)]) (rest := []) ⟨hx, hb, hml, hown, hts⟩ (cm_J7_fill_d0a16 l D cI cL (q0 := q0_byHead) (n0 := n0_byHead) (h0 := h0_byHead) (x1 := (0 : Int64)) (r0 := u_1) (hr0 := hu_2) (sz := H.size)) (va_cwS 2 hts gX0_leastSum_J7_fill_d0a16 rfl rfl rfl (by decide +kernel) ⟨Nat.le_of_ble_eq_true rfl, Nat.le_of_ble_eq_true rfl⟩) (kx_preS hEV hP hD [1] rfl (by decide)) rfl rfl hl.1 rfl (lv_room (Nat.le_of_ble_eq_true rfl)) dX0_leastSum_5 ⟨Nat.le_of_ble_eq_true rfl, Nat.le_of_ble_eq_true rfl⟩) (fun _ H locs _ hP hD hS => ?_)
  refine lv_aload_n hx hb dX0_leastSum_8 rfl (lv_at hl 0 rfl) ?_
  refine va_get (D := D) (ci := 0) (v := .ref q0_madeOf) (C := RX0) (T := TX0) (N := 3) hx hb hts in_X0_leastSum_X0 hown hK hP 0 rfl rfl 2 (by decide) lk_1 (fun _ h9 => h9) rfl dX0_leastSum_9 ?_
  refine lv_lconst (v := (0 : Int64)) hx hb dX0_leastSum_12 (by decide) ?_
  obtain ⟨u_3, hu_4, h⟩ := co_b h
  refine kx_v (ws' := fun _ => [(q0, .inr (0, [.int f0_n, .ref q0_byHead, .ref q0_madeOf])), (q0_byHead, .inl (cL, n0_byHead, .inr (.inl u_1))), (q0_madeOf, .inl (cL, n0_madeOf, .inr (.inl u_3))), (q1, .inr (4, [.ref q1_equations, v1_yes, v1_no, .int f1_equationCount, v1_clauseCount, v1_equationsBefore, v1_clausesBefore, v1_levelCount])), (q1_equations, .inl (cL, n1_equations, .inr (.inl h1_equations)))]) hP hD hS hA [2] [0, 1, 3, 4] [0, 1, 4, 2, 3] rfl rfl (by decide) (by decide) (fun _ => rfl) (by decide) (va_runS (As := [.ref q0_madeOf, .long (0 : Int64)]) (rest := []) ⟨hx, hb, hml, hown, hts⟩ (cm_J7_fill_d0a16 l D cI cL (q0 := q0_madeOf) (n0 := n0_madeOf) (h0 := h0_madeOf) (x1 := (0 : Int64)) (r0 := u_3) (hr0 := hu_4) (sz := H.size)) (va_cwS 2 hts gX0_leastSum_J7_fill_d0a16 rfl rfl rfl (by decide +kernel) ⟨Nat.le_of_ble_eq_true rfl, Nat.le_of_ble_eq_true rfl⟩) (kx_preS hEV hP hD [2] rfl (by decide)) rfl rfl hl.1 rfl (lv_room (Nat.le_of_ble_eq_true rfl)) dX0_leastSum_13 ⟨Nat.le_of_ble_eq_true rfl, Nat.le_of_ble_eq_true rfl⟩) (fun _ H locs _ hP hD hS => ?_)
  refine lv_iconst (v := (0 : Int32)) hx hb dX0_leastSum_16 (by decide) ?_
  refine lv_istore_n (lv' := [(2, .int (0 : Int32)), (0, .ref q0), (1, .ref q1)]) hx hb dX0_leastSum_17 rfl hl (by decide) rfl (fun ls hl => ?_)
  obtain ⟨n9, hn9⟩ := runw_some h
  exact (hloop n9) _ _ _ hn9 _ _ _ hP hD hS (lv_sub hl [1, 2, 0] rfl)
theorem lk_0_J13_bitCount_95d88 : Cond.constantLong RJ13 314 (6148914691236517205) ∈ wsJ13_bitCount_95d88 := by decide +kernel
theorem lk_1_J13_bitCount_95d88 : Cond.constantLong RJ13 316 (3689348814741910323) ∈ wsJ13_bitCount_95d88 := by decide +kernel
theorem lk_2_J13_bitCount_95d88 : Cond.constantLong RJ13 318 (1085102592571150095) ∈ wsJ13_bitCount_95d88 := by decide +kernel
abbrev rm_J13_bitCount_95d88 : Room := { frames := 0, cells := 0, slots := 0, locals := 0 }
set_option maxHeartbeats 4000000 in
set_option maxRecDepth 100000 in
theorem cm_J13_bitCount_95d88 (l : Launch) (D : va_G) (cI cL : ClassId) (x0 : Int64) (r0 : Int32) (hr0 : D_J13_bitCount_95d88 x0 = some r0) (sz : Nat) : Met l yJ13_bitCount_95d88 wsJ13_bitCount_95d88 rm_J13_bitCount_95d88 (PcW D cI cL [.long x0] [] sz) (QiW D [] r0 (fun _ : Unit => []) tU sz) 0 0 (va_A [] sz) := by
  refine Met.ofW (cc := cJ13_bitCount_95d88) (maxL := 2) (ret := (some .int)) (by decide) rfl ?_
  intro p e s m args below meth c s₁ B hml hv
  obtain ⟨hargs, hsz, hP, hEV, hD0⟩ := hv
  have hx := B.exec
  have hb := B.bytes
  have hr := B.returns
  have hts := atoms_spec (ws := wsJ13_bitCount_95d88) B.pre
  have hown : s.vm.findClass RJ13 = some m.cls := findClass_of_methodNamed B.named
  have hlocks := B.notSynchronized
  have hK := hEV.K
  have lk_0 := hts _ lk_0_J13_bitCount_95d88
  have lk_1 := hts _ lk_1_J13_bitCount_95d88
  have lk_2 := hts _ lk_2_J13_bitCount_95d88
  subst hsz
  unfold QiW PoW
  have hD := hD0.self (sz := s.heap.size)
  generalize hAe : va_A [] s.heap.size = A at hD ⊢
  have hA : ∀ q : Nat, s.heap.size ≤ q → A q := fun q h => by rw [← hAe]; exact Or.inr h
  have hent : entryFrame m args 2 = entryFrame m ([.long x0] : List Value).toArray 2 := by rw [hargs]
  rw [hent]
  refine kx_Q (fun Q hQ => ?_)
  refine kx_H (fun H hH => ?_)
  have hP : va_P D vwCl [] H := by rw [hH]; exact hP
  have hS : va_S A s.heap H [] := by rw [hH]; exact va_S.rf
  have hl := lv_entry ([.long x0]) (n := 2) (Nat.le_of_ble_eq_true rfl)
  rw [lg_entry_eq]
  generalize (lg_sl ([.long x0]) ++ List.replicate (2 - (lg_sl ([.long x0])).length) Slot.unset).toArray = ls at hl ⊢
  have hl : lv_has ls 2 [(0, .long x0)] := hl
  have h := hr0
  unfold D_J13_bitCount_95d88 at h
  refine lv_lload_n hx hb dJ13_bitCount_95d88_0 rfl (lv_at hl 0 rfl) ?_
  refine lv_lload_n hx hb dJ13_bitCount_95d88_1 rfl (lv_at hl 0 rfl) ?_
  refine lv_iconst (v := (1 : Int32)) hx hb dJ13_bitCount_95d88_2 (by decide) ?_
  refine lv_lushr (v := jushr x0 (1 : Int32)) hx hb dJ13_bitCount_95d88_3 rfl ?_
  refine lv_ldc2 hx hb hown lk_0 dJ13_bitCount_95d88_4 ?_
  refine lv_land hx hb dJ13_bitCount_95d88_7 ?_
  refine lv_lsub hx hb dJ13_bitCount_95d88_8 ?_
  refine lv_lstore_n (lv' := [(0, .long (x0 - ((jushr x0 (1 : Int32)) &&& (6148914691236517205 : Int64))))]) hx hb dJ13_bitCount_95d88_9 rfl hl (by decide) rfl (fun ls hl => ?_)
  refine lv_lload_n hx hb dJ13_bitCount_95d88_10 rfl (lv_at hl 0 rfl) ?_
  refine lv_ldc2 hx hb hown lk_1 dJ13_bitCount_95d88_11 ?_
  refine lv_land hx hb dJ13_bitCount_95d88_14 ?_
  refine lv_lload_n hx hb dJ13_bitCount_95d88_15 rfl (lv_at hl 0 rfl) ?_
  refine lv_iconst (v := (2 : Int32)) hx hb dJ13_bitCount_95d88_16 (by decide) ?_
  refine lv_lushr (v := jushr (x0 - ((jushr x0 (1 : Int32)) &&& (6148914691236517205 : Int64))) (2 : Int32)) hx hb dJ13_bitCount_95d88_17 rfl ?_
  refine lv_ldc2 hx hb hown lk_1 dJ13_bitCount_95d88_18 ?_
  refine lv_land hx hb dJ13_bitCount_95d88_21 ?_
  refine lv_ladd hx hb dJ13_bitCount_95d88_22 ?_
  refine lv_lstore_n (lv' := [(0, .long (((x0 - ((jushr x0 (1 : Int32)) &&& (6148914691236517205 : Int64))) &&& (3689348814741910323 : Int64)) + ((jushr (x0 - ((jushr x0 (1 : Int32)) &&& (6148914691236517205 : Int64))) (2 : Int32)) &&& (3689348814741910323 : Int64))))]) hx hb dJ13_bitCount_95d88_23 rfl hl (by decide) rfl (fun ls hl => ?_)
  refine lv_lload_n hx hb dJ13_bitCount_95d88_24 rfl (lv_at hl 0 rfl) ?_
  refine lv_lload_n hx hb dJ13_bitCount_95d88_25 rfl (lv_at hl 0 rfl) ?_
  refine lv_iconst (v := (4 : Int32)) hx hb dJ13_bitCount_95d88_26 (by decide) ?_
  refine lv_lushr (v := jushr (((x0 - ((jushr x0 (1 : Int32)) &&& (6148914691236517205 : Int64))) &&& (3689348814741910323 : Int64)) + ((jushr (x0 - ((jushr x0 (1 : Int32)) &&& (6148914691236517205 : Int64))) (2 : Int32)) &&& (3689348814741910323 : Int64))) (4 : Int32)) hx hb dJ13_bitCount_95d88_27 rfl ?_
  refine lv_ladd hx hb dJ13_bitCount_95d88_28 ?_
  refine lv_ldc2 hx hb hown lk_2 dJ13_bitCount_95d88_29 ?_
  refine lv_land hx hb dJ13_bitCount_95d88_32 ?_
  refine lv_lstore_n (lv' := [(0, .long (((((x0 - ((jushr x0 (1 : Int32)) &&& (6148914691236517205 : Int64))) &&& (3689348814741910323 : Int64)) + ((jushr (x0 - ((jushr x0 (1 : Int32)) &&& (6148914691236517205 : Int64))) (2 : Int32)) &&& (3689348814741910323 : Int64))) + (jushr (((x0 - ((jushr x0 (1 : Int32)) &&& (6148914691236517205 : Int64))) &&& (3689348814741910323 : Int64)) + ((jushr (x0 - ((jushr x0 (1 : Int32)) &&& (6148914691236517205 : Int64))) (2 : Int32)) &&& (3689348814741910323 : Int64))) (4 : Int32))) &&& (1085102592571150095 : Int64)))]) hx hb dJ13_bitCount_95d88_33 rfl hl (by decide) rfl (fun ls hl => ?_)
  refine lv_lload_n hx hb dJ13_bitCount_95d88_34 rfl (lv_at hl 0 rfl) ?_
  refine lv_lload_n hx hb dJ13_bitCount_95d88_35 rfl (lv_at hl 0 rfl) ?_
  refine lv_bipush (v := (8 : Int32)) hx hb dJ13_bitCount_95d88_36 (by decide) ?_
  refine lv_lushr (v := jushr (((((x0 - ((jushr x0 (1 : Int32)) &&& (6148914691236517205 : Int64))) &&& (3689348814741910323 : Int64)) + ((jushr (x0 - ((jushr x0 (1 : Int32)) &&& (6148914691236517205 : Int64))) (2 : Int32)) &&& (3689348814741910323 : Int64))) + (jushr (((x0 - ((jushr x0 (1 : Int32)) &&& (6148914691236517205 : Int64))) &&& (3689348814741910323 : Int64)) + ((jushr (x0 - ((jushr x0 (1 : Int32)) &&& (6148914691236517205 : Int64))) (2 : Int32)) &&& (3689348814741910323 : Int64))) (4 : Int32))) &&& (1085102592571150095 : Int64)) (8 : Int32)) hx hb dJ13_bitCount_95d88_38 rfl ?_
  refine lv_ladd hx hb dJ13_bitCount_95d88_39 ?_
  refine lv_lstore_n (lv' := [(0, .long ((((((x0 - ((jushr x0 (1 : Int32)) &&& (6148914691236517205 : Int64))) &&& (3689348814741910323 : Int64)) + ((jushr (x0 - ((jushr x0 (1 : Int32)) &&& (6148914691236517205 : Int64))) (2 : Int32)) &&& (3689348814741910323 : Int64))) + (jushr (((x0 - ((jushr x0 (1 : Int32)) &&& (6148914691236517205 : Int64))) &&& (3689348814741910323 : Int64)) + ((jushr (x0 - ((jushr x0 (1 : Int32)) &&& (6148914691236517205 : Int64))) (2 : Int32)) &&& (3689348814741910323 : Int64))) (4 : Int32))) &&& (1085102592571150095 : Int64)) + (jushr (((((x0 - ((jushr x0 (1 : Int32)) &&& (6148914691236517205 : Int64))) &&& (3689348814741910323 : Int64)) + ((jushr (x0 - ((jushr x0 (1 : Int32)) &&& (6148914691236517205 : Int64))) (2 : Int32)) &&& (3689348814741910323 : Int64))) + (jushr (((x0 - ((jushr x0 (1 : Int32)) &&& (6148914691236517205 : Int64))) &&& (3689348814741910323 : Int64)) + ((jushr (x0 - ((jushr x0 (1 : Int32)) &&& (6148914691236517205 : Int64))) (2 : Int32)) &&& (3689348814741910323 : Int64))) (4 : Int32))) &&& (1085102592571150095 : Int64)) (8 : Int32))))]) hx hb dJ13_bitCount_95d88_40 rfl hl (by decide) rfl (fun ls hl => ?_)
  refine lv_lload_n hx hb dJ13_bitCount_95d88_41 rfl (lv_at hl 0 rfl) ?_
  refine lv_lload_n hx hb dJ13_bitCount_95d88_42 rfl (lv_at hl 0 rfl) ?_
  refine lv_bipush (v := (16 : Int32)) hx hb dJ13_bitCount_95d88_43 (by decide) ?_
  refine lv_lushr (v := jushr ((((((x0 - ((jushr x0 (1 : Int32)) &&& (6148914691236517205 : Int64))) &&& (3689348814741910323 : Int64)) + ((jushr (x0 - ((jushr x0 (1 : Int32)) &&& (6148914691236517205 : Int64))) (2 : Int32)) &&& (3689348814741910323 : Int64))) + (jushr (((x0 - ((jushr x0 (1 : Int32)) &&& (6148914691236517205 : Int64))) &&& (3689348814741910323 : Int64)) + ((jushr (x0 - ((jushr x0 (1 : Int32)) &&& (6148914691236517205 : Int64))) (2 : Int32)) &&& (3689348814741910323 : Int64))) (4 : Int32))) &&& (1085102592571150095 : Int64)) + (jushr (((((x0 - ((jushr x0 (1 : Int32)) &&& (6148914691236517205 : Int64))) &&& (3689348814741910323 : Int64)) + ((jushr (x0 - ((jushr x0 (1 : Int32)) &&& (6148914691236517205 : Int64))) (2 : Int32)) &&& (3689348814741910323 : Int64))) + (jushr (((x0 - ((jushr x0 (1 : Int32)) &&& (6148914691236517205 : Int64))) &&& (3689348814741910323 : Int64)) + ((jushr (x0 - ((jushr x0 (1 : Int32)) &&& (6148914691236517205 : Int64))) (2 : Int32)) &&& (3689348814741910323 : Int64))) (4 : Int32))) &&& (1085102592571150095 : Int64)) (8 : Int32))) (16 : Int32)) hx hb dJ13_bitCount_95d88_45 rfl ?_
  refine lv_ladd hx hb dJ13_bitCount_95d88_46 ?_
  refine lv_lstore_n (lv' := [(0, .long (((((((x0 - ((jushr x0 (1 : Int32)) &&& (6148914691236517205 : Int64))) &&& (3689348814741910323 : Int64)) + ((jushr (x0 - ((jushr x0 (1 : Int32)) &&& (6148914691236517205 : Int64))) (2 : Int32)) &&& (3689348814741910323 : Int64))) + (jushr (((x0 - ((jushr x0 (1 : Int32)) &&& (6148914691236517205 : Int64))) &&& (3689348814741910323 : Int64)) + ((jushr (x0 - ((jushr x0 (1 : Int32)) &&& (6148914691236517205 : Int64))) (2 : Int32)) &&& (3689348814741910323 : Int64))) (4 : Int32))) &&& (1085102592571150095 : Int64)) + (jushr (((((x0 - ((jushr x0 (1 : Int32)) &&& (6148914691236517205 : Int64))) &&& (3689348814741910323 : Int64)) + ((jushr (x0 - ((jushr x0 (1 : Int32)) &&& (6148914691236517205 : Int64))) (2 : Int32)) &&& (3689348814741910323 : Int64))) + (jushr (((x0 - ((jushr x0 (1 : Int32)) &&& (6148914691236517205 : Int64))) &&& (3689348814741910323 : Int64)) + ((jushr (x0 - ((jushr x0 (1 : Int32)) &&& (6148914691236517205 : Int64))) (2 : Int32)) &&& (3689348814741910323 : Int64))) (4 : Int32))) &&& (1085102592571150095 : Int64)) (8 : Int32))) + (jushr ((((((x0 - ((jushr x0 (1 : Int32)) &&& (6148914691236517205 : Int64))) &&& (3689348814741910323 : Int64)) + ((jushr (x0 - ((jushr x0 (1 : Int32)) &&& (6148914691236517205 : Int64))) (2 : Int32)) &&& (3689348814741910323 : Int64))) + (jushr (((x0 - ((jushr x0 (1 : Int32)) &&& (6148914691236517205 : Int64))) &&& (3689348814741910323 : Int64)) + ((jushr (x0 - ((jushr x0 (1 : Int32)) &&& (6148914691236517205 : Int64))) (2 : Int32)) &&& (3689348814741910323 : Int64))) (4 : Int32))) &&& (1085102592571150095 : Int64)) + (jushr (((((x0 - ((jushr x0 (1 : Int32)) &&& (6148914691236517205 : Int64))) &&& (3689348814741910323 : Int64)) + ((jushr (x0 - ((jushr x0 (1 : Int32)) &&& (6148914691236517205 : Int64))) (2 : Int32)) &&& (3689348814741910323 : Int64))) + (jushr (((x0 - ((jushr x0 (1 : Int32)) &&& (6148914691236517205 : Int64))) &&& (3689348814741910323 : Int64)) + ((jushr (x0 - ((jushr x0 (1 : Int32)) &&& (6148914691236517205 : Int64))) (2 : Int32)) &&& (3689348814741910323 : Int64))) (4 : Int32))) &&& (1085102592571150095 : Int64)) (8 : Int32))) (16 : Int32))))]) hx hb dJ13_bitCount_95d88_47 rfl hl (by decide) rfl (fun ls hl => ?_)
  refine lv_lload_n hx hb dJ13_bitCount_95d88_48 rfl (lv_at hl 0 rfl) ?_
  refine lv_lload_n hx hb dJ13_bitCount_95d88_49 rfl (lv_at hl 0 rfl) ?_
  refine lv_bipush (v := (32 : Int32)) hx hb dJ13_bitCount_95d88_50 (by decide) ?_
  refine lv_lushr (v := jushr (((((((x0 - ((jushr x0 (1 : Int32)) &&& (6148914691236517205 : Int64))) &&& (3689348814741910323 : Int64)) + ((jushr (x0 - ((jushr x0 (1 : Int32)) &&& (6148914691236517205 : Int64))) (2 : Int32)) &&& (3689348814741910323 : Int64))) + (jushr (((x0 - ((jushr x0 (1 : Int32)) &&& (6148914691236517205 : Int64))) &&& (3689348814741910323 : Int64)) + ((jushr (x0 - ((jushr x0 (1 : Int32)) &&& (6148914691236517205 : Int64))) (2 : Int32)) &&& (3689348814741910323 : Int64))) (4 : Int32))) &&& (1085102592571150095 : Int64)) + (jushr (((((x0 - ((jushr x0 (1 : Int32)) &&& (6148914691236517205 : Int64))) &&& (3689348814741910323 : Int64)) + ((jushr (x0 - ((jushr x0 (1 : Int32)) &&& (6148914691236517205 : Int64))) (2 : Int32)) &&& (3689348814741910323 : Int64))) + (jushr (((x0 - ((jushr x0 (1 : Int32)) &&& (6148914691236517205 : Int64))) &&& (3689348814741910323 : Int64)) + ((jushr (x0 - ((jushr x0 (1 : Int32)) &&& (6148914691236517205 : Int64))) (2 : Int32)) &&& (3689348814741910323 : Int64))) (4 : Int32))) &&& (1085102592571150095 : Int64)) (8 : Int32))) + (jushr ((((((x0 - ((jushr x0 (1 : Int32)) &&& (6148914691236517205 : Int64))) &&& (3689348814741910323 : Int64)) + ((jushr (x0 - ((jushr x0 (1 : Int32)) &&& (6148914691236517205 : Int64))) (2 : Int32)) &&& (3689348814741910323 : Int64))) + (jushr (((x0 - ((jushr x0 (1 : Int32)) &&& (6148914691236517205 : Int64))) &&& (3689348814741910323 : Int64)) + ((jushr (x0 - ((jushr x0 (1 : Int32)) &&& (6148914691236517205 : Int64))) (2 : Int32)) &&& (3689348814741910323 : Int64))) (4 : Int32))) &&& (1085102592571150095 : Int64)) + (jushr (((((x0 - ((jushr x0 (1 : Int32)) &&& (6148914691236517205 : Int64))) &&& (3689348814741910323 : Int64)) + ((jushr (x0 - ((jushr x0 (1 : Int32)) &&& (6148914691236517205 : Int64))) (2 : Int32)) &&& (3689348814741910323 : Int64))) + (jushr (((x0 - ((jushr x0 (1 : Int32)) &&& (6148914691236517205 : Int64))) &&& (3689348814741910323 : Int64)) + ((jushr (x0 - ((jushr x0 (1 : Int32)) &&& (6148914691236517205 : Int64))) (2 : Int32)) &&& (3689348814741910323 : Int64))) (4 : Int32))) &&& (1085102592571150095 : Int64)) (8 : Int32))) (16 : Int32))) (32 : Int32)) hx hb dJ13_bitCount_95d88_52 rfl ?_
  refine lv_ladd hx hb dJ13_bitCount_95d88_53 ?_
  refine lv_lstore_n (lv' := [(0, .long ((((((((x0 - ((jushr x0 (1 : Int32)) &&& (6148914691236517205 : Int64))) &&& (3689348814741910323 : Int64)) + ((jushr (x0 - ((jushr x0 (1 : Int32)) &&& (6148914691236517205 : Int64))) (2 : Int32)) &&& (3689348814741910323 : Int64))) + (jushr (((x0 - ((jushr x0 (1 : Int32)) &&& (6148914691236517205 : Int64))) &&& (3689348814741910323 : Int64)) + ((jushr (x0 - ((jushr x0 (1 : Int32)) &&& (6148914691236517205 : Int64))) (2 : Int32)) &&& (3689348814741910323 : Int64))) (4 : Int32))) &&& (1085102592571150095 : Int64)) + (jushr (((((x0 - ((jushr x0 (1 : Int32)) &&& (6148914691236517205 : Int64))) &&& (3689348814741910323 : Int64)) + ((jushr (x0 - ((jushr x0 (1 : Int32)) &&& (6148914691236517205 : Int64))) (2 : Int32)) &&& (3689348814741910323 : Int64))) + (jushr (((x0 - ((jushr x0 (1 : Int32)) &&& (6148914691236517205 : Int64))) &&& (3689348814741910323 : Int64)) + ((jushr (x0 - ((jushr x0 (1 : Int32)) &&& (6148914691236517205 : Int64))) (2 : Int32)) &&& (3689348814741910323 : Int64))) (4 : Int32))) &&& (1085102592571150095 : Int64)) (8 : Int32))) + (jushr ((((((x0 - ((jushr x0 (1 : Int32)) &&& (6148914691236517205 : Int64))) &&& (3689348814741910323 : Int64)) + ((jushr (x0 - ((jushr x0 (1 : Int32)) &&& (6148914691236517205 : Int64))) (2 : Int32)) &&& (3689348814741910323 : Int64))) + (jushr (((x0 - ((jushr x0 (1 : Int32)) &&& (6148914691236517205 : Int64))) &&& (3689348814741910323 : Int64)) + ((jushr (x0 - ((jushr x0 (1 : Int32)) &&& (6148914691236517205 : Int64))) (2 : Int32)) &&& (3689348814741910323 : Int64))) (4 : Int32))) &&& (1085102592571150095 : Int64)) + (jushr (((((x0 - ((jushr x0 (1 : Int32)) &&& (6148914691236517205 : Int64))) &&& (3689348814741910323 : Int64)) + ((jushr (x0 - ((jushr x0 (1 : Int32)) &&& (6148914691236517205 : Int64))) (2 : Int32)) &&& (3689348814741910323 : Int64))) + (jushr (((x0 - ((jushr x0 (1 : Int32)) &&& (6148914691236517205 : Int64))) &&& (3689348814741910323 : Int64)) + ((jushr (x0 - ((jushr x0 (1 : Int32)) &&& (6148914691236517205 : Int64))) (2 : Int32)) &&& (3689348814741910323 : Int64))) (4 : Int32))) &&& (1085102592571150095 : Int64)) (8 : Int32))) (16 : Int32))) + (jushr (((((((x0 - ((jushr x0 (1 : Int32)) &&& (6148914691236517205 : Int64))) &&& (3689348814741910323 : Int64)) + ((jushr (x0 - ((jushr x0 (1 : Int32)) &&& (6148914691236517205 : Int64))) (2 : Int32)) &&& (3689348814741910323 : Int64))) + (jushr (((x0 - ((jushr x0 (1 : Int32)) &&& (6148914691236517205 : Int64))) &&& (3689348814741910323 : Int64)) + ((jushr (x0 - ((jushr x0 (1 : Int32)) &&& (6148914691236517205 : Int64))) (2 : Int32)) &&& (3689348814741910323 : Int64))) (4 : Int32))) &&& (1085102592571150095 : Int64)) + (jushr (((((x0 - ((jushr x0 (1 : Int32)) &&& (6148914691236517205 : Int64))) &&& (3689348814741910323 : Int64)) + ((jushr (x0 - ((jushr x0 (1 : Int32)) &&& (6148914691236517205 : Int64))) (2 : Int32)) &&& (3689348814741910323 : Int64))) + (jushr (((x0 - ((jushr x0 (1 : Int32)) &&& (6148914691236517205 : Int64))) &&& (3689348814741910323 : Int64)) + ((jushr (x0 - ((jushr x0 (1 : Int32)) &&& (6148914691236517205 : Int64))) (2 : Int32)) &&& (3689348814741910323 : Int64))) (4 : Int32))) &&& (1085102592571150095 : Int64)) (8 : Int32))) + (jushr ((((((x0 - ((jushr x0 (1 : Int32)) &&& (6148914691236517205 : Int64))) &&& (3689348814741910323 : Int64)) + ((jushr (x0 - ((jushr x0 (1 : Int32)) &&& (6148914691236517205 : Int64))) (2 : Int32)) &&& (3689348814741910323 : Int64))) + (jushr (((x0 - ((jushr x0 (1 : Int32)) &&& (6148914691236517205 : Int64))) &&& (3689348814741910323 : Int64)) + ((jushr (x0 - ((jushr x0 (1 : Int32)) &&& (6148914691236517205 : Int64))) (2 : Int32)) &&& (3689348814741910323 : Int64))) (4 : Int32))) &&& (1085102592571150095 : Int64)) + (jushr (((((x0 - ((jushr x0 (1 : Int32)) &&& (6148914691236517205 : Int64))) &&& (3689348814741910323 : Int64)) + ((jushr (x0 - ((jushr x0 (1 : Int32)) &&& (6148914691236517205 : Int64))) (2 : Int32)) &&& (3689348814741910323 : Int64))) + (jushr (((x0 - ((jushr x0 (1 : Int32)) &&& (6148914691236517205 : Int64))) &&& (3689348814741910323 : Int64)) + ((jushr (x0 - ((jushr x0 (1 : Int32)) &&& (6148914691236517205 : Int64))) (2 : Int32)) &&& (3689348814741910323 : Int64))) (4 : Int32))) &&& (1085102592571150095 : Int64)) (8 : Int32))) (16 : Int32))) (32 : Int32))))]) hx hb dJ13_bitCount_95d88_54 rfl hl (by decide) rfl (fun ls hl => ?_)
  refine lv_lload_n hx hb dJ13_bitCount_95d88_55 rfl (lv_at hl 0 rfl) ?_
  refine lv_l2i (v := ((((((((x0 - ((jushr x0 (1 : Int32)) &&& (6148914691236517205 : Int64))) &&& (3689348814741910323 : Int64)) + ((jushr (x0 - ((jushr x0 (1 : Int32)) &&& (6148914691236517205 : Int64))) (2 : Int32)) &&& (3689348814741910323 : Int64))) + (jushr (((x0 - ((jushr x0 (1 : Int32)) &&& (6148914691236517205 : Int64))) &&& (3689348814741910323 : Int64)) + ((jushr (x0 - ((jushr x0 (1 : Int32)) &&& (6148914691236517205 : Int64))) (2 : Int32)) &&& (3689348814741910323 : Int64))) (4 : Int32))) &&& (1085102592571150095 : Int64)) + (jushr (((((x0 - ((jushr x0 (1 : Int32)) &&& (6148914691236517205 : Int64))) &&& (3689348814741910323 : Int64)) + ((jushr (x0 - ((jushr x0 (1 : Int32)) &&& (6148914691236517205 : Int64))) (2 : Int32)) &&& (3689348814741910323 : Int64))) + (jushr (((x0 - ((jushr x0 (1 : Int32)) &&& (6148914691236517205 : Int64))) &&& (3689348814741910323 : Int64)) + ((jushr (x0 - ((jushr x0 (1 : Int32)) &&& (6148914691236517205 : Int64))) (2 : Int32)) &&& (3689348814741910323 : Int64))) (4 : Int32))) &&& (1085102592571150095 : Int64)) (8 : Int32))) + (jushr ((((((x0 - ((jushr x0 (1 : Int32)) &&& (6148914691236517205 : Int64))) &&& (3689348814741910323 : Int64)) + ((jushr (x0 - ((jushr x0 (1 : Int32)) &&& (6148914691236517205 : Int64))) (2 : Int32)) &&& (3689348814741910323 : Int64))) + (jushr (((x0 - ((jushr x0 (1 : Int32)) &&& (6148914691236517205 : Int64))) &&& (3689348814741910323 : Int64)) + ((jushr (x0 - ((jushr x0 (1 : Int32)) &&& (6148914691236517205 : Int64))) (2 : Int32)) &&& (3689348814741910323 : Int64))) (4 : Int32))) &&& (1085102592571150095 : Int64)) + (jushr (((((x0 - ((jushr x0 (1 : Int32)) &&& (6148914691236517205 : Int64))) &&& (3689348814741910323 : Int64)) + ((jushr (x0 - ((jushr x0 (1 : Int32)) &&& (6148914691236517205 : Int64))) (2 : Int32)) &&& (3689348814741910323 : Int64))) + (jushr (((x0 - ((jushr x0 (1 : Int32)) &&& (6148914691236517205 : Int64))) &&& (3689348814741910323 : Int64)) + ((jushr (x0 - ((jushr x0 (1 : Int32)) &&& (6148914691236517205 : Int64))) (2 : Int32)) &&& (3689348814741910323 : Int64))) (4 : Int32))) &&& (1085102592571150095 : Int64)) (8 : Int32))) (16 : Int32))) + (jushr (((((((x0 - ((jushr x0 (1 : Int32)) &&& (6148914691236517205 : Int64))) &&& (3689348814741910323 : Int64)) + ((jushr (x0 - ((jushr x0 (1 : Int32)) &&& (6148914691236517205 : Int64))) (2 : Int32)) &&& (3689348814741910323 : Int64))) + (jushr (((x0 - ((jushr x0 (1 : Int32)) &&& (6148914691236517205 : Int64))) &&& (3689348814741910323 : Int64)) + ((jushr (x0 - ((jushr x0 (1 : Int32)) &&& (6148914691236517205 : Int64))) (2 : Int32)) &&& (3689348814741910323 : Int64))) (4 : Int32))) &&& (1085102592571150095 : Int64)) + (jushr (((((x0 - ((jushr x0 (1 : Int32)) &&& (6148914691236517205 : Int64))) &&& (3689348814741910323 : Int64)) + ((jushr (x0 - ((jushr x0 (1 : Int32)) &&& (6148914691236517205 : Int64))) (2 : Int32)) &&& (3689348814741910323 : Int64))) + (jushr (((x0 - ((jushr x0 (1 : Int32)) &&& (6148914691236517205 : Int64))) &&& (3689348814741910323 : Int64)) + ((jushr (x0 - ((jushr x0 (1 : Int32)) &&& (6148914691236517205 : Int64))) (2 : Int32)) &&& (3689348814741910323 : Int64))) (4 : Int32))) &&& (1085102592571150095 : Int64)) (8 : Int32))) + (jushr ((((((x0 - ((jushr x0 (1 : Int32)) &&& (6148914691236517205 : Int64))) &&& (3689348814741910323 : Int64)) + ((jushr (x0 - ((jushr x0 (1 : Int32)) &&& (6148914691236517205 : Int64))) (2 : Int32)) &&& (3689348814741910323 : Int64))) + (jushr (((x0 - ((jushr x0 (1 : Int32)) &&& (6148914691236517205 : Int64))) &&& (3689348814741910323 : Int64)) + ((jushr (x0 - ((jushr x0 (1 : Int32)) &&& (6148914691236517205 : Int64))) (2 : Int32)) &&& (3689348814741910323 : Int64))) (4 : Int32))) &&& (1085102592571150095 : Int64)) + (jushr (((((x0 - ((jushr x0 (1 : Int32)) &&& (6148914691236517205 : Int64))) &&& (3689348814741910323 : Int64)) + ((jushr (x0 - ((jushr x0 (1 : Int32)) &&& (6148914691236517205 : Int64))) (2 : Int32)) &&& (3689348814741910323 : Int64))) + (jushr (((x0 - ((jushr x0 (1 : Int32)) &&& (6148914691236517205 : Int64))) &&& (3689348814741910323 : Int64)) + ((jushr (x0 - ((jushr x0 (1 : Int32)) &&& (6148914691236517205 : Int64))) (2 : Int32)) &&& (3689348814741910323 : Int64))) (4 : Int32))) &&& (1085102592571150095 : Int64)) (8 : Int32))) (16 : Int32))) (32 : Int32))).toInt32) hx hb dJ13_bitCount_95d88_56 rfl ?_
  refine lv_bipush (v := (127 : Int32)) hx hb dJ13_bitCount_95d88_57 (by decide) ?_
  refine lv_iand hx hb dJ13_bitCount_95d88_59 ?_
  have h := Option.some.inj h
  subst h
  subst hQ
  exact W.iret (v := (((((((((x0 - ((jushr x0 (1 : Int32)) &&& (6148914691236517205 : Int64))) &&& (3689348814741910323 : Int64)) + ((jushr (x0 - ((jushr x0 (1 : Int32)) &&& (6148914691236517205 : Int64))) (2 : Int32)) &&& (3689348814741910323 : Int64))) + (jushr (((x0 - ((jushr x0 (1 : Int32)) &&& (6148914691236517205 : Int64))) &&& (3689348814741910323 : Int64)) + ((jushr (x0 - ((jushr x0 (1 : Int32)) &&& (6148914691236517205 : Int64))) (2 : Int32)) &&& (3689348814741910323 : Int64))) (4 : Int32))) &&& (1085102592571150095 : Int64)) + (jushr (((((x0 - ((jushr x0 (1 : Int32)) &&& (6148914691236517205 : Int64))) &&& (3689348814741910323 : Int64)) + ((jushr (x0 - ((jushr x0 (1 : Int32)) &&& (6148914691236517205 : Int64))) (2 : Int32)) &&& (3689348814741910323 : Int64))) + (jushr (((x0 - ((jushr x0 (1 : Int32)) &&& (6148914691236517205 : Int64))) &&& (3689348814741910323 : Int64)) + ((jushr (x0 - ((jushr x0 (1 : Int32)) &&& (6148914691236517205 : Int64))) (2 : Int32)) &&& (3689348814741910323 : Int64))) (4 : Int32))) &&& (1085102592571150095 : Int64)) (8 : Int32))) + (jushr ((((((x0 - ((jushr x0 (1 : Int32)) &&& (6148914691236517205 : Int64))) &&& (3689348814741910323 : Int64)) + ((jushr (x0 - ((jushr x0 (1 : Int32)) &&& (6148914691236517205 : Int64))) (2 : Int32)) &&& (3689348814741910323 : Int64))) + (jushr (((x0 - ((jushr x0 (1 : Int32)) &&& (6148914691236517205 : Int64))) &&& (3689348814741910323 : Int64)) + ((jushr (x0 - ((jushr x0 (1 : Int32)) &&& (6148914691236517205 : Int64))) (2 : Int32)) &&& (3689348814741910323 : Int64))) (4 : Int32))) &&& (1085102592571150095 : Int64)) + (jushr (((((x0 - ((jushr x0 (1 : Int32)) &&& (6148914691236517205 : Int64))) &&& (3689348814741910323 : Int64)) + ((jushr (x0 - ((jushr x0 (1 : Int32)) &&& (6148914691236517205 : Int64))) (2 : Int32)) &&& (3689348814741910323 : Int64))) + (jushr (((x0 - ((jushr x0 (1 : Int32)) &&& (6148914691236517205 : Int64))) &&& (3689348814741910323 : Int64)) + ((jushr (x0 - ((jushr x0 (1 : Int32)) &&& (6148914691236517205 : Int64))) (2 : Int32)) &&& (3689348814741910323 : Int64))) (4 : Int32))) &&& (1085102592571150095 : Int64)) (8 : Int32))) (16 : Int32))) + (jushr (((((((x0 - ((jushr x0 (1 : Int32)) &&& (6148914691236517205 : Int64))) &&& (3689348814741910323 : Int64)) + ((jushr (x0 - ((jushr x0 (1 : Int32)) &&& (6148914691236517205 : Int64))) (2 : Int32)) &&& (3689348814741910323 : Int64))) + (jushr (((x0 - ((jushr x0 (1 : Int32)) &&& (6148914691236517205 : Int64))) &&& (3689348814741910323 : Int64)) + ((jushr (x0 - ((jushr x0 (1 : Int32)) &&& (6148914691236517205 : Int64))) (2 : Int32)) &&& (3689348814741910323 : Int64))) (4 : Int32))) &&& (1085102592571150095 : Int64)) + (jushr (((((x0 - ((jushr x0 (1 : Int32)) &&& (6148914691236517205 : Int64))) &&& (3689348814741910323 : Int64)) + ((jushr (x0 - ((jushr x0 (1 : Int32)) &&& (6148914691236517205 : Int64))) (2 : Int32)) &&& (3689348814741910323 : Int64))) + (jushr (((x0 - ((jushr x0 (1 : Int32)) &&& (6148914691236517205 : Int64))) &&& (3689348814741910323 : Int64)) + ((jushr (x0 - ((jushr x0 (1 : Int32)) &&& (6148914691236517205 : Int64))) (2 : Int32)) &&& (3689348814741910323 : Int64))) (4 : Int32))) &&& (1085102592571150095 : Int64)) (8 : Int32))) + (jushr ((((((x0 - ((jushr x0 (1 : Int32)) &&& (6148914691236517205 : Int64))) &&& (3689348814741910323 : Int64)) + ((jushr (x0 - ((jushr x0 (1 : Int32)) &&& (6148914691236517205 : Int64))) (2 : Int32)) &&& (3689348814741910323 : Int64))) + (jushr (((x0 - ((jushr x0 (1 : Int32)) &&& (6148914691236517205 : Int64))) &&& (3689348814741910323 : Int64)) + ((jushr (x0 - ((jushr x0 (1 : Int32)) &&& (6148914691236517205 : Int64))) (2 : Int32)) &&& (3689348814741910323 : Int64))) (4 : Int32))) &&& (1085102592571150095 : Int64)) + (jushr (((((x0 - ((jushr x0 (1 : Int32)) &&& (6148914691236517205 : Int64))) &&& (3689348814741910323 : Int64)) + ((jushr (x0 - ((jushr x0 (1 : Int32)) &&& (6148914691236517205 : Int64))) (2 : Int32)) &&& (3689348814741910323 : Int64))) + (jushr (((x0 - ((jushr x0 (1 : Int32)) &&& (6148914691236517205 : Int64))) &&& (3689348814741910323 : Int64)) + ((jushr (x0 - ((jushr x0 (1 : Int32)) &&& (6148914691236517205 : Int64))) (2 : Int32)) &&& (3689348814741910323 : Int64))) (4 : Int32))) &&& (1085102592571150095 : Int64)) (8 : Int32))) (16 : Int32))) (32 : Int32))).toInt32) &&& (127 : Int32)) hx hb hr (fun t ht hW => ⟨⟨(((((((((x0 - ((jushr x0 (1 : Int32)) &&& (6148914691236517205 : Int64))) &&& (3689348814741910323 : Int64)) + ((jushr (x0 - ((jushr x0 (1 : Int32)) &&& (6148914691236517205 : Int64))) (2 : Int32)) &&& (3689348814741910323 : Int64))) + (jushr (((x0 - ((jushr x0 (1 : Int32)) &&& (6148914691236517205 : Int64))) &&& (3689348814741910323 : Int64)) + ((jushr (x0 - ((jushr x0 (1 : Int32)) &&& (6148914691236517205 : Int64))) (2 : Int32)) &&& (3689348814741910323 : Int64))) (4 : Int32))) &&& (1085102592571150095 : Int64)) + (jushr (((((x0 - ((jushr x0 (1 : Int32)) &&& (6148914691236517205 : Int64))) &&& (3689348814741910323 : Int64)) + ((jushr (x0 - ((jushr x0 (1 : Int32)) &&& (6148914691236517205 : Int64))) (2 : Int32)) &&& (3689348814741910323 : Int64))) + (jushr (((x0 - ((jushr x0 (1 : Int32)) &&& (6148914691236517205 : Int64))) &&& (3689348814741910323 : Int64)) + ((jushr (x0 - ((jushr x0 (1 : Int32)) &&& (6148914691236517205 : Int64))) (2 : Int32)) &&& (3689348814741910323 : Int64))) (4 : Int32))) &&& (1085102592571150095 : Int64)) (8 : Int32))) + (jushr ((((((x0 - ((jushr x0 (1 : Int32)) &&& (6148914691236517205 : Int64))) &&& (3689348814741910323 : Int64)) + ((jushr (x0 - ((jushr x0 (1 : Int32)) &&& (6148914691236517205 : Int64))) (2 : Int32)) &&& (3689348814741910323 : Int64))) + (jushr (((x0 - ((jushr x0 (1 : Int32)) &&& (6148914691236517205 : Int64))) &&& (3689348814741910323 : Int64)) + ((jushr (x0 - ((jushr x0 (1 : Int32)) &&& (6148914691236517205 : Int64))) (2 : Int32)) &&& (3689348814741910323 : Int64))) (4 : Int32))) &&& (1085102592571150095 : Int64)) + (jushr (((((x0 - ((jushr x0 (1 : Int32)) &&& (6148914691236517205 : Int64))) &&& (3689348814741910323 : Int64)) + ((jushr (x0 - ((jushr x0 (1 : Int32)) &&& (6148914691236517205 : Int64))) (2 : Int32)) &&& (3689348814741910323 : Int64))) + (jushr (((x0 - ((jushr x0 (1 : Int32)) &&& (6148914691236517205 : Int64))) &&& (3689348814741910323 : Int64)) + ((jushr (x0 - ((jushr x0 (1 : Int32)) &&& (6148914691236517205 : Int64))) (2 : Int32)) &&& (3689348814741910323 : Int64))) (4 : Int32))) &&& (1085102592571150095 : Int64)) (8 : Int32))) (16 : Int32))) + (jushr (((((((x0 - ((jushr x0 (1 : Int32)) &&& (6148914691236517205 : Int64))) &&& (3689348814741910323 : Int64)) + ((jushr (x0 - ((jushr x0 (1 : Int32)) &&& (6148914691236517205 : Int64))) (2 : Int32)) &&& (3689348814741910323 : Int64))) + (jushr (((x0 - ((jushr x0 (1 : Int32)) &&& (6148914691236517205 : Int64))) &&& (3689348814741910323 : Int64)) + ((jushr (x0 - ((jushr x0 (1 : Int32)) &&& (6148914691236517205 : Int64))) (2 : Int32)) &&& (3689348814741910323 : Int64))) (4 : Int32))) &&& (1085102592571150095 : Int64)) + (jushr (((((x0 - ((jushr x0 (1 : Int32)) &&& (6148914691236517205 : Int64))) &&& (3689348814741910323 : Int64)) + ((jushr (x0 - ((jushr x0 (1 : Int32)) &&& (6148914691236517205 : Int64))) (2 : Int32)) &&& (3689348814741910323 : Int64))) + (jushr (((x0 - ((jushr x0 (1 : Int32)) &&& (6148914691236517205 : Int64))) &&& (3689348814741910323 : Int64)) + ((jushr (x0 - ((jushr x0 (1 : Int32)) &&& (6148914691236517205 : Int64))) (2 : Int32)) &&& (3689348814741910323 : Int64))) (4 : Int32))) &&& (1085102592571150095 : Int64)) (8 : Int32))) + (jushr ((((((x0 - ((jushr x0 (1 : Int32)) &&& (6148914691236517205 : Int64))) &&& (3689348814741910323 : Int64)) + ((jushr (x0 - ((jushr x0 (1 : Int32)) &&& (6148914691236517205 : Int64))) (2 : Int32)) &&& (3689348814741910323 : Int64))) + (jushr (((x0 - ((jushr x0 (1 : Int32)) &&& (6148914691236517205 : Int64))) &&& (3689348814741910323 : Int64)) + ((jushr (x0 - ((jushr x0 (1 : Int32)) &&& (6148914691236517205 : Int64))) (2 : Int32)) &&& (3689348814741910323 : Int64))) (4 : Int32))) &&& (1085102592571150095 : Int64)) + (jushr (((((x0 - ((jushr x0 (1 : Int32)) &&& (6148914691236517205 : Int64))) &&& (3689348814741910323 : Int64)) + ((jushr (x0 - ((jushr x0 (1 : Int32)) &&& (6148914691236517205 : Int64))) (2 : Int32)) &&& (3689348814741910323 : Int64))) + (jushr (((x0 - ((jushr x0 (1 : Int32)) &&& (6148914691236517205 : Int64))) &&& (3689348814741910323 : Int64)) + ((jushr (x0 - ((jushr x0 (1 : Int32)) &&& (6148914691236517205 : Int64))) (2 : Int32)) &&& (3689348814741910323 : Int64))) (4 : Int32))) &&& (1085102592571150095 : Int64)) (8 : Int32))) (16 : Int32))) (32 : Int32))).toInt32) &&& (127 : Int32), (), rfl, ⟨rfl, trivial⟩, by rw [ht]; exact hP, hD⟩, hS.F ht⟩) hS.2.2 dJ13_bitCount_95d88_60
theorem in_X1_leastSetAbove_X4 : ∀ w ∈ wsX40, w ∈ wsX1_leastSetAbove := by decide +kernel
theorem lk_0_X1_leastSetAbove : Cond.fieldLink RX1 19 "ParityClauses$Store" "clauseCount" "I" ∈ wsX1_leastSetAbove := by decide +kernel
theorem lk_1_X1_leastSetAbove : Cond.fieldLink RX1 32 "ParityClauses$Store" "yes" "[J" ∈ wsX1_leastSetAbove := by decide +kernel
theorem lk_2_X1_leastSetAbove : Cond.fieldLink RX1 35 "ParityClauses$Store" "no" "[J" ∈ wsX1_leastSetAbove := by decide +kernel
abbrev rm_X1_leastSetAbove : Room := { frames := 1, cells := 0, slots := 0, locals := 21 }
set_option maxHeartbeats 4000000 in
set_option maxRecDepth 100000 in
theorem cm_X1_leastSetAbove (l : Launch) (D : va_G) (cI cL : ClassId) (q0 q0_yes q0_no : Nat) (n0_yes n0_no : Nat) (f0_clauseCount : Int32) (h0_yes : Nat → Int64) (h0_no : Nat → Int64) (v0_equations v0_equationCount v0_equationsBefore v0_clausesBefore v0_levelCount : Value) (x1 : Int64) (r0 : Int64) (hr0 : D_X1_leastSetAbove f0_clauseCount n0_yes h0_yes n0_no h0_no x1 = some r0) (sz : Nat) : Met l yX1_leastSetAbove wsX1_leastSetAbove rm_X1_leastSetAbove (PcW D cI cL [.ref q0, .long x1] [(q0, .inr (4, [v0_equations, .ref q0_yes, .ref q0_no, v0_equationCount, .int f0_clauseCount, v0_equationsBefore, v0_clausesBefore, v0_levelCount])), (q0_yes, .inl (cL, n0_yes, .inr (.inl h0_yes))), (q0_no, .inl (cL, n0_no, .inr (.inl h0_no)))] sz) (QlW D [(q0, .inr (4, [v0_equations, .ref q0_yes, .ref q0_no, v0_equationCount, .int f0_clauseCount, v0_equationsBefore, v0_clausesBefore, v0_levelCount])), (q0_yes, .inl (cL, n0_yes, .inr (.inl h0_yes))), (q0_no, .inl (cL, n0_no, .inr (.inl h0_no)))] r0 (fun _ : Unit => [(q0, .inr (4, [v0_equations, .ref q0_yes, .ref q0_no, v0_equationCount, .int f0_clauseCount, v0_equationsBefore, v0_clausesBefore, v0_levelCount])), (q0_yes, .inl (cL, n0_yes, .inr (.inl h0_yes))), (q0_no, .inl (cL, n0_no, .inr (.inl h0_no)))]) tU sz) 0 0 (va_A [(q0, .inr (4, [v0_equations, .ref q0_yes, .ref q0_no, v0_equationCount, .int f0_clauseCount, v0_equationsBefore, v0_clausesBefore, v0_levelCount])), (q0_yes, .inl (cL, n0_yes, .inr (.inl h0_yes))), (q0_no, .inl (cL, n0_no, .inr (.inl h0_no)))] sz) := by
  refine Met.ofW (cc := cX1_leastSetAbove) (maxL := 9) (ret := (some .long)) (by decide) rfl ?_
  intro p e s m args below meth c s₁ B hml hv
  obtain ⟨hargs, hsz, hP, hEV, hD0⟩ := hv
  have hx := B.exec
  have hb := B.bytes
  have hr := B.returns
  have hts := atoms_spec (ws := wsX1_leastSetAbove) B.pre
  have hown : s.vm.findClass RX1 = some m.cls := findClass_of_methodNamed B.named
  have hlocks := B.notSynchronized
  have hK := hEV.K
  have lk_0 := hts _ lk_0_X1_leastSetAbove
  have lk_1 := hts _ lk_1_X1_leastSetAbove
  have lk_2 := hts _ lk_2_X1_leastSetAbove
  subst hsz
  unfold QlW PoW
  have hD := hD0.self (sz := s.heap.size)
  generalize hAe : va_A [(q0, .inr (4, [v0_equations, .ref q0_yes, .ref q0_no, v0_equationCount, .int f0_clauseCount, v0_equationsBefore, v0_clausesBefore, v0_levelCount])), (q0_yes, .inl (cL, n0_yes, .inr (.inl h0_yes))), (q0_no, .inl (cL, n0_no, .inr (.inl h0_no)))] s.heap.size = A at hD ⊢
  have hA : ∀ q : Nat, s.heap.size ≤ q → A q := fun q h => by rw [← hAe]; exact Or.inr h
  have hent : entryFrame m args 9 = entryFrame m ([.ref q0, .long x1] : List Value).toArray 9 := by rw [hargs]
  rw [hent]
  refine kx_Q (fun Q hQ => ?_)
  refine kx_H (fun H hH => ?_)
  have hP : va_P D vwCl [(q0, .inr (4, [v0_equations, .ref q0_yes, .ref q0_no, v0_equationCount, .int f0_clauseCount, v0_equationsBefore, v0_clausesBefore, v0_levelCount])), (q0_yes, .inl (cL, n0_yes, .inr (.inl h0_yes))), (q0_no, .inl (cL, n0_no, .inr (.inl h0_no)))] H := by rw [hH]; exact hP
  have hS : va_S A s.heap H [] := by rw [hH]; exact va_S.rf
  have hl := lv_entry ([.ref q0, .long x1]) (n := 9) (Nat.le_of_ble_eq_true rfl)
  rw [lg_entry_eq]
  generalize (lg_sl ([.ref q0, .long x1]) ++ List.replicate (9 - (lg_sl ([.ref q0, .long x1])).length) Slot.unset).toArray = ls at hl ⊢
  have hl : lv_has ls 9 [(0, .ref q0), (1, .long x1)] := hl
  have hloop : ∀ n9 : Nat, (∀ (x3 : Int64) (x5 : Int32), iter (st_X1_leastSetAbove f0_clauseCount n0_yes h0_yes n0_no h0_no x1) n9 (x3, x5) = some r0 → ∀ (H : Heap) (locs : List Loc) (ls : Array Slot), va_P D vwCl [(q0, .inr (4, [v0_equations, .ref q0_yes, .ref q0_no, v0_equationCount, .int f0_clauseCount, v0_equationsBefore, v0_clausesBefore, v0_levelCount])), (q0_yes, .inl (cL, n0_yes, .inr (.inl h0_yes))), (q0_no, .inl (cL, n0_no, .inr (.inl h0_no)))] H → va_D A [(q0, .inr (4, [v0_equations, .ref q0_yes, .ref q0_no, v0_equationCount, .int f0_clauseCount, v0_equationsBefore, v0_clausesBefore, v0_levelCount])), (q0_yes, .inl (cL, n0_yes, .inr (.inl h0_yes))), (q0_no, .inl (cL, n0_no, .inr (.inl h0_no)))] → va_S A s.heap H locs → lv_has ls 9 [(0, .ref q0), (1, .long x1), (3, .long x3), (5, .int x5)] → W p l e (headSpec wsX1_leastSetAbove rm_X1_leastSetAbove).room s m args below meth c H locs 0 0 Q (F0 m 5 ls [])) := by
    intro n9
    induction n9 with
    | zero => exact (fun _ _ h => nomatch h)
    | succ n9 ih =>
      intro x3 x5 h H locs ls hP hD hS hl
      have h : run1 (iter (st_X1_leastSetAbove f0_clauseCount n0_yes h0_yes n0_no h0_no x1) n9) (b_X1_leastSetAbove_5 f0_clauseCount n0_yes h0_yes n0_no h0_no x1 x3 x5) = some r0 := h
      unfold b_X1_leastSetAbove_5 at h
      refine lv_iload hx hb dX1_leastSetAbove_5 (lv_at hl 3 rfl) ?_
      refine lv_aload_n hx hb dX1_leastSetAbove_7 rfl (lv_at hl 0 rfl) ?_
      refine va_get (D := D) (ci := 4) (v := .int f0_clauseCount) (C := RX4) (T := TX4) (N := 8) hx hb hts in_X1_leastSetAbove_X4 hown hK hP 0 rfl rfl 4 (by decide) lk_0 (fun _ h9 => h9) rfl dX1_leastSetAbove_8 ?_
      refine lv_icmp_ge (tgt := 79) hx hb dX1_leastSetAbove_11 (by decide) (fun c_1 => ?_) (fun c_1 => ?_)
      · have k_2 : f0_clauseCount ≤ x5 := c_1
        have h := cw_t k_2 h
        refine lv_lload_n hx hb dX1_leastSetAbove_79 rfl (lv_at hl 2 rfl) ?_
        have h := Option.some.inj h
        subst h
        subst hQ
        exact W.lret (v := x3) hx hb hr (fun t ht hW => ⟨⟨x3, (), rfl, ⟨rfl, trivial⟩, by rw [ht]; exact hP, hD⟩, hS.F ht⟩) hS.2.2 dX1_leastSetAbove_80
      · have k_2 : ¬ (f0_clauseCount ≤ x5) := c_1
        have h := cw_f k_2 h
        refine lv_aload_n hx hb dX1_leastSetAbove_14 rfl (lv_at hl 0 rfl) ?_
        refine va_get (D := D) (ci := 4) (v := .ref q0_yes) (C := RX4) (T := TX4) (N := 8) hx hb hts in_X1_leastSetAbove_X4 hown hK hP 0 rfl rfl 1 (by decide) lk_1 (fun _ h9 => h9) rfl dX1_leastSetAbove_15 ?_
        refine lv_iload hx hb dX1_leastSetAbove_18 (lv_at hl 3 rfl) ?_
        obtain ⟨b_3, h⟩ := cw_i h
        refine va_lald hx hb hK hP 1 1 rfl rfl b_3 dX1_leastSetAbove_20 ?_
        refine lv_aload_n hx hb dX1_leastSetAbove_21 rfl (lv_at hl 0 rfl) ?_
        refine va_get (D := D) (ci := 4) (v := .ref q0_no) (C := RX4) (T := TX4) (N := 8) hx hb hts in_X1_leastSetAbove_X4 hown hK hP 0 rfl rfl 2 (by decide) lk_2 (fun _ h9 => h9) rfl dX1_leastSetAbove_22 ?_
        refine lv_iload hx hb dX1_leastSetAbove_25 (lv_at hl 3 rfl) ?_
        obtain ⟨b_4, h⟩ := cw_i h
        refine va_lald hx hb hK hP 2 1 rfl rfl b_4 dX1_leastSetAbove_27 ?_
        refine lv_lor hx hb dX1_leastSetAbove_28 ?_
        refine lv_lstore (lv' := [(6, .long ((h0_yes x5.toNatClampNeg) ||| (h0_no x5.toNatClampNeg))), (0, .ref q0), (1, .long x1), (3, .long x3), (5, .int x5)]) hx hb dX1_leastSetAbove_29 hl (by decide) rfl (fun ls hl => ?_)
        refine lv_lload hx hb dX1_leastSetAbove_31 (lv_at hl 0 rfl) ?_
        obtain ⟨u_5, hu_6, h⟩ := cw_b h
        refine kx_i (ws' := fun _ => [(q0, .inr (4, [v0_equations, .ref q0_yes, .ref q0_no, v0_equationCount, .int f0_clauseCount, v0_equationsBefore, v0_clausesBefore, v0_levelCount])), (q0_yes, .inl (cL, n0_yes, .inr (.inl h0_yes))), (q0_no, .inl (cL, n0_no, .inr (.inl h0_no)))]) hP hD hS hA [] [0, 1, 2] [0, 1, 2] rfl rfl (by decide) (by decide) (fun _ => rfl) (by decide) (va_runS (As := [.long ((h0_yes x5.toNatClampNeg) ||| (h0_no x5.toNatClampNeg))]) (rest := []) ⟨hx, hb, hml, hown, hts⟩ (cm_J13_bitCount_95d88 l D cI cL (x0 := (h0_yes x5.toNatClampNeg) ||| (h0_no x5.toNatClampNeg)) (r0 := u_5) (hr0 := hu_6) (sz := H.size)) (va_cwS 1 hts gX1_leastSetAbove_J13_bitCount_95d88 rfl rfl rfl (by decide +kernel) ⟨Nat.le_of_ble_eq_true rfl, Nat.le_of_ble_eq_true rfl⟩) (kx_preS hEV hP hD [] rfl (by decide)) rfl rfl hl.1 rfl (lv_room (Nat.le_of_ble_eq_true rfl)) dX1_leastSetAbove_33 ⟨Nat.le_of_ble_eq_true rfl, Nat.le_of_ble_eq_true rfl⟩) (fun _ H locs _ hP hD hS => ?_)
        refine lv_istore (lv' := [(8, .int u_5), (6, .long ((h0_yes x5.toNatClampNeg) ||| (h0_no x5.toNatClampNeg))), (0, .ref q0), (1, .long x1), (3, .long x3), (5, .int x5)]) hx hb dX1_leastSetAbove_36 hl (by decide) rfl (fun ls hl => ?_)
        refine lv_iload hx hb dX1_leastSetAbove_38 (lv_at hl 0 rfl) ?_
        refine lv_iconst (v := (2 : Int32)) hx hb dX1_leastSetAbove_40 (by decide) ?_
        refine lv_icmp_lt (tgt := 73) hx hb dX1_leastSetAbove_41 (by decide) (fun c_7 => ?_) (fun c_7 => ?_)
        · have k_8 : u_5 < (2 : Int32) := c_7
          have h := cw_t k_8 h
          refine lv_iinc (v := x5 + (1 : Int32)) (lv' := [(5, .int (x5 + (1 : Int32))), (8, .int u_5), (6, .long ((h0_yes x5.toNatClampNeg) ||| (h0_no x5.toNatClampNeg))), (0, .ref q0), (1, .long x1), (3, .long x3)]) hx hb dX1_leastSetAbove_73 hl (k := 5) rfl rfl (by decide) rfl (fun ls hl => ?_)
          refine lv_goto (tgt := 5) hx hb dX1_leastSetAbove_76 (by decide) ?_
          exact ih _ _ h _ _ _ hP hD hS (lv_sub hl [3, 4, 5, 0] rfl)
        · have k_8 : ¬ (u_5 < (2 : Int32)) := c_7
          have h := cw_f k_8 h
          refine lv_iload hx hb dX1_leastSetAbove_44 (lv_at hl 0 rfl) ?_
          refine lv_iconst (v := (4 : Int32)) hx hb dX1_leastSetAbove_46 (by decide) ?_
          refine lv_icmp_gt (tgt := 73) hx hb dX1_leastSetAbove_47 (by decide) (fun c_9 => ?_) (fun c_9 => ?_)
          · have k_10 : (4 : Int32) < u_5 := c_9
            have h := cw_t k_10 h
            refine lv_iinc (v := x5 + (1 : Int32)) (lv' := [(5, .int (x5 + (1 : Int32))), (8, .int u_5), (6, .long ((h0_yes x5.toNatClampNeg) ||| (h0_no x5.toNatClampNeg))), (0, .ref q0), (1, .long x1), (3, .long x3)]) hx hb dX1_leastSetAbove_73 hl (k := 5) rfl rfl (by decide) rfl (fun ls hl => ?_)
            refine lv_goto (tgt := 5) hx hb dX1_leastSetAbove_76 (by decide) ?_
            exact ih _ _ h _ _ _ hP hD hS (lv_sub hl [3, 4, 5, 0] rfl)
          · have k_10 : ¬ ((4 : Int32) < u_5) := c_9
            have h := cw_f k_10 h
            refine lv_lload hx hb dX1_leastSetAbove_50 (lv_at hl 1 rfl) ?_
            refine lv_lload_n hx hb dX1_leastSetAbove_52 rfl (lv_at hl 3 rfl) ?_
            refine W.lcmp hx hb dX1_leastSetAbove_53 ?_
            refine lv_if_le (tgt := 73) hx hb dX1_leastSetAbove_54 (by decide) (fun c_11 => ?_) (fun c_11 => ?_)
            · have k_12 : ((h0_yes x5.toNatClampNeg) ||| (h0_no x5.toNatClampNeg)) ≤ x1 := ((lg_cmp_le _ _).mp c_11)
              have h := cw_t k_12 h
              refine lv_iinc (v := x5 + (1 : Int32)) (lv' := [(5, .int (x5 + (1 : Int32))), (8, .int u_5), (6, .long ((h0_yes x5.toNatClampNeg) ||| (h0_no x5.toNatClampNeg))), (0, .ref q0), (1, .long x1), (3, .long x3)]) hx hb dX1_leastSetAbove_73 hl (k := 5) rfl rfl (by decide) rfl (fun ls hl => ?_)
              refine lv_goto (tgt := 5) hx hb dX1_leastSetAbove_76 (by decide) ?_
              exact ih _ _ h _ _ _ hP hD hS (lv_sub hl [3, 4, 5, 0] rfl)
            · have k_12 : ¬ (((h0_yes x5.toNatClampNeg) ||| (h0_no x5.toNatClampNeg)) ≤ x1) := (fun z9 => c_11 ((lg_cmp_le _ _).mpr z9))
              have h := cw_f k_12 h
              refine lv_lload_n hx hb dX1_leastSetAbove_57 rfl (lv_at hl 4 rfl) ?_
              refine lv_lconst (v := (0 : Int64)) hx hb dX1_leastSetAbove_58 (by decide) ?_
              refine W.lcmp hx hb dX1_leastSetAbove_59 ?_
              refine lv_if_eq (tgt := 70) hx hb dX1_leastSetAbove_60 (by decide) (fun c_13 => ?_) (fun c_13 => ?_)
              · have k_14 : x3 = (0 : Int64) := ((lg_cmp_eq _ _).mp c_13)
                have h := cw_t k_14 h
                refine lv_lload hx hb dX1_leastSetAbove_70 (lv_at hl 1 rfl) ?_
                refine lv_lstore_n (lv' := [(3, .long ((h0_yes x5.toNatClampNeg) ||| (h0_no x5.toNatClampNeg))), (8, .int u_5), (6, .long ((h0_yes x5.toNatClampNeg) ||| (h0_no x5.toNatClampNeg))), (0, .ref q0), (1, .long x1), (5, .int x5)]) hx hb dX1_leastSetAbove_72 rfl hl (by decide) rfl (fun ls hl => ?_)
                refine lv_iinc (v := x5 + (1 : Int32)) (lv' := [(5, .int (x5 + (1 : Int32))), (3, .long ((h0_yes x5.toNatClampNeg) ||| (h0_no x5.toNatClampNeg))), (8, .int u_5), (6, .long ((h0_yes x5.toNatClampNeg) ||| (h0_no x5.toNatClampNeg))), (0, .ref q0), (1, .long x1)]) hx hb dX1_leastSetAbove_73 hl (k := 5) rfl rfl (by decide) rfl (fun ls hl => ?_)
                refine lv_goto (tgt := 5) hx hb dX1_leastSetAbove_76 (by decide) ?_
                exact ih _ _ h _ _ _ hP hD hS (lv_sub hl [4, 5, 1, 0] rfl)
              · have k_14 : ¬ (x3 = (0 : Int64)) := (fun z9 => c_13 ((lg_cmp_eq _ _).mpr z9))
                have h := cw_f k_14 h
                refine lv_lload hx hb dX1_leastSetAbove_63 (lv_at hl 1 rfl) ?_
                refine lv_lload_n hx hb dX1_leastSetAbove_65 rfl (lv_at hl 4 rfl) ?_
                refine W.lcmp hx hb dX1_leastSetAbove_66 ?_
                refine lv_if_ge (tgt := 73) hx hb dX1_leastSetAbove_67 (by decide) (fun c_15 => ?_) (fun c_15 => ?_)
                · have k_16 : x3 ≤ ((h0_yes x5.toNatClampNeg) ||| (h0_no x5.toNatClampNeg)) := ((lg_cmp_ge _ _).mp c_15)
                  have h := cw_t k_16 h
                  refine lv_iinc (v := x5 + (1 : Int32)) (lv' := [(5, .int (x5 + (1 : Int32))), (8, .int u_5), (6, .long ((h0_yes x5.toNatClampNeg) ||| (h0_no x5.toNatClampNeg))), (0, .ref q0), (1, .long x1), (3, .long x3)]) hx hb dX1_leastSetAbove_73 hl (k := 5) rfl rfl (by decide) rfl (fun ls hl => ?_)
                  refine lv_goto (tgt := 5) hx hb dX1_leastSetAbove_76 (by decide) ?_
                  exact ih _ _ h _ _ _ hP hD hS (lv_sub hl [3, 4, 5, 0] rfl)
                · have k_16 : ¬ (x3 ≤ ((h0_yes x5.toNatClampNeg) ||| (h0_no x5.toNatClampNeg))) := (fun z9 => c_15 ((lg_cmp_ge _ _).mpr z9))
                  have h := cw_f k_16 h
                  refine lv_lload hx hb dX1_leastSetAbove_70 (lv_at hl 1 rfl) ?_
                  refine lv_lstore_n (lv' := [(3, .long ((h0_yes x5.toNatClampNeg) ||| (h0_no x5.toNatClampNeg))), (8, .int u_5), (6, .long ((h0_yes x5.toNatClampNeg) ||| (h0_no x5.toNatClampNeg))), (0, .ref q0), (1, .long x1), (5, .int x5)]) hx hb dX1_leastSetAbove_72 rfl hl (by decide) rfl (fun ls hl => ?_)
                  refine lv_iinc (v := x5 + (1 : Int32)) (lv' := [(5, .int (x5 + (1 : Int32))), (3, .long ((h0_yes x5.toNatClampNeg) ||| (h0_no x5.toNatClampNeg))), (8, .int u_5), (6, .long ((h0_yes x5.toNatClampNeg) ||| (h0_no x5.toNatClampNeg))), (0, .ref q0), (1, .long x1)]) hx hb dX1_leastSetAbove_73 hl (k := 5) rfl rfl (by decide) rfl (fun ls hl => ?_)
                  refine lv_goto (tgt := 5) hx hb dX1_leastSetAbove_76 (by decide) ?_
                  exact ih _ _ h _ _ _ hP hD hS (lv_sub hl [4, 5, 1, 0] rfl)
  have h := hr0
  unfold D_X1_leastSetAbove at h
  refine lv_lconst (v := (0 : Int64)) hx hb dX1_leastSetAbove_0 (by decide) ?_
  refine lv_lstore_n (lv' := [(3, .long (0 : Int64)), (0, .ref q0), (1, .long x1)]) hx hb dX1_leastSetAbove_1 rfl hl (by decide) rfl (fun ls hl => ?_)
  refine lv_iconst (v := (0 : Int32)) hx hb dX1_leastSetAbove_2 (by decide) ?_
  refine lv_istore (lv' := [(5, .int (0 : Int32)), (3, .long (0 : Int64)), (0, .ref q0), (1, .long x1)]) hx hb dX1_leastSetAbove_3 hl (by decide) rfl (fun ls hl => ?_)
  obtain ⟨n9, hn9⟩ := runw_some h
  exact (hloop n9) _ _ hn9 _ _ _ hP hD hS (lv_sub hl [2, 3, 1, 0] rfl)
abbrev rm_X1_pressed : Room := { frames := 0, cells := 0, slots := 0, locals := 0 }
set_option maxHeartbeats 4000000 in
set_option maxRecDepth 100000 in
theorem cm_X1_pressed (l : Launch) (D : va_G) (cI cL : ClassId) (x0 : Int64) (x2 : Int64) (r0 : Int32) (hr0 : D_X1_pressed x0 x2 = some r0) (sz : Nat) : Met l yX1_pressed wsX1_pressed rm_X1_pressed (PcW D cI cL [.long x0, .long x2] [] sz) (QiW D [] r0 (fun _ : Unit => []) tU sz) 0 0 (va_A [] sz) := by
  refine Met.ofW (cc := cX1_pressed) (maxL := 10) (ret := (some .int)) (by decide) rfl ?_
  intro p e s m args below meth c s₁ B hml hv
  obtain ⟨hargs, hsz, hP, hEV, hD0⟩ := hv
  have hx := B.exec
  have hb := B.bytes
  have hr := B.returns
  have hts := atoms_spec (ws := wsX1_pressed) B.pre
  have hown : s.vm.findClass RX1 = some m.cls := findClass_of_methodNamed B.named
  have hlocks := B.notSynchronized
  have hK := hEV.K
  subst hsz
  unfold QiW PoW
  have hD := hD0.self (sz := s.heap.size)
  generalize hAe : va_A [] s.heap.size = A at hD ⊢
  have hA : ∀ q : Nat, s.heap.size ≤ q → A q := fun q h => by rw [← hAe]; exact Or.inr h
  have hent : entryFrame m args 10 = entryFrame m ([.long x0, .long x2] : List Value).toArray 10 := by rw [hargs]
  rw [hent]
  refine kx_Q (fun Q hQ => ?_)
  refine kx_H (fun H hH => ?_)
  have hP : va_P D vwCl [] H := by rw [hH]; exact hP
  have hS : va_S A s.heap H [] := by rw [hH]; exact va_S.rf
  have hl := lv_entry ([.long x0, .long x2]) (n := 10) (Nat.le_of_ble_eq_true rfl)
  rw [lg_entry_eq]
  generalize (lg_sl ([.long x0, .long x2]) ++ List.replicate (10 - (lg_sl ([.long x0, .long x2])).length) Slot.unset).toArray = ls at hl ⊢
  have hl : lv_has ls 10 [(0, .long x0), (2, .long x2)] := hl
  have hloop : ∀ n9 : Nat, (∀ (x4 : Int32) (x5 : Int64) (x7 : Int32), iter (st_X1_pressed x0 x2) n9 (x4, x5, x7) = some r0 → ∀ (H : Heap) (locs : List Loc) (ls : Array Slot), va_P D vwCl [] H → va_D A [] → va_S A s.heap H locs → lv_has ls 10 [(0, .long x0), (4, .int x4), (5, .long x5), (7, .int x7)] → W p l e (headSpec wsX1_pressed rm_X1_pressed).room s m args below meth c H locs 0 0 Q (F0 m 9 ls [])) := by
    intro n9
    induction n9 with
    | zero => exact (fun _ _ _ h => nomatch h)
    | succ n9 ih =>
      intro x4 x5 x7 h H locs ls hP hD hS hl
      have h : run1 (iter (st_X1_pressed x0 x2) n9) (b_X1_pressed_9 x0 x2 x4 x5 x7) = some r0 := h
      unfold b_X1_pressed_9 at h
      refine lv_iload hx hb dX1_pressed_9 (lv_at hl 3 rfl) ?_
      refine lv_iconst (v := (4 : Int32)) hx hb dX1_pressed_11 (by decide) ?_
      refine lv_icmp_ge (tgt := 54) hx hb dX1_pressed_12 (by decide) (fun c_1 => ?_) (fun c_1 => ?_)
      · have k_2 : (4 : Int32) ≤ x7 := c_1
        have h := cw_t k_2 h
        refine lv_iload hx hb dX1_pressed_54 (lv_at hl 1 rfl) ?_
        have h := Option.some.inj h
        subst h
        subst hQ
        exact W.iret (v := x4) hx hb hr (fun t ht hW => ⟨⟨x4, (), rfl, ⟨rfl, trivial⟩, by rw [ht]; exact hP, hD⟩, hS.F ht⟩) hS.2.2 dX1_pressed_56
      · have k_2 : ¬ ((4 : Int32) ≤ x7) := c_1
        have h := cw_f k_2 h
        refine lv_lload hx hb dX1_pressed_15 (lv_at hl 2 rfl) ?_
        refine lv_lload hx hb dX1_pressed_17 (lv_at hl 2 rfl) ?_
        refine lv_lneg hx hb dX1_pressed_19 ?_
        refine lv_land hx hb dX1_pressed_20 ?_
        refine lv_lstore (lv' := [(8, .long (x5 &&& (-x5))), (0, .long x0), (4, .int x4), (5, .long x5), (7, .int x7)]) hx hb dX1_pressed_21 hl (by decide) rfl (fun ls hl => ?_)
        refine lv_lload_n hx hb dX1_pressed_23 rfl (lv_at hl 1 rfl) ?_
        refine lv_lload hx hb dX1_pressed_24 (lv_at hl 0 rfl) ?_
        refine lv_land hx hb dX1_pressed_26 ?_
        refine lv_lconst (v := (0 : Int64)) hx hb dX1_pressed_27 (by decide) ?_
        refine W.lcmp hx hb dX1_pressed_28 ?_
        refine lv_if_eq (tgt := 41) hx hb dX1_pressed_29 (by decide) (fun c_3 => ?_) (fun c_3 => ?_)
        · have k_4 : (x0 &&& (x5 &&& (-x5))) = (0 : Int64) := ((lg_cmp_eq _ _).mp c_3)
          have h := cw_t k_4 h
          refine lv_lload hx hb dX1_pressed_41 (lv_at hl 3 rfl) ?_
          refine lv_lload hx hb dX1_pressed_43 (lv_at hl 0 rfl) ?_
          refine lv_lxor hx hb dX1_pressed_45 ?_
          refine lv_lstore (lv' := [(5, .long (x5 ^^^ (x5 &&& (-x5)))), (8, .long (x5 &&& (-x5))), (0, .long x0), (4, .int x4), (7, .int x7)]) hx hb dX1_pressed_46 hl (by decide) rfl (fun ls hl => ?_)
          refine lv_iinc (v := x7 + (1 : Int32)) (lv' := [(7, .int (x7 + (1 : Int32))), (5, .long (x5 ^^^ (x5 &&& (-x5)))), (8, .long (x5 &&& (-x5))), (0, .long x0), (4, .int x4)]) hx hb dX1_pressed_48 hl (k := 4) rfl rfl (by decide) rfl (fun ls hl => ?_)
          refine lv_goto (tgt := 9) hx hb dX1_pressed_51 (by decide) ?_
          exact ih _ _ _ h _ _ _ hP hD hS (lv_sub hl [3, 4, 1, 0] rfl)
        · have k_4 : ¬ ((x0 &&& (x5 &&& (-x5))) = (0 : Int64)) := (fun z9 => c_3 ((lg_cmp_eq _ _).mpr z9))
          have h := cw_f k_4 h
          refine lv_iload hx hb dX1_pressed_32 (lv_at hl 2 rfl) ?_
          refine lv_iconst (v := (1 : Int32)) hx hb dX1_pressed_34 (by decide) ?_
          refine lv_iload hx hb dX1_pressed_35 (lv_at hl 4 rfl) ?_
          refine lv_ishl hx hb dX1_pressed_37 ?_
          refine lv_ior hx hb dX1_pressed_38 ?_
          refine lv_istore (lv' := [(4, .int (x4 ||| ((1 : Int32) <<< (x7 &&& 31)))), (8, .long (x5 &&& (-x5))), (0, .long x0), (5, .long x5), (7, .int x7)]) hx hb dX1_pressed_39 hl (by decide) rfl (fun ls hl => ?_)
          refine lv_lload hx hb dX1_pressed_41 (lv_at hl 3 rfl) ?_
          refine lv_lload hx hb dX1_pressed_43 (lv_at hl 1 rfl) ?_
          refine lv_lxor hx hb dX1_pressed_45 ?_
          refine lv_lstore (lv' := [(5, .long (x5 ^^^ (x5 &&& (-x5)))), (4, .int (x4 ||| ((1 : Int32) <<< (x7 &&& 31)))), (8, .long (x5 &&& (-x5))), (0, .long x0), (7, .int x7)]) hx hb dX1_pressed_46 hl (by decide) rfl (fun ls hl => ?_)
          refine lv_iinc (v := x7 + (1 : Int32)) (lv' := [(7, .int (x7 + (1 : Int32))), (5, .long (x5 ^^^ (x5 &&& (-x5)))), (4, .int (x4 ||| ((1 : Int32) <<< (x7 &&& 31)))), (8, .long (x5 &&& (-x5))), (0, .long x0)]) hx hb dX1_pressed_48 hl (k := 4) rfl rfl (by decide) rfl (fun ls hl => ?_)
          refine lv_goto (tgt := 9) hx hb dX1_pressed_51 (by decide) ?_
          exact ih _ _ _ h _ _ _ hP hD hS (lv_sub hl [4, 2, 1, 0] rfl)
  have h := hr0
  unfold D_X1_pressed at h
  refine lv_iconst (v := (0 : Int32)) hx hb dX1_pressed_0 (by decide) ?_
  refine lv_istore (lv' := [(4, .int (0 : Int32)), (0, .long x0), (2, .long x2)]) hx hb dX1_pressed_1 hl (by decide) rfl (fun ls hl => ?_)
  refine lv_lload_n hx hb dX1_pressed_3 rfl (lv_at hl 2 rfl) ?_
  refine lv_lstore (lv' := [(5, .long x2), (4, .int (0 : Int32)), (0, .long x0), (2, .long x2)]) hx hb dX1_pressed_4 hl (by decide) rfl (fun ls hl => ?_)
  refine lv_iconst (v := (0 : Int32)) hx hb dX1_pressed_6 (by decide) ?_
  refine lv_istore (lv' := [(7, .int (0 : Int32)), (5, .long x2), (4, .int (0 : Int32)), (0, .long x0), (2, .long x2)]) hx hb dX1_pressed_7 hl (by decide) rfl (fun ls hl => ?_)
  obtain ⟨n9, hn9⟩ := runw_some h
  exact (hloop n9) _ _ _ hn9 _ _ _ hP hD hS (lv_sub hl [3, 2, 1, 0] rfl)
theorem in_X1_add_X1 : ∀ w ∈ wsX10, w ∈ wsX1_add := by decide +kernel
theorem lk_0_X1_add : Cond.fieldLink RX1 15 "ParityClauses$GateList" "size" "I" ∈ wsX1_add := by decide +kernel
theorem lk_1_X1_add : Cond.fieldLink RX1 9 "ParityClauses$GateList" "found" "[J" ∈ wsX1_add := by decide +kernel
abbrev rm_X1_add : Room := { frames := 0, cells := 0, slots := 0, locals := 0 }
set_option maxHeartbeats 4000000 in
set_option maxRecDepth 100000 in
theorem cm_X1_add (l : Launch) (D : va_G) (cI cL : ClassId) (q0 q0_found : Nat) (n0_found : Nat) (f0_size : Int32) (h0_found : Nat → Int64) (x1 : Int64) (r0 : Int32 × (Nat → Int64)) (hr0 : D_X1_add f0_size n0_found h0_found x1 = some r0) (sz : Nat) : Met l yX1_add wsX1_add rm_X1_add (PcW D cI cL [.ref q0, .long x1] [(q0, .inr (1, [.ref q0_found, .int f0_size])), (q0_found, .inl (cL, n0_found, .inr (.inl h0_found)))] sz) (QvW D [(q0, .inr (1, [.ref q0_found, .int f0_size])), (q0_found, .inl (cL, n0_found, .inr (.inl h0_found)))] (fun _ : Unit => [(q0, .inr (1, [.ref q0_found, .int r0.1])), (q0_found, .inl (cL, n0_found, .inr (.inl r0.2)))]) tU sz) 0 0 (va_A [(q0, .inr (1, [.ref q0_found, .int f0_size])), (q0_found, .inl (cL, n0_found, .inr (.inl h0_found)))] sz) := by
  refine Met.ofW (cc := cX1_add) (maxL := 3) (ret := none) (by decide) rfl ?_
  intro p e s m args below meth c s₁ B hml hv
  obtain ⟨hargs, hsz, hP, hEV, hD0⟩ := hv
  have hx := B.exec
  have hb := B.bytes
  have hr := B.returns
  have hts := atoms_spec (ws := wsX1_add) B.pre
  have hown : s.vm.findClass RX1 = some m.cls := findClass_of_methodNamed B.named
  have hlocks := B.notSynchronized
  have hK := hEV.K
  have lk_0 := hts _ lk_0_X1_add
  have lk_1 := hts _ lk_1_X1_add
  subst hsz
  unfold QvW PoW
  have hD := hD0.self (sz := s.heap.size)
  generalize hAe : va_A [(q0, .inr (1, [.ref q0_found, .int f0_size])), (q0_found, .inl (cL, n0_found, .inr (.inl h0_found)))] s.heap.size = A at hD ⊢
  have hA : ∀ q : Nat, s.heap.size ≤ q → A q := fun q h => by rw [← hAe]; exact Or.inr h
  have hent : entryFrame m args 3 = entryFrame m ([.ref q0, .long x1] : List Value).toArray 3 := by rw [hargs]
  rw [hent]
  refine kx_Q (fun Q hQ => ?_)
  refine kx_H (fun H hH => ?_)
  have hP : va_P D vwCl [(q0, .inr (1, [.ref q0_found, .int f0_size])), (q0_found, .inl (cL, n0_found, .inr (.inl h0_found)))] H := by rw [hH]; exact hP
  have hS : va_S A s.heap H [] := by rw [hH]; exact va_S.rf
  have hl := lv_entry ([.ref q0, .long x1]) (n := 3) (Nat.le_of_ble_eq_true rfl)
  rw [lg_entry_eq]
  generalize (lg_sl ([.ref q0, .long x1]) ++ List.replicate (3 - (lg_sl ([.ref q0, .long x1])).length) Slot.unset).toArray = ls at hl ⊢
  have hl : lv_has ls 3 [(0, .ref q0), (1, .long x1)] := hl
  have h := hr0
  unfold D_X1_add at h
  refine lv_aload_n hx hb dX1_add_0 rfl (lv_at hl 0 rfl) ?_
  refine va_get (D := D) (ci := 1) (v := .int f0_size) (C := RX1) (T := TX1) (N := 2) hx hb hts in_X1_add_X1 hown hK hP 0 rfl rfl 1 (by decide) lk_0 (fun _ h9 => h9) rfl dX1_add_1 ?_
  refine lv_bipush (v := (60 : Int32)) hx hb dX1_add_4 (by decide) ?_
  refine lv_icmp_ge (tgt := 29) hx hb dX1_add_6 (by decide) (fun c_1 => ?_) (fun c_1 => ?_)
  · have k_2 : (60 : Int32) ≤ f0_size := c_1
    have h := co_t k_2 h
    have h := Option.some.inj h
    subst h
    subst hQ
    exact W.vret hx hb hr (fun t ht hW => ⟨⟨(), rfl, trivial, by rw [ht]; exact hP, hD⟩, hS.F ht⟩) hS.2.2 dX1_add_29
  · have k_2 : ¬ ((60 : Int32) ≤ f0_size) := c_1
    have h := co_f k_2 h
    refine lv_aload_n hx hb dX1_add_9 rfl (lv_at hl 0 rfl) ?_
    refine va_get (D := D) (ci := 1) (v := .ref q0_found) (C := RX1) (T := TX1) (N := 2) hx hb hts in_X1_add_X1 hown hK hP 0 rfl rfl 0 (by decide) lk_1 (fun _ h9 => h9) rfl dX1_add_10 ?_
    refine lv_aload_n hx hb dX1_add_13 rfl (lv_at hl 0 rfl) ?_
    refine va_get (D := D) (ci := 1) (v := .int f0_size) (C := RX1) (T := TX1) (N := 2) hx hb hts in_X1_add_X1 hown hK hP 0 rfl rfl 1 (by decide) lk_0 (fun _ h9 => h9) rfl dX1_add_14 ?_
    refine lv_lload_n hx hb dX1_add_17 rfl (lv_at hl 1 rfl) ?_
    obtain ⟨b_3, h⟩ := co_i h
    refine va_last hx hb hK hP hD hS 1 1 rfl rfl b_3 dX1_add_18 (fun H locs hP hD hS => ?_)
    have hP : va_P D vwCl [(q0, .inr (1, [.ref q0_found, .int f0_size])), (q0_found, .inl (cL, n0_found, .inr (.inl (vp_updL h0_found f0_size.toNatClampNeg x1))))] H := hP
    have hD : va_D A [(q0, .inr (1, [.ref q0_found, .int f0_size])), (q0_found, .inl (cL, n0_found, .inr (.inl (vp_updL h0_found f0_size.toNatClampNeg x1))))] := hD
    refine lv_aload_n hx hb dX1_add_19 rfl (lv_at hl 0 rfl) ?_
    refine lv_dup hx hb dX1_add_20 rfl ?_
    refine va_get (D := D) (ci := 1) (v := .int f0_size) (C := RX1) (T := TX1) (N := 2) hx hb hts in_X1_add_X1 hown hK hP 0 rfl rfl 1 (by decide) lk_0 (fun _ h9 => h9) rfl dX1_add_21 ?_
    refine lv_iconst (v := (1 : Int32)) hx hb dX1_add_24 (by decide) ?_
    refine lv_iadd hx hb dX1_add_25 ?_
    refine va_put (D := D) (ci := 1) (v := .int (f0_size + (1 : Int32))) (ty := .int) (C := RX1) (T := TX1) (N := 2) hx hb hts in_X1_add_X1 tyX1 tyX1_ok nmX1 hown hK hP hD hS 0 rfl rfl 1 (by decide) lk_0 (fun _ h9 => h9) rfl (by decide +kernel) rfl rfl (Nat.le_of_ble_eq_true rfl) dX1_add_26 (fun H locs hP hD hS => ?_)
    have hP : va_P D vwCl [(q0, .inr (1, [.ref q0_found, .int (f0_size + (1 : Int32))])), (q0_found, .inl (cL, n0_found, .inr (.inl (vp_updL h0_found f0_size.toNatClampNeg x1))))] H := hP
    have hD : va_D A [(q0, .inr (1, [.ref q0_found, .int (f0_size + (1 : Int32))])), (q0_found, .inl (cL, n0_found, .inr (.inl (vp_updL h0_found f0_size.toNatClampNeg x1))))] := hD
    have h := Option.some.inj h
    subst h
    subst hQ
    exact W.vret hx hb hr (fun t ht hW => ⟨⟨(), rfl, trivial, by rw [ht]; exact hP, hD⟩, hS.F ht⟩) hS.2.2 dX1_add_29
theorem in_X1_addGatesOf_X4 : ∀ w ∈ wsX40, w ∈ wsX1_addGatesOf := by decide +kernel
theorem lk_0_X1_addGatesOf : Cond.fieldLink RX1 19 "ParityClauses$Store" "clauseCount" "I" ∈ wsX1_addGatesOf := by decide +kernel
theorem lk_1_X1_addGatesOf : Cond.constant RX1 48 (-38506) ∈ wsX1_addGatesOf := by decide +kernel
theorem lk_2_X1_addGatesOf : Cond.constant RX1 53 (38505) ∈ wsX1_addGatesOf := by decide +kernel
theorem lk_3_X1_addGatesOf : Cond.constantLong RX1 54 (4611686018427387904) ∈ wsX1_addGatesOf := by decide +kernel
theorem lk_4_X1_addGatesOf : Cond.fieldLink RX1 32 "ParityClauses$Store" "yes" "[J" ∈ wsX1_addGatesOf := by decide +kernel
theorem lk_5_X1_addGatesOf : Cond.fieldLink RX1 35 "ParityClauses$Store" "no" "[J" ∈ wsX1_addGatesOf := by decide +kernel
abbrev rm_X1_addGatesOf : Room := { frames := 1, cells := 0, slots := 0, locals := 29 }
set_option maxHeartbeats 4000000 in
set_option maxRecDepth 100000 in
theorem cm_X1_addGatesOf (l : Launch) (D : va_G) (cI cL : ClassId) (q0 q0_found q1 q1_yes q1_no : Nat) (n0_found n1_yes n1_no : Nat) (f0_size : Int32) (h0_found : Nat → Int64) (f1_clauseCount : Int32) (h1_yes : Nat → Int64) (h1_no : Nat → Int64) (v1_equations v1_equationCount v1_equationsBefore v1_clausesBefore v1_levelCount : Value) (x2 : Int64) (r0 : Int32 × (Nat → Int64)) (hr0 : D_X1_addGatesOf f0_size n0_found h0_found f1_clauseCount n1_yes h1_yes n1_no h1_no x2 = some r0) (sz : Nat) : Met l yX1_addGatesOf wsX1_addGatesOf rm_X1_addGatesOf (PcW D cI cL [.ref q0, .ref q1, .long x2] [(q0, .inr (1, [.ref q0_found, .int f0_size])), (q0_found, .inl (cL, n0_found, .inr (.inl h0_found))), (q1, .inr (4, [v1_equations, .ref q1_yes, .ref q1_no, v1_equationCount, .int f1_clauseCount, v1_equationsBefore, v1_clausesBefore, v1_levelCount])), (q1_yes, .inl (cL, n1_yes, .inr (.inl h1_yes))), (q1_no, .inl (cL, n1_no, .inr (.inl h1_no)))] sz) (QvW D [(q0, .inr (1, [.ref q0_found, .int f0_size])), (q0_found, .inl (cL, n0_found, .inr (.inl h0_found))), (q1, .inr (4, [v1_equations, .ref q1_yes, .ref q1_no, v1_equationCount, .int f1_clauseCount, v1_equationsBefore, v1_clausesBefore, v1_levelCount])), (q1_yes, .inl (cL, n1_yes, .inr (.inl h1_yes))), (q1_no, .inl (cL, n1_no, .inr (.inl h1_no)))] (fun _ : Unit => [(q0, .inr (1, [.ref q0_found, .int r0.1])), (q0_found, .inl (cL, n0_found, .inr (.inl r0.2))), (q1, .inr (4, [v1_equations, .ref q1_yes, .ref q1_no, v1_equationCount, .int f1_clauseCount, v1_equationsBefore, v1_clausesBefore, v1_levelCount])), (q1_yes, .inl (cL, n1_yes, .inr (.inl h1_yes))), (q1_no, .inl (cL, n1_no, .inr (.inl h1_no)))]) tU sz) 0 0 (va_A [(q0, .inr (1, [.ref q0_found, .int f0_size])), (q0_found, .inl (cL, n0_found, .inr (.inl h0_found))), (q1, .inr (4, [v1_equations, .ref q1_yes, .ref q1_no, v1_equationCount, .int f1_clauseCount, v1_equationsBefore, v1_clausesBefore, v1_levelCount])), (q1_yes, .inl (cL, n1_yes, .inr (.inl h1_yes))), (q1_no, .inl (cL, n1_no, .inr (.inl h1_no)))] sz) := by
  refine Met.ofW (cc := cX1_addGatesOf) (maxL := 6) (ret := none) (by decide) rfl ?_
  intro p e s m args below meth c s₁ B hml hv
  obtain ⟨hargs, hsz, hP, hEV, hD0⟩ := hv
  have hx := B.exec
  have hb := B.bytes
  have hr := B.returns
  have hts := atoms_spec (ws := wsX1_addGatesOf) B.pre
  have hown : s.vm.findClass RX1 = some m.cls := findClass_of_methodNamed B.named
  have hlocks := B.notSynchronized
  have hK := hEV.K
  have lk_0 := hts _ lk_0_X1_addGatesOf
  have lk_1 := hts _ lk_1_X1_addGatesOf
  have lk_2 := hts _ lk_2_X1_addGatesOf
  have lk_3 := hts _ lk_3_X1_addGatesOf
  have lk_4 := hts _ lk_4_X1_addGatesOf
  have lk_5 := hts _ lk_5_X1_addGatesOf
  subst hsz
  unfold QvW PoW
  have hD := hD0.self (sz := s.heap.size)
  generalize hAe : va_A [(q0, .inr (1, [.ref q0_found, .int f0_size])), (q0_found, .inl (cL, n0_found, .inr (.inl h0_found))), (q1, .inr (4, [v1_equations, .ref q1_yes, .ref q1_no, v1_equationCount, .int f1_clauseCount, v1_equationsBefore, v1_clausesBefore, v1_levelCount])), (q1_yes, .inl (cL, n1_yes, .inr (.inl h1_yes))), (q1_no, .inl (cL, n1_no, .inr (.inl h1_no)))] s.heap.size = A at hD ⊢
  have hA : ∀ q : Nat, s.heap.size ≤ q → A q := fun q h => by rw [← hAe]; exact Or.inr h
  have hent : entryFrame m args 6 = entryFrame m ([.ref q0, .ref q1, .long x2] : List Value).toArray 6 := by rw [hargs]
  rw [hent]
  refine kx_Q (fun Q hQ => ?_)
  refine kx_H (fun H hH => ?_)
  have hP : va_P D vwCl [(q0, .inr (1, [.ref q0_found, .int f0_size])), (q0_found, .inl (cL, n0_found, .inr (.inl h0_found))), (q1, .inr (4, [v1_equations, .ref q1_yes, .ref q1_no, v1_equationCount, .int f1_clauseCount, v1_equationsBefore, v1_clausesBefore, v1_levelCount])), (q1_yes, .inl (cL, n1_yes, .inr (.inl h1_yes))), (q1_no, .inl (cL, n1_no, .inr (.inl h1_no)))] H := by rw [hH]; exact hP
  have hS : va_S A s.heap H [] := by rw [hH]; exact va_S.rf
  have hl := lv_entry ([.ref q0, .ref q1, .long x2]) (n := 6) (Nat.le_of_ble_eq_true rfl)
  rw [lg_entry_eq]
  generalize (lg_sl ([.ref q0, .ref q1, .long x2]) ++ List.replicate (6 - (lg_sl ([.ref q0, .ref q1, .long x2])).length) Slot.unset).toArray = ls at hl ⊢
  have hl : lv_has ls 6 [(0, .ref q0), (1, .ref q1), (2, .long x2)] := hl
  have hloop : ∀ n9 : Nat, (∀ (x4 : Int32) (x5 : Int32) (f0_size : Int32) (h0_found : Nat → Int64), iter (st_X1_addGatesOf n0_found f1_clauseCount n1_yes h1_yes n1_no h1_no x2) n9 (x4, x5, f0_size, h0_found) = some r0 → ∀ (H : Heap) (locs : List Loc) (ls : Array Slot), va_P D vwCl [(q0, .inr (1, [.ref q0_found, .int f0_size])), (q0_found, .inl (cL, n0_found, .inr (.inl h0_found))), (q1, .inr (4, [v1_equations, .ref q1_yes, .ref q1_no, v1_equationCount, .int f1_clauseCount, v1_equationsBefore, v1_clausesBefore, v1_levelCount])), (q1_yes, .inl (cL, n1_yes, .inr (.inl h1_yes))), (q1_no, .inl (cL, n1_no, .inr (.inl h1_no)))] H → va_D A [(q0, .inr (1, [.ref q0_found, .int f0_size])), (q0_found, .inl (cL, n0_found, .inr (.inl h0_found))), (q1, .inr (4, [v1_equations, .ref q1_yes, .ref q1_no, v1_equationCount, .int f1_clauseCount, v1_equationsBefore, v1_clausesBefore, v1_levelCount])), (q1_yes, .inl (cL, n1_yes, .inr (.inl h1_yes))), (q1_no, .inl (cL, n1_no, .inr (.inl h1_no)))] → va_S A s.heap H locs → lv_has ls 6 [(0, .ref q0), (1, .ref q1), (2, .long x2), (4, .int x4), (5, .int x5)] → W p l e (headSpec wsX1_addGatesOf rm_X1_addGatesOf).room s m args below meth c H locs 0 0 Q (F0 m 6 ls [])) := by
    intro n9
    induction n9 with
    | zero => exact (fun _ _ _ _ h => nomatch h)
    | succ n9 ih =>
      intro x4 x5 f0_size h0_found h H locs ls hP hD hS hl
      have h : run1 (iter (st_X1_addGatesOf n0_found f1_clauseCount n1_yes h1_yes n1_no h1_no x2) n9) (b_X1_addGatesOf_6 n0_found f1_clauseCount n1_yes h1_yes n1_no h1_no x2 x4 x5 f0_size h0_found) = some r0 := h
      unfold b_X1_addGatesOf_6 at h
      refine lv_iload hx hb dX1_addGatesOf_6 (lv_at hl 4 rfl) ?_
      refine lv_aload_n hx hb dX1_addGatesOf_8 rfl (lv_at hl 1 rfl) ?_
      refine va_get (D := D) (ci := 4) (v := .int f1_clauseCount) (C := RX4) (T := TX4) (N := 8) hx hb hts in_X1_addGatesOf_X4 hown hK hP 2 rfl rfl 4 (by decide) lk_0 (fun _ h9 => h9) rfl dX1_addGatesOf_9 ?_
      refine lv_icmp_ge (tgt := 59) hx hb dX1_addGatesOf_12 (by decide) (fun c_1 => ?_) (fun c_1 => ?_)
      · have k_2 : f1_clauseCount ≤ x5 := c_1
        have h := cw_t k_2 h
        refine lv_iconst (v := (1 : Int32)) hx hb dX1_addGatesOf_59 (by decide) ?_
        refine lv_iconst (v := (1 : Int32)) hx hb dX1_addGatesOf_60 (by decide) ?_
        refine lv_lload_n hx hb dX1_addGatesOf_61 rfl (lv_at hl 2 rfl) ?_
        obtain ⟨u_3, hu_4, h⟩ := cw_b h
        refine kx_i (ws' := fun _ => [(q0, .inr (1, [.ref q0_found, .int f0_size])), (q0_found, .inl (cL, n0_found, .inr (.inl h0_found))), (q1, .inr (4, [v1_equations, .ref q1_yes, .ref q1_no, v1_equationCount, .int f1_clauseCount, v1_equationsBefore, v1_clausesBefore, v1_levelCount])), (q1_yes, .inl (cL, n1_yes, .inr (.inl h1_yes))), (q1_no, .inl (cL, n1_no, .inr (.inl h1_no)))]) hP hD hS hA [] [0, 1, 2, 3, 4] [0, 1, 2, 3, 4] rfl rfl (by decide) (by decide) (fun _ => rfl) (by decide) (va_runS (As := [.long x2]) (rest := [.int (1 : Int32), .int (1 : Int32)]) ⟨hx, hb, hml, hown, hts⟩ (cm_J13_bitCount_95d88 l D cI cL (x0 := x2) (r0 := u_3) (hr0 := hu_4) (sz := H.size)) (va_cwS 1 hts gX1_addGatesOf_J13_bitCount_95d88 rfl rfl rfl (by decide +kernel) ⟨Nat.le_of_ble_eq_true rfl, Nat.le_of_ble_eq_true rfl⟩) (kx_preS hEV hP hD [] rfl (by decide)) rfl rfl hl.1 rfl (lv_room (Nat.le_of_ble_eq_true rfl)) dX1_addGatesOf_62 ⟨Nat.le_of_ble_eq_true rfl, Nat.le_of_ble_eq_true rfl⟩) (fun _ H locs _ hP hD hS => ?_)
        refine lv_ishl hx hb dX1_addGatesOf_65 ?_
        refine lv_ishl hx hb dX1_addGatesOf_66 ?_
        refine lv_iconst (v := (1 : Int32)) hx hb dX1_addGatesOf_67 (by decide) ?_
        refine lv_isub hx hb dX1_addGatesOf_68 ?_
        refine lv_istore (lv' := [(5, .int (((1 : Int32) <<< (((1 : Int32) <<< (u_3 &&& 31)) &&& 31)) - (1 : Int32))), (0, .ref q0), (1, .ref q1), (2, .long x2), (4, .int x4)]) hx hb dX1_addGatesOf_69 hl (by decide) rfl (fun ls hl => ?_)
        refine lv_iload hx hb dX1_addGatesOf_71 (lv_at hl 4 rfl) ?_
        refine lv_iconst (v := (-1 : Int32)) hx hb dX1_addGatesOf_73 (by decide) ?_
        refine lv_ixor hx hb dX1_addGatesOf_74 ?_
        refine lv_iload hx hb dX1_addGatesOf_75 (lv_at hl 0 rfl) ?_
        refine lv_iand hx hb dX1_addGatesOf_77 ?_
        refine lv_ldc hx hb hown lk_1 dX1_addGatesOf_78 ?_
        refine lv_iand hx hb dX1_addGatesOf_80 ?_
        refine lv_if_ne (tgt := 89) hx hb dX1_addGatesOf_81 (by decide) (fun c_5 => ?_) (fun c_5 => ?_)
        · have k_6 : ¬ ((((x4 ^^^ (-1 : Int32)) &&& (((1 : Int32) <<< (((1 : Int32) <<< (u_3 &&& 31)) &&& 31)) - (1 : Int32))) &&& (-38506 : Int32)) = 0) := c_5
          have h := cw_f k_6 h
          refine lv_iload hx hb dX1_addGatesOf_89 (lv_at hl 4 rfl) ?_
          refine lv_iconst (v := (-1 : Int32)) hx hb dX1_addGatesOf_91 (by decide) ?_
          refine lv_ixor hx hb dX1_addGatesOf_92 ?_
          refine lv_iload hx hb dX1_addGatesOf_93 (lv_at hl 0 rfl) ?_
          refine lv_iand hx hb dX1_addGatesOf_95 ?_
          refine lv_ldc hx hb hown lk_2 dX1_addGatesOf_96 ?_
          refine lv_iand hx hb dX1_addGatesOf_98 ?_
          refine lv_if_ne (tgt := 111) hx hb dX1_addGatesOf_99 (by decide) (fun c_7 => ?_) (fun c_7 => ?_)
          · have k_8 : ¬ ((((x4 ^^^ (-1 : Int32)) &&& (((1 : Int32) <<< (((1 : Int32) <<< (u_3 &&& 31)) &&& 31)) - (1 : Int32))) &&& (38505 : Int32)) = 0) := c_7
            have h := cw_f k_8 h
            have h := Option.some.inj h
            subst h
            subst hQ
            exact W.vret hx hb hr (fun t ht hW => ⟨⟨(), rfl, trivial, by rw [ht]; exact hP, hD⟩, hS.F ht⟩) hS.2.2 dX1_addGatesOf_111
          · have k_8 : (((x4 ^^^ (-1 : Int32)) &&& (((1 : Int32) <<< (((1 : Int32) <<< (u_3 &&& 31)) &&& 31)) - (1 : Int32))) &&& (38505 : Int32)) = 0 := c_7
            have h := cw_t k_8 h
            refine lv_aload_n hx hb dX1_addGatesOf_102 rfl (lv_at hl 1 rfl) ?_
            refine lv_lload_n hx hb dX1_addGatesOf_103 rfl (lv_at hl 3 rfl) ?_
            refine lv_ldc2 hx hb hown lk_3 dX1_addGatesOf_104 ?_
            refine lv_lor hx hb dX1_addGatesOf_107 ?_
            obtain ⟨u_9, hu_10, h⟩ := cw_b h
            refine kx_v (ws' := fun _ => [(q0, .inr (1, [.ref q0_found, .int u_9.1])), (q0_found, .inl (cL, n0_found, .inr (.inl u_9.2))), (q1, .inr (4, [v1_equations, .ref q1_yes, .ref q1_no, v1_equationCount, .int f1_clauseCount, v1_equationsBefore, v1_clausesBefore, v1_levelCount])), (q1_yes, .inl (cL, n1_yes, .inr (.inl h1_yes))), (q1_no, .inl (cL, n1_no, .inr (.inl h1_no)))]) hP hD hS hA [0, 1] [2, 3, 4] [3, 4, 0, 1, 2] rfl rfl (by decide) (by decide) (fun _ => rfl) (by decide) (va_runV (As := [.long (x2 ||| (4611686018427387904 : Int64))]) (rest := []) ⟨hx, hb, hml, hown, hts⟩ (cm_X1_add l D cI cL (q0 := q0) (q0_found := q0_found) (n0_found := n0_found) (f0_size := f0_size) (h0_found := h0_found) (x1 := x2 ||| (4611686018427387904 : Int64)) (r0 := u_9) (hr0 := hu_10) (sz := H.size)) (cwV 1 hts gX1_addGatesOf_X1_add rfl rfl rfl (by decide +kernel) ⟨Nat.le_of_ble_eq_true rfl, Nat.le_of_ble_eq_true rfl⟩) (kx_preV hEV hP hD [0, 1] rfl (by decide) (k0 := 0) (ci := 1) rfl rfl rfl) rfl rfl hl.1 rfl (lv_room (Nat.le_of_ble_eq_true rfl)) dX1_addGatesOf_108 ⟨Nat.le_of_ble_eq_true rfl, Nat.le_of_ble_eq_true rfl⟩) (fun _ H locs _ hP hD hS => ?_)
            have h := Option.some.inj h
            subst h
            subst hQ
            exact W.vret hx hb hr (fun t ht hW => ⟨⟨(), rfl, trivial, by rw [ht]; exact hP, hD⟩, hS.F ht⟩) hS.2.2 dX1_addGatesOf_111
        · have k_6 : (((x4 ^^^ (-1 : Int32)) &&& (((1 : Int32) <<< (((1 : Int32) <<< (u_3 &&& 31)) &&& 31)) - (1 : Int32))) &&& (-38506 : Int32)) = 0 := c_5
          have h := cw_t k_6 h
          refine lv_aload_n hx hb dX1_addGatesOf_84 rfl (lv_at hl 1 rfl) ?_
          refine lv_lload_n hx hb dX1_addGatesOf_85 rfl (lv_at hl 3 rfl) ?_
          obtain ⟨u_11, hu_12, h⟩ := cw_b h
          refine kx_v (ws' := fun _ => [(q0, .inr (1, [.ref q0_found, .int u_11.1])), (q0_found, .inl (cL, n0_found, .inr (.inl u_11.2))), (q1, .inr (4, [v1_equations, .ref q1_yes, .ref q1_no, v1_equationCount, .int f1_clauseCount, v1_equationsBefore, v1_clausesBefore, v1_levelCount])), (q1_yes, .inl (cL, n1_yes, .inr (.inl h1_yes))), (q1_no, .inl (cL, n1_no, .inr (.inl h1_no)))]) hP hD hS hA [0, 1] [2, 3, 4] [3, 4, 0, 1, 2] rfl rfl (by decide) (by decide) (fun _ => rfl) (by decide) (va_runV (As := [.long x2]) (rest := []) ⟨hx, hb, hml, hown, hts⟩ (cm_X1_add l D cI cL (q0 := q0) (q0_found := q0_found) (n0_found := n0_found) (f0_size := f0_size) (h0_found := h0_found) (x1 := x2) (r0 := u_11) (hr0 := hu_12) (sz := H.size)) (cwV 1 hts gX1_addGatesOf_X1_add rfl rfl rfl (by decide +kernel) ⟨Nat.le_of_ble_eq_true rfl, Nat.le_of_ble_eq_true rfl⟩) (kx_preV hEV hP hD [0, 1] rfl (by decide) (k0 := 0) (ci := 1) rfl rfl rfl) rfl rfl hl.1 rfl (lv_room (Nat.le_of_ble_eq_true rfl)) dX1_addGatesOf_86 ⟨Nat.le_of_ble_eq_true rfl, Nat.le_of_ble_eq_true rfl⟩) (fun _ H locs _ hP hD hS => ?_)
          refine lv_iload hx hb dX1_addGatesOf_89 (lv_at hl 4 rfl) ?_
          refine lv_iconst (v := (-1 : Int32)) hx hb dX1_addGatesOf_91 (by decide) ?_
          refine lv_ixor hx hb dX1_addGatesOf_92 ?_
          refine lv_iload hx hb dX1_addGatesOf_93 (lv_at hl 0 rfl) ?_
          refine lv_iand hx hb dX1_addGatesOf_95 ?_
          refine lv_ldc hx hb hown lk_2 dX1_addGatesOf_96 ?_
          refine lv_iand hx hb dX1_addGatesOf_98 ?_
          refine lv_if_ne (tgt := 111) hx hb dX1_addGatesOf_99 (by decide) (fun c_13 => ?_) (fun c_13 => ?_)
          · have k_14 : ¬ ((((x4 ^^^ (-1 : Int32)) &&& (((1 : Int32) <<< (((1 : Int32) <<< (u_3 &&& 31)) &&& 31)) - (1 : Int32))) &&& (38505 : Int32)) = 0) := c_13
            have h := cw_f k_14 h
            have h := Option.some.inj h
            subst h
            subst hQ
            exact W.vret hx hb hr (fun t ht hW => ⟨⟨(), rfl, trivial, by rw [ht]; exact hP, hD⟩, hS.F ht⟩) hS.2.2 dX1_addGatesOf_111
          · have k_14 : (((x4 ^^^ (-1 : Int32)) &&& (((1 : Int32) <<< (((1 : Int32) <<< (u_3 &&& 31)) &&& 31)) - (1 : Int32))) &&& (38505 : Int32)) = 0 := c_13
            have h := cw_t k_14 h
            refine lv_aload_n hx hb dX1_addGatesOf_102 rfl (lv_at hl 1 rfl) ?_
            refine lv_lload_n hx hb dX1_addGatesOf_103 rfl (lv_at hl 3 rfl) ?_
            refine lv_ldc2 hx hb hown lk_3 dX1_addGatesOf_104 ?_
            refine lv_lor hx hb dX1_addGatesOf_107 ?_
            obtain ⟨u_15, hu_16, h⟩ := cw_b h
            refine kx_v (ws' := fun _ => [(q0, .inr (1, [.ref q0_found, .int u_15.1])), (q0_found, .inl (cL, n0_found, .inr (.inl u_15.2))), (q1, .inr (4, [v1_equations, .ref q1_yes, .ref q1_no, v1_equationCount, .int f1_clauseCount, v1_equationsBefore, v1_clausesBefore, v1_levelCount])), (q1_yes, .inl (cL, n1_yes, .inr (.inl h1_yes))), (q1_no, .inl (cL, n1_no, .inr (.inl h1_no)))]) hP hD hS hA [0, 1] [2, 3, 4] [3, 4, 0, 1, 2] rfl rfl (by decide) (by decide) (fun _ => rfl) (by decide) (va_runV (As := [.long (x2 ||| (4611686018427387904 : Int64))]) (rest := []) ⟨hx, hb, hml, hown, hts⟩ (cm_X1_add l D cI cL (q0 := q0) (q0_found := q0_found) (n0_found := n0_found) (f0_size := u_11.1) (h0_found := u_11.2) (x1 := x2 ||| (4611686018427387904 : Int64)) (r0 := u_15) (hr0 := hu_16) (sz := H.size)) (cwV 1 hts gX1_addGatesOf_X1_add rfl rfl rfl (by decide +kernel) ⟨Nat.le_of_ble_eq_true rfl, Nat.le_of_ble_eq_true rfl⟩) (kx_preV hEV hP hD [0, 1] rfl (by decide) (k0 := 0) (ci := 1) rfl rfl rfl) rfl rfl hl.1 rfl (lv_room (Nat.le_of_ble_eq_true rfl)) dX1_addGatesOf_108 ⟨Nat.le_of_ble_eq_true rfl, Nat.le_of_ble_eq_true rfl⟩) (fun _ H locs _ hP hD hS => ?_)
            have h := Option.some.inj h
            subst h
            subst hQ
            exact W.vret hx hb hr (fun t ht hW => ⟨⟨(), rfl, trivial, by rw [ht]; exact hP, hD⟩, hS.F ht⟩) hS.2.2 dX1_addGatesOf_111
      · have k_2 : ¬ (f1_clauseCount ≤ x5) := c_1
        have h := cw_f k_2 h
        refine lv_aload_n hx hb dX1_addGatesOf_15 rfl (lv_at hl 1 rfl) ?_
        refine va_get (D := D) (ci := 4) (v := .ref q1_yes) (C := RX4) (T := TX4) (N := 8) hx hb hts in_X1_addGatesOf_X4 hown hK hP 2 rfl rfl 1 (by decide) lk_4 (fun _ h9 => h9) rfl dX1_addGatesOf_16 ?_
        refine lv_iload hx hb dX1_addGatesOf_19 (lv_at hl 4 rfl) ?_
        obtain ⟨b_17, h⟩ := cw_i h
        refine va_lald hx hb hK hP 3 1 rfl rfl b_17 dX1_addGatesOf_21 ?_
        refine lv_aload_n hx hb dX1_addGatesOf_22 rfl (lv_at hl 1 rfl) ?_
        refine va_get (D := D) (ci := 4) (v := .ref q1_no) (C := RX4) (T := TX4) (N := 8) hx hb hts in_X1_addGatesOf_X4 hown hK hP 2 rfl rfl 2 (by decide) lk_5 (fun _ h9 => h9) rfl dX1_addGatesOf_23 ?_
        refine lv_iload hx hb dX1_addGatesOf_26 (lv_at hl 4 rfl) ?_
        obtain ⟨b_18, h⟩ := cw_i h
        refine va_lald hx hb hK hP 4 1 rfl rfl b_18 dX1_addGatesOf_28 ?_
        refine lv_lor hx hb dX1_addGatesOf_29 ?_
        refine lv_lload_n hx hb dX1_addGatesOf_30 rfl (lv_at hl 2 rfl) ?_
        refine W.lcmp hx hb dX1_addGatesOf_31 ?_
        refine lv_if_ne (tgt := 53) hx hb dX1_addGatesOf_32 (by decide) (fun c_19 => ?_) (fun c_19 => ?_)
        · have k_20 : ¬ (((h1_yes x5.toNatClampNeg) ||| (h1_no x5.toNatClampNeg)) = x2) := (fun z9 => c_19 ((lg_cmp_eq _ _).mpr z9))
          have h := cw_f k_20 h
          refine lv_iinc (v := x5 + (1 : Int32)) (lv' := [(5, .int (x5 + (1 : Int32))), (0, .ref q0), (1, .ref q1), (2, .long x2), (4, .int x4)]) hx hb dX1_addGatesOf_53 hl (k := 4) rfl rfl (by decide) rfl (fun ls hl => ?_)
          refine lv_goto (tgt := 6) hx hb dX1_addGatesOf_56 (by decide) ?_
          exact ih _ _ _ _ h _ _ _ hP hD hS (lv_sub hl [1, 2, 3, 4, 0] rfl)
        · have k_20 : ((h1_yes x5.toNatClampNeg) ||| (h1_no x5.toNatClampNeg)) = x2 := ((lg_cmp_eq _ _).mp c_19)
          have h := cw_t k_20 h
          refine lv_iload hx hb dX1_addGatesOf_35 (lv_at hl 3 rfl) ?_
          refine lv_iconst (v := (1 : Int32)) hx hb dX1_addGatesOf_37 (by decide) ?_
          refine lv_aload_n hx hb dX1_addGatesOf_38 rfl (lv_at hl 1 rfl) ?_
          refine va_get (D := D) (ci := 4) (v := .ref q1_no) (C := RX4) (T := TX4) (N := 8) hx hb hts in_X1_addGatesOf_X4 hown hK hP 2 rfl rfl 2 (by decide) lk_5 (fun _ h9 => h9) rfl dX1_addGatesOf_39 ?_
          refine lv_iload hx hb dX1_addGatesOf_42 (lv_at hl 4 rfl) ?_
          obtain ⟨b_21, h⟩ := cw_i h
          refine va_lald hx hb hK hP 4 1 rfl rfl b_21 dX1_addGatesOf_44 ?_
          refine lv_lload_n hx hb dX1_addGatesOf_45 rfl (lv_at hl 2 rfl) ?_
          obtain ⟨u_22, hu_23, h⟩ := cw_b h
          refine kx_i (ws' := fun _ => [(q0, .inr (1, [.ref q0_found, .int f0_size])), (q0_found, .inl (cL, n0_found, .inr (.inl h0_found))), (q1, .inr (4, [v1_equations, .ref q1_yes, .ref q1_no, v1_equationCount, .int f1_clauseCount, v1_equationsBefore, v1_clausesBefore, v1_levelCount])), (q1_yes, .inl (cL, n1_yes, .inr (.inl h1_yes))), (q1_no, .inl (cL, n1_no, .inr (.inl h1_no)))]) hP hD hS hA [] [0, 1, 2, 3, 4] [0, 1, 2, 3, 4] rfl rfl (by decide) (by decide) (fun _ => rfl) (by decide) (va_runS (As := [.long (h1_no x5.toNatClampNeg), .long x2]) (rest := [.int (1 : Int32), .int x4]) ⟨hx, hb, hml, hown, hts⟩ (cm_X1_pressed l D cI cL (x0 := h1_no x5.toNatClampNeg) (x2 := x2) (r0 := u_22) (hr0 := hu_23) (sz := H.size)) (va_cwS 2 hts gX1_addGatesOf_X1_pressed rfl rfl rfl (by decide +kernel) ⟨Nat.le_of_ble_eq_true rfl, Nat.le_of_ble_eq_true rfl⟩) (kx_preS hEV hP hD [] rfl (by decide)) rfl rfl hl.1 rfl (lv_room (Nat.le_of_ble_eq_true rfl)) dX1_addGatesOf_46 ⟨Nat.le_of_ble_eq_true rfl, Nat.le_of_ble_eq_true rfl⟩) (fun _ H locs _ hP hD hS => ?_)
          refine lv_ishl hx hb dX1_addGatesOf_49 ?_
          refine lv_ior hx hb dX1_addGatesOf_50 ?_
          refine lv_istore (lv' := [(4, .int (x4 ||| ((1 : Int32) <<< (u_22 &&& 31)))), (0, .ref q0), (1, .ref q1), (2, .long x2), (5, .int x5)]) hx hb dX1_addGatesOf_51 hl (by decide) rfl (fun ls hl => ?_)
          refine lv_iinc (v := x5 + (1 : Int32)) (lv' := [(5, .int (x5 + (1 : Int32))), (4, .int (x4 ||| ((1 : Int32) <<< (u_22 &&& 31)))), (0, .ref q0), (1, .ref q1), (2, .long x2)]) hx hb dX1_addGatesOf_53 hl (k := 4) rfl rfl (by decide) rfl (fun ls hl => ?_)
          refine lv_goto (tgt := 6) hx hb dX1_addGatesOf_56 (by decide) ?_
          exact ih _ _ _ _ h _ _ _ hP hD hS (lv_sub hl [2, 3, 4, 1, 0] rfl)
  have h := hr0
  unfold D_X1_addGatesOf at h
  refine lv_iconst (v := (0 : Int32)) hx hb dX1_addGatesOf_0 (by decide) ?_
  refine lv_istore (lv' := [(4, .int (0 : Int32)), (0, .ref q0), (1, .ref q1), (2, .long x2)]) hx hb dX1_addGatesOf_1 hl (by decide) rfl (fun ls hl => ?_)
  refine lv_iconst (v := (0 : Int32)) hx hb dX1_addGatesOf_3 (by decide) ?_
  refine lv_istore (lv' := [(5, .int (0 : Int32)), (4, .int (0 : Int32)), (0, .ref q0), (1, .ref q1), (2, .long x2)]) hx hb dX1_addGatesOf_4 hl (by decide) rfl (fun ls hl => ?_)
  obtain ⟨n9, hn9⟩ := runw_some h
  exact (hloop n9) _ _ _ _ hn9 _ _ _ hP hD hS (lv_sub hl [2, 3, 4, 1, 0] rfl)
