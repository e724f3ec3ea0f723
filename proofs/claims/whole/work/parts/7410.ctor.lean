theorem in_X2_init_X2 : ∀ w ∈ wsX20, w ∈ wsX2_init := by decide +kernel
theorem lk_0_X2_init : Cond.methodLink RX2 3 objectInit ∈ wsX2_init := by decide +kernel
theorem lk_1_X2_init : Cond.instanceMethod objectInit ∈ wsX2_init := by decide +kernel
theorem lk_2_X2_init : Cond.code objectInit ⟨#[0xb1]⟩ 1 none ∈ wsX2_init := by decide +kernel
theorem lk_3_X2_init : Cond.fieldLink RX2 9 "ParityClauses$Rows" "n" "I" ∈ wsX2_init := by decide +kernel
theorem lk_4_X2_init : Cond.arrayClass .long ∈ wsX2_init := by decide +kernel
theorem lk_5_X2_init : Cond.fieldLink RX2 15 "ParityClauses$Rows" "byHead" "[J" ∈ wsX2_init := by decide +kernel
abbrev rm_X2_init : Room := { frames := 1, cells := 1, slots := 40, locals := 24 }
abbrev wc_X2_init (cI cL : ClassId) (q0 : Nat) (x1 : Int32) (N : Nat) (u : Nat) : va_W := [(q0, .inr (2, [.int x1, .ref u, .int (0 : Int32)])), (u, .inl (cL, N, .inr (.inl (fun _ => (0 : Int64)))))]
set_option maxHeartbeats 4000000 in
set_option maxRecDepth 100000 in
theorem cm_X2_init (l : Launch) (D : va_G) (cI cL : ClassId) (q0 : Nat) (x1 : Int32) (N : Nat) (hN : N ≤ 40) (hx1 : x1 = nI N) (sz : Nat) : Met l yX2_init wsX2_init rm_X2_init (PcW D cI cL [.ref q0, .int x1] [(q0, .inr (2, [.int (0 : Int32), .null, .int (0 : Int32)]))] sz) (QvW D [(q0, .inr (2, [.int (0 : Int32), .null, .int (0 : Int32)]))] (fun u : Nat => [(q0, .inr (2, [.int x1, .ref u, .int (0 : Int32)])), (u, .inl (cL, N, .inr (.inl (fun _ => (0 : Int64)))))]) (fun _ => True) sz) 1 40 (va_A [(q0, .inr (2, [.int (0 : Int32), .null, .int (0 : Int32)]))] sz) := by
  refine Met.ofW (cc := cX2_init) (maxL := 2) (ret := none) (by decide) rfl ?_
  intro p e s m args below meth c s₁ B hml hv
  obtain ⟨hargs, hsz, hP, hEV, hD0⟩ := hv
  have hx := B.exec
  have hb := B.bytes
  have hr := B.returns
  have hts := atoms_spec (ws := wsX2_init) B.pre
  have hown : s.vm.findClass RX2 = some m.cls := findClass_of_methodNamed B.named
  have hlocks := B.notSynchronized
  have hin : meth.name = "<init>" := (name_of_methodNamed B.named B.method).1
  have hK := hEV.K
  have lk_0 := hts _ lk_0_X2_init
  have lk_1 := hts _ lk_1_X2_init
  have lk_2 := hts _ lk_2_X2_init
  have lk_3 := hts _ lk_3_X2_init
  have lk_4 := hts _ lk_4_X2_init
  have lk_5 := hts _ lk_5_X2_init
  subst hsz
  unfold QvW PoW
  have hD := hD0.self (sz := s.heap.size)
  generalize hAe : va_A [(q0, .inr (2, [.int (0 : Int32), .null, .int (0 : Int32)]))] s.heap.size = A at hD ⊢
  have hA : ∀ q : Nat, s.heap.size ≤ q → A q := fun q h => by rw [← hAe]; exact Or.inr h
  have hent : entryFrame m args 2 = entryFrame m ([.ref q0, .int x1] : List Value).toArray 2 := by rw [hargs]
  rw [hent]
  refine kx_Q (fun Q hQ => ?_)
  refine kx_H (fun H hH => ?_)
  have hP : va_P D vwCl [(q0, .inr (2, [.int (0 : Int32), .null, .int (0 : Int32)]))] H := by rw [hH]; exact hP
  have hS : va_S A s.heap H [] := by rw [hH]; exact va_S.rf
  have hl := lv_entry ([.ref q0, .int x1]) (n := 2) (Nat.le_of_ble_eq_true rfl)
  rw [lg_entry_eq]
  generalize (lg_sl ([.ref q0, .int x1]) ++ List.replicate (2 - (lg_sl ([.ref q0, .int x1])).length) Slot.unset).toArray = ls at hl ⊢
  have hl : lv_has ls 2 [(0, .ref q0), (1, .int x1)] := hl
  refine lv_aload_n hx hb dX2_init_0 rfl (lv_at hl 0 rfl) ?_
  refine W.objInit hx hb hown lk_0 lk_1 lk_2 rfl (by rw [hml]; exact hl.1) rfl dX2_init_1 (Nat.le_of_ble_eq_true rfl) (Nat.le_of_ble_eq_true rfl) ?_
  refine W.eq (g2 := F0 m 4 ls []) rfl ?_
  refine lv_aload_n hx hb dX2_init_4 rfl (lv_at hl 0 rfl) ?_
  refine lv_iload_n hx hb dX2_init_5 rfl (lv_at hl 1 rfl) ?_
  refine va_putF (D := D) (ci := 2) (v := .int x1) (ty := .int) (C := RX2) (T := TX2) (N := 3) hx hb hts in_X2_init_X2 tyX2 tyX2_ok nmX2 hown hK hP hD hS 0 rfl rfl 0 (by decide) lk_3 (fun _ h9 => h9) rfl hin rfl (by decide +kernel) rfl rfl (Nat.le_of_ble_eq_true rfl) dX2_init_6 (fun H locs hP hD hS => ?_)
  have hP : va_P D vwCl [(q0, .inr (2, [.int x1, .null, .int (0 : Int32)]))] H := hP
  have hD : va_D A [(q0, .inr (2, [.int x1, .null, .int (0 : Int32)]))] := hD
  refine lv_aload_n hx hb dX2_init_9 rfl (lv_at hl 0 rfl) ?_
  refine lv_iload_n hx hb dX2_init_10 rfl (lv_at hl 1 rfl) ?_
  refine kz_newl (N' := N) hx hb lk_4 hEV hP hD hS hA hx1 (by omega) (Nat.le_of_ble_eq_true rfl) (by show 0 + N ≤ 40; omega) dX2_init_11 (fun q_1 H hP hD hS => ?_)
  have hP : va_P D vwCl [(q0, .inr (2, [.int x1, .null, .int (0 : Int32)])), (q_1, .inl (cL, N, .inr (.inl (fun _ => (0 : Int64)))))] H := hP
  have hD : va_D A [(q0, .inr (2, [.int x1, .null, .int (0 : Int32)])), (q_1, .inl (cL, N, .inr (.inl (fun _ => (0 : Int64)))))] := hD
  refine W.widen (k := 1) (n := 40) (by decide) (by omega) ?_
  refine va_putF (D := D) (ci := 2) (v := .ref q_1) (ty := .array .long) (C := RX2) (T := TX2) (N := 3) hx hb hts in_X2_init_X2 tyX2 tyX2_ok nmX2 hown hK hP hD hS 0 rfl rfl 1 (by decide) lk_5 (fun _ h9 => h9) rfl hin rfl (by decide +kernel) rfl rfl (Nat.le_of_ble_eq_true rfl) dX2_init_13 (fun H locs hP hD hS => ?_)
  have hP : va_P D vwCl [(q0, .inr (2, [.int x1, .ref q_1, .int (0 : Int32)])), (q_1, .inl (cL, N, .inr (.inl (fun _ => (0 : Int64)))))] H := hP
  have hD : va_D A [(q0, .inr (2, [.int x1, .ref q_1, .int (0 : Int32)])), (q_1, .inl (cL, N, .inr (.inl (fun _ => (0 : Int64)))))] := hD
  have hP9 := hP.sub (ws' := [(q0, .inr (2, [.int x1, .ref q_1, .int (0 : Int32)])), (q_1, .inl (cL, N, .inr (.inl (fun _ => (0 : Int64)))))]) [0, 1] rfl
  have hD9 := hD.sub (ws' := [(q0, .inr (2, [.int x1, .ref q_1, .int (0 : Int32)])), (q_1, .inl (cL, N, .inr (.inl (fun _ => (0 : Int64)))))]) [0, 1] (by decide) rfl
  refine W.widen (k := 1) (n := 40) (by decide) (by decide) ?_
  subst hQ
  exact W.vret hx hb hr (fun t ht hW => ⟨⟨q_1, rfl, trivial, by rw [ht]; exact hP9, hD9⟩, hS.F ht⟩) hS.2.2 dX2_init_16

theorem in_X0_init_X0 : ∀ w ∈ wsX00, w ∈ wsX0_init := by decide +kernel
theorem lk_0_X0_init : Cond.methodLink RX0 1 objectInit ∈ wsX0_init := by decide +kernel
theorem lk_1_X0_init : Cond.instanceMethod objectInit ∈ wsX0_init := by decide +kernel
theorem lk_2_X0_init : Cond.code objectInit ⟨#[0xb1]⟩ 1 none ∈ wsX0_init := by decide +kernel
theorem lk_3_X0_init : Cond.fieldLink RX0 7 "ParityClauses$Blame" "n" "I" ∈ wsX0_init := by decide +kernel
theorem lk_4_X0_init : Cond.arrayClass .long ∈ wsX0_init := by decide +kernel
theorem lk_5_X0_init : Cond.fieldLink RX0 13 "ParityClauses$Blame" "byHead" "[J" ∈ wsX0_init := by decide +kernel
theorem lk_6_X0_init : Cond.fieldLink RX0 17 "ParityClauses$Blame" "madeOf" "[J" ∈ wsX0_init := by decide +kernel
abbrev rm_X0_init : Room := { frames := 1, cells := 2, slots := 80, locals := 24 }
abbrev wc_X0_init (cI cL : ClassId) (q0 : Nat) (x1 : Int32) (N : Nat) (u : Nat × Nat) : va_W := [(q0, .inr (0, [.int x1, .ref u.1, .ref u.2])), (u.1, .inl (cL, N, .inr (.inl (fun _ => (0 : Int64))))), (u.2, .inl (cL, N, .inr (.inl (fun _ => (0 : Int64)))))]
set_option maxHeartbeats 4000000 in
set_option maxRecDepth 100000 in
theorem cm_X0_init (l : Launch) (D : va_G) (cI cL : ClassId) (q0 : Nat) (x1 : Int32) (N : Nat) (hN : N ≤ 40) (hx1 : x1 = nI N) (sz : Nat) : Met l yX0_init wsX0_init rm_X0_init (PcW D cI cL [.ref q0, .int x1] [(q0, .inr (0, [.int (0 : Int32), .null, .null]))] sz) (QvW D [(q0, .inr (0, [.int (0 : Int32), .null, .null]))] (fun u : Nat × Nat => [(q0, .inr (0, [.int x1, .ref u.1, .ref u.2])), (u.1, .inl (cL, N, .inr (.inl (fun _ => (0 : Int64))))), (u.2, .inl (cL, N, .inr (.inl (fun _ => (0 : Int64)))))]) (fun _ => True) sz) 2 80 (va_A [(q0, .inr (0, [.int (0 : Int32), .null, .null]))] sz) := by
  refine Met.ofW (cc := cX0_init) (maxL := 2) (ret := none) (by decide) rfl ?_
  intro p e s m args below meth c s₁ B hml hv
  obtain ⟨hargs, hsz, hP, hEV, hD0⟩ := hv
  have hx := B.exec
  have hb := B.bytes
  have hr := B.returns
  have hts := atoms_spec (ws := wsX0_init) B.pre
  have hown : s.vm.findClass RX0 = some m.cls := findClass_of_methodNamed B.named
  have hlocks := B.notSynchronized
  have hin : meth.name = "<init>" := (name_of_methodNamed B.named B.method).1
  have hK := hEV.K
  have lk_0 := hts _ lk_0_X0_init
  have lk_1 := hts _ lk_1_X0_init
  have lk_2 := hts _ lk_2_X0_init
  have lk_3 := hts _ lk_3_X0_init
  have lk_4 := hts _ lk_4_X0_init
  have lk_5 := hts _ lk_5_X0_init
  have lk_6 := hts _ lk_6_X0_init
  subst hsz
  unfold QvW PoW
  have hD := hD0.self (sz := s.heap.size)
  generalize hAe : va_A [(q0, .inr (0, [.int (0 : Int32), .null, .null]))] s.heap.size = A at hD ⊢
  have hA : ∀ q : Nat, s.heap.size ≤ q → A q := fun q h => by rw [← hAe]; exact Or.inr h
  have hent : entryFrame m args 2 = entryFrame m ([.ref q0, .int x1] : List Value).toArray 2 := by rw [hargs]
  rw [hent]
  refine kx_Q (fun Q hQ => ?_)
  refine kx_H (fun H hH => ?_)
  have hP : va_P D vwCl [(q0, .inr (0, [.int (0 : Int32), .null, .null]))] H := by rw [hH]; exact hP
  have hS : va_S A s.heap H [] := by rw [hH]; exact va_S.rf
  have hl := lv_entry ([.ref q0, .int x1]) (n := 2) (Nat.le_of_ble_eq_true rfl)
  rw [lg_entry_eq]
  generalize (lg_sl ([.ref q0, .int x1]) ++ List.replicate (2 - (lg_sl ([.ref q0, .int x1])).length) Slot.unset).toArray = ls at hl ⊢
  have hl : lv_has ls 2 [(0, .ref q0), (1, .int x1)] := hl
  refine lv_aload_n hx hb dX0_init_0 rfl (lv_at hl 0 rfl) ?_
  refine W.objInit hx hb hown lk_0 lk_1 lk_2 rfl (by rw [hml]; exact hl.1) rfl dX0_init_1 (Nat.le_of_ble_eq_true rfl) (Nat.le_of_ble_eq_true rfl) ?_
  refine W.eq (g2 := F0 m 4 ls []) rfl ?_
  refine lv_aload_n hx hb dX0_init_4 rfl (lv_at hl 0 rfl) ?_
  refine lv_iload_n hx hb dX0_init_5 rfl (lv_at hl 1 rfl) ?_
  refine va_putF (D := D) (ci := 0) (v := .int x1) (ty := .int) (C := RX0) (T := TX0) (N := 3) hx hb hts in_X0_init_X0 tyX0 tyX0_ok nmX0 hown hK hP hD hS 0 rfl rfl 0 (by decide) lk_3 (fun _ h9 => h9) rfl hin rfl (by decide +kernel) rfl rfl (Nat.le_of_ble_eq_true rfl) dX0_init_6 (fun H locs hP hD hS => ?_)
  have hP : va_P D vwCl [(q0, .inr (0, [.int x1, .null, .null]))] H := hP
  have hD : va_D A [(q0, .inr (0, [.int x1, .null, .null]))] := hD
  refine lv_aload_n hx hb dX0_init_9 rfl (lv_at hl 0 rfl) ?_
  refine lv_iload_n hx hb dX0_init_10 rfl (lv_at hl 1 rfl) ?_
  refine kz_newl (N' := N) hx hb lk_4 hEV hP hD hS hA hx1 (by omega) (Nat.le_of_ble_eq_true rfl) (by show 0 + N ≤ 80; omega) dX0_init_11 (fun q_1 H hP hD hS => ?_)
  have hP : va_P D vwCl [(q0, .inr (0, [.int x1, .null, .null])), (q_1, .inl (cL, N, .inr (.inl (fun _ => (0 : Int64)))))] H := hP
  have hD : va_D A [(q0, .inr (0, [.int x1, .null, .null])), (q_1, .inl (cL, N, .inr (.inl (fun _ => (0 : Int64)))))] := hD
  refine W.widen (k := 1) (n := 40) (by decide) (by omega) ?_
  refine va_putF (D := D) (ci := 0) (v := .ref q_1) (ty := .array .long) (C := RX0) (T := TX0) (N := 3) hx hb hts in_X0_init_X0 tyX0 tyX0_ok nmX0 hown hK hP hD hS 0 rfl rfl 1 (by decide) lk_5 (fun _ h9 => h9) rfl hin rfl (by decide +kernel) rfl rfl (Nat.le_of_ble_eq_true rfl) dX0_init_13 (fun H locs hP hD hS => ?_)
  have hP : va_P D vwCl [(q0, .inr (0, [.int x1, .ref q_1, .null])), (q_1, .inl (cL, N, .inr (.inl (fun _ => (0 : Int64)))))] H := hP
  have hD : va_D A [(q0, .inr (0, [.int x1, .ref q_1, .null])), (q_1, .inl (cL, N, .inr (.inl (fun _ => (0 : Int64)))))] := hD
  refine lv_aload_n hx hb dX0_init_16 rfl (lv_at hl 0 rfl) ?_
  refine lv_iload_n hx hb dX0_init_17 rfl (lv_at hl 1 rfl) ?_
  refine kz_newl (N' := N) hx hb lk_4 hEV hP hD hS hA hx1 (by omega) (Nat.le_of_ble_eq_true rfl) (by show 40 + N ≤ 80; omega) dX0_init_18 (fun q_2 H hP hD hS => ?_)
  have hP : va_P D vwCl [(q0, .inr (0, [.int x1, .ref q_1, .null])), (q_1, .inl (cL, N, .inr (.inl (fun _ => (0 : Int64))))), (q_2, .inl (cL, N, .inr (.inl (fun _ => (0 : Int64)))))] H := hP
  have hD : va_D A [(q0, .inr (0, [.int x1, .ref q_1, .null])), (q_1, .inl (cL, N, .inr (.inl (fun _ => (0 : Int64))))), (q_2, .inl (cL, N, .inr (.inl (fun _ => (0 : Int64)))))] := hD
  refine W.widen (k := 2) (n := 80) (by decide) (by omega) ?_
  refine va_putF (D := D) (ci := 0) (v := .ref q_2) (ty := .array .long) (C := RX0) (T := TX0) (N := 3) hx hb hts in_X0_init_X0 tyX0 tyX0_ok nmX0 hown hK hP hD hS 0 rfl rfl 2 (by decide) lk_6 (fun _ h9 => h9) rfl hin rfl (by decide +kernel) rfl rfl (Nat.le_of_ble_eq_true rfl) dX0_init_20 (fun H locs hP hD hS => ?_)
  have hP : va_P D vwCl [(q0, .inr (0, [.int x1, .ref q_1, .ref q_2])), (q_1, .inl (cL, N, .inr (.inl (fun _ => (0 : Int64))))), (q_2, .inl (cL, N, .inr (.inl (fun _ => (0 : Int64)))))] H := hP
  have hD : va_D A [(q0, .inr (0, [.int x1, .ref q_1, .ref q_2])), (q_1, .inl (cL, N, .inr (.inl (fun _ => (0 : Int64))))), (q_2, .inl (cL, N, .inr (.inl (fun _ => (0 : Int64)))))] := hD
  have hP9 := hP.sub (ws' := [(q0, .inr (0, [.int x1, .ref q_1, .ref q_2])), (q_1, .inl (cL, N, .inr (.inl (fun _ => (0 : Int64))))), (q_2, .inl (cL, N, .inr (.inl (fun _ => (0 : Int64)))))]) [0, 1, 2] rfl
  have hD9 := hD.sub (ws' := [(q0, .inr (0, [.int x1, .ref q_1, .ref q_2])), (q_1, .inl (cL, N, .inr (.inl (fun _ => (0 : Int64))))), (q_2, .inl (cL, N, .inr (.inl (fun _ => (0 : Int64)))))]) [0, 1, 2] (by decide) rfl
  refine W.widen (k := 2) (n := 80) (by decide) (by decide) ?_
  subst hQ
  exact W.vret hx hb hr (fun t ht hW => ⟨⟨(q_1, q_2), rfl, trivial, by rw [ht]; exact hP9, hD9⟩, hS.F ht⟩) hS.2.2 dX0_init_23

theorem in_X1_init_X1 : ∀ w ∈ wsX10, w ∈ wsX1_init := by decide +kernel
theorem lk_0_X1_init : Cond.methodLink RX1 3 objectInit ∈ wsX1_init := by decide +kernel
theorem lk_1_X1_init : Cond.instanceMethod objectInit ∈ wsX1_init := by decide +kernel
theorem lk_2_X1_init : Cond.code objectInit ⟨#[0xb1]⟩ 1 none ∈ wsX1_init := by decide +kernel
theorem lk_3_X1_init : Cond.arrayClass .long ∈ wsX1_init := by decide +kernel
theorem lk_4_X1_init : Cond.fieldLink RX1 9 "ParityClauses$GateList" "found" "[J" ∈ wsX1_init := by decide +kernel
abbrev rm_X1_init : Room := { frames := 1, cells := 1, slots := 60, locals := 24 }
abbrev wc_X1_init (cI cL : ClassId) (q0 : Nat) (u : Nat) : va_W := [(q0, .inr (1, [.ref u, .int (0 : Int32)])), (u, .inl (cL, 60, .inr (.inl (fun _ => (0 : Int64)))))]
set_option maxHeartbeats 4000000 in
set_option maxRecDepth 100000 in
theorem cm_X1_init (l : Launch) (D : va_G) (cI cL : ClassId) (q0 : Nat) (sz : Nat) : Met l yX1_init wsX1_init rm_X1_init (PcW D cI cL [.ref q0] [(q0, .inr (1, [.null, .int (0 : Int32)]))] sz) (QvW D [(q0, .inr (1, [.null, .int (0 : Int32)]))] (fun u : Nat => [(q0, .inr (1, [.ref u, .int (0 : Int32)])), (u, .inl (cL, 60, .inr (.inl (fun _ => (0 : Int64)))))]) (fun _ => True) sz) 1 60 (va_A [(q0, .inr (1, [.null, .int (0 : Int32)]))] sz) := by
  refine Met.ofW (cc := cX1_init) (maxL := 1) (ret := none) (by decide) rfl ?_
  intro p e s m args below meth c s₁ B hml hv
  obtain ⟨hargs, hsz, hP, hEV, hD0⟩ := hv
  have hx := B.exec
  have hb := B.bytes
  have hr := B.returns
  have hts := atoms_spec (ws := wsX1_init) B.pre
  have hown : s.vm.findClass RX1 = some m.cls := findClass_of_methodNamed B.named
  have hlocks := B.notSynchronized
  have hin : meth.name = "<init>" := (name_of_methodNamed B.named B.method).1
  have hK := hEV.K
  have lk_0 := hts _ lk_0_X1_init
  have lk_1 := hts _ lk_1_X1_init
  have lk_2 := hts _ lk_2_X1_init
  have lk_3 := hts _ lk_3_X1_init
  have lk_4 := hts _ lk_4_X1_init
  subst hsz
  unfold QvW PoW
  have hD := hD0.self (sz := s.heap.size)
  generalize hAe : va_A [(q0, .inr (1, [.null, .int (0 : Int32)]))] s.heap.size = A at hD ⊢
  have hA : ∀ q : Nat, s.heap.size ≤ q → A q := fun q h => by rw [← hAe]; exact Or.inr h
  have hent : entryFrame m args 1 = entryFrame m ([.ref q0] : List Value).toArray 1 := by rw [hargs]
  rw [hent]
  refine kx_Q (fun Q hQ => ?_)
  refine kx_H (fun H hH => ?_)
  have hP : va_P D vwCl [(q0, .inr (1, [.null, .int (0 : Int32)]))] H := by rw [hH]; exact hP
  have hS : va_S A s.heap H [] := by rw [hH]; exact va_S.rf
  have hl := lv_entry ([.ref q0]) (n := 1) (Nat.le_of_ble_eq_true rfl)
  rw [lg_entry_eq]
  generalize (lg_sl ([.ref q0]) ++ List.replicate (1 - (lg_sl ([.ref q0])).length) Slot.unset).toArray = ls at hl ⊢
  have hl : lv_has ls 1 [(0, .ref q0)] := hl
  refine lv_aload_n hx hb dX1_init_0 rfl (lv_at hl 0 rfl) ?_
  refine W.objInit hx hb hown lk_0 lk_1 lk_2 rfl (by rw [hml]; exact hl.1) rfl dX1_init_1 (Nat.le_of_ble_eq_true rfl) (Nat.le_of_ble_eq_true rfl) ?_
  refine W.eq (g2 := F0 m 4 ls []) rfl ?_
  refine lv_aload_n hx hb dX1_init_4 rfl (lv_at hl 0 rfl) ?_
  refine lv_bipush (v := (60 : Int32)) hx hb dX1_init_5 (by decide) ?_
  refine kz_newl (N' := 60) hx hb lk_3 hEV hP hD hS hA rfl (by decide) (Nat.le_of_ble_eq_true rfl) (Nat.le_of_ble_eq_true rfl) dX1_init_7 (fun q_1 H hP hD hS => ?_)
  have hP : va_P D vwCl [(q0, .inr (1, [.null, .int (0 : Int32)])), (q_1, .inl (cL, 60, .inr (.inl (fun _ => (0 : Int64)))))] H := hP
  have hD : va_D A [(q0, .inr (1, [.null, .int (0 : Int32)])), (q_1, .inl (cL, 60, .inr (.inl (fun _ => (0 : Int64)))))] := hD
  refine W.widen (k := 1) (n := 60) (by decide) (by decide) ?_
  refine va_putF (D := D) (ci := 1) (v := .ref q_1) (ty := .array .long) (C := RX1) (T := TX1) (N := 2) hx hb hts in_X1_init_X1 tyX1 tyX1_ok nmX1 hown hK hP hD hS 0 rfl rfl 0 (by decide) lk_4 (fun _ h9 => h9) rfl hin rfl (by decide +kernel) rfl rfl (Nat.le_of_ble_eq_true rfl) dX1_init_9 (fun H locs hP hD hS => ?_)
  have hP : va_P D vwCl [(q0, .inr (1, [.ref q_1, .int (0 : Int32)])), (q_1, .inl (cL, 60, .inr (.inl (fun _ => (0 : Int64)))))] H := hP
  have hD : va_D A [(q0, .inr (1, [.ref q_1, .int (0 : Int32)])), (q_1, .inl (cL, 60, .inr (.inl (fun _ => (0 : Int64)))))] := hD
  have hP9 := hP.sub (ws' := [(q0, .inr (1, [.ref q_1, .int (0 : Int32)])), (q_1, .inl (cL, 60, .inr (.inl (fun _ => (0 : Int64)))))]) [0, 1] rfl
  have hD9 := hD.sub (ws' := [(q0, .inr (1, [.ref q_1, .int (0 : Int32)])), (q_1, .inl (cL, 60, .inr (.inl (fun _ => (0 : Int64)))))]) [0, 1] (by decide) rfl
  refine W.widen (k := 1) (n := 60) (by decide) (by decide) ?_
  subst hQ
  exact W.vret hx hb hr (fun t ht hW => ⟨⟨q_1, rfl, trivial, by rw [ht]; exact hP9, hD9⟩, hS.F ht⟩) hS.2.2 dX1_init_12

theorem in_X4_init_X4 : ∀ w ∈ wsX40, w ∈ wsX4_init := by decide +kernel
theorem lk_0_X4_init : Cond.methodLink RX4 3 objectInit ∈ wsX4_init := by decide +kernel
theorem lk_1_X4_init : Cond.instanceMethod objectInit ∈ wsX4_init := by decide +kernel
theorem lk_2_X4_init : Cond.code objectInit ⟨#[0xb1]⟩ 1 none ∈ wsX4_init := by decide +kernel
theorem lk_3_X4_init : Cond.arrayClass .long ∈ wsX4_init := by decide +kernel
theorem lk_4_X4_init : Cond.fieldLink RX4 9 "ParityClauses$Store" "equations" "[J" ∈ wsX4_init := by decide +kernel
theorem lk_5_X4_init : Cond.fieldLink RX4 15 "ParityClauses$Store" "yes" "[J" ∈ wsX4_init := by decide +kernel
theorem lk_6_X4_init : Cond.fieldLink RX4 18 "ParityClauses$Store" "no" "[J" ∈ wsX4_init := by decide +kernel
theorem lk_7_X4_init : Cond.arrayClass .int ∈ wsX4_init := by decide +kernel
theorem lk_8_X4_init : Cond.fieldLink RX4 21 "ParityClauses$Store" "equationsBefore" "[I" ∈ wsX4_init := by decide +kernel
theorem lk_9_X4_init : Cond.fieldLink RX4 25 "ParityClauses$Store" "clausesBefore" "[I" ∈ wsX4_init := by decide +kernel
abbrev rm_X4_init : Room := { frames := 1, cells := 5, slots := 220, locals := 24 }
abbrev wc_X4_init (cI cL : ClassId) (q0 : Nat) (u : Nat × Nat × Nat × Nat × Nat) : va_W := [(q0, .inr (4, [.ref u.1, .ref u.2.1, .ref u.2.2.1, .int (0 : Int32), .int (0 : Int32), .ref u.2.2.2.1, .ref u.2.2.2.2, .int (0 : Int32)])), (u.1, .inl (cL, 60, .inr (.inl (fun _ => (0 : Int64))))), (u.2.1, .inl (cL, 60, .inr (.inl (fun _ => (0 : Int64))))), (u.2.2.1, .inl (cL, 60, .inr (.inl (fun _ => (0 : Int64))))), (u.2.2.2.1, .inl (cI, 20, .inl (fun _ => (0 : Int32)))), (u.2.2.2.2, .inl (cI, 20, .inl (fun _ => (0 : Int32))))]
set_option maxHeartbeats 4000000 in
set_option maxRecDepth 100000 in
theorem cm_X4_init (l : Launch) (D : va_G) (cI cL : ClassId) (q0 : Nat) (sz : Nat) : Met l yX4_init wsX4_init rm_X4_init (PcW D cI cL [.ref q0] [(q0, .inr (4, [.null, .null, .null, .int (0 : Int32), .int (0 : Int32), .null, .null, .int (0 : Int32)]))] sz) (QvW D [(q0, .inr (4, [.null, .null, .null, .int (0 : Int32), .int (0 : Int32), .null, .null, .int (0 : Int32)]))] (fun u : Nat × Nat × Nat × Nat × Nat => [(q0, .inr (4, [.ref u.1, .ref u.2.1, .ref u.2.2.1, .int (0 : Int32), .int (0 : Int32), .ref u.2.2.2.1, .ref u.2.2.2.2, .int (0 : Int32)])), (u.1, .inl (cL, 60, .inr (.inl (fun _ => (0 : Int64))))), (u.2.1, .inl (cL, 60, .inr (.inl (fun _ => (0 : Int64))))), (u.2.2.1, .inl (cL, 60, .inr (.inl (fun _ => (0 : Int64))))), (u.2.2.2.1, .inl (cI, 20, .inl (fun _ => (0 : Int32)))), (u.2.2.2.2, .inl (cI, 20, .inl (fun _ => (0 : Int32))))]) (fun _ => True) sz) 5 220 (va_A [(q0, .inr (4, [.null, .null, .null, .int (0 : Int32), .int (0 : Int32), .null, .null, .int (0 : Int32)]))] sz) := by
  refine Met.ofW (cc := cX4_init) (maxL := 1) (ret := none) (by decide) rfl ?_
  intro p e s m args below meth c s₁ B hml hv
  obtain ⟨hargs, hsz, hP, hEV, hD0⟩ := hv
  have hx := B.exec
  have hb := B.bytes
  have hr := B.returns
  have hts := atoms_spec (ws := wsX4_init) B.pre
  have hown : s.vm.findClass RX4 = some m.cls := findClass_of_methodNamed B.named
  have hlocks := B.notSynchronized
  have hin : meth.name = "<init>" := (name_of_methodNamed B.named B.method).1
  have hK := hEV.K
  have lk_0 := hts _ lk_0_X4_init
  have lk_1 := hts _ lk_1_X4_init
  have lk_2 := hts _ lk_2_X4_init
  have lk_3 := hts _ lk_3_X4_init
  have lk_4 := hts _ lk_4_X4_init
  have lk_5 := hts _ lk_5_X4_init
  have lk_6 := hts _ lk_6_X4_init
  have lk_7 := hts _ lk_7_X4_init
  have lk_8 := hts _ lk_8_X4_init
  have lk_9 := hts _ lk_9_X4_init
  subst hsz
  unfold QvW PoW
  have hD := hD0.self (sz := s.heap.size)
  generalize hAe : va_A [(q0, .inr (4, [.null, .null, .null, .int (0 : Int32), .int (0 : Int32), .null, .null, .int (0 : Int32)]))] s.heap.size = A at hD ⊢
  have hA : ∀ q : Nat, s.heap.size ≤ q → A q := fun q h => by rw [← hAe]; exact Or.inr h
  have hent : entryFrame m args 1 = entryFrame m ([.ref q0] : List Value).toArray 1 := by rw [hargs]
  rw [hent]
  refine kx_Q (fun Q hQ => ?_)
  refine kx_H (fun H hH => ?_)
  have hP : va_P D vwCl [(q0, .inr (4, [.null, .null, .null, .int (0 : Int32), .int (0 : Int32), .null, .null, .int (0 : Int32)]))] H := by rw [hH]; exact hP
  have hS : va_S A s.heap H [] := by rw [hH]; exact va_S.rf
  have hl := lv_entry ([.ref q0]) (n := 1) (Nat.le_of_ble_eq_true rfl)
  rw [lg_entry_eq]
  generalize (lg_sl ([.ref q0]) ++ List.replicate (1 - (lg_sl ([.ref q0])).length) Slot.unset).toArray = ls at hl ⊢
  have hl : lv_has ls 1 [(0, .ref q0)] := hl
  refine lv_aload_n hx hb dX4_init_0 rfl (lv_at hl 0 rfl) ?_
  refine W.objInit hx hb hown lk_0 lk_1 lk_2 rfl (by rw [hml]; exact hl.1) rfl dX4_init_1 (Nat.le_of_ble_eq_true rfl) (Nat.le_of_ble_eq_true rfl) ?_
  refine W.eq (g2 := F0 m 4 ls []) rfl ?_
  refine lv_aload_n hx hb dX4_init_4 rfl (lv_at hl 0 rfl) ?_
  refine lv_bipush (v := (60 : Int32)) hx hb dX4_init_5 (by decide) ?_
  refine kz_newl (N' := 60) hx hb lk_3 hEV hP hD hS hA rfl (by decide) (Nat.le_of_ble_eq_true rfl) (Nat.le_of_ble_eq_true rfl) dX4_init_7 (fun q_1 H hP hD hS => ?_)
  have hP : va_P D vwCl [(q0, .inr (4, [.null, .null, .null, .int (0 : Int32), .int (0 : Int32), .null, .null, .int (0 : Int32)])), (q_1, .inl (cL, 60, .inr (.inl (fun _ => (0 : Int64)))))] H := hP
  have hD : va_D A [(q0, .inr (4, [.null, .null, .null, .int (0 : Int32), .int (0 : Int32), .null, .null, .int (0 : Int32)])), (q_1, .inl (cL, 60, .inr (.inl (fun _ => (0 : Int64)))))] := hD
  refine W.widen (k := 1) (n := 60) (by decide) (by decide) ?_
  refine va_putF (D := D) (ci := 4) (v := .ref q_1) (ty := .array .long) (C := RX4) (T := TX4) (N := 8) hx hb hts in_X4_init_X4 tyX4 tyX4_ok nmX4 hown hK hP hD hS 0 rfl rfl 0 (by decide) lk_4 (fun _ h9 => h9) rfl hin rfl (by decide +kernel) rfl rfl (Nat.le_of_ble_eq_true rfl) dX4_init_9 (fun H locs hP hD hS => ?_)
  have hP : va_P D vwCl [(q0, .inr (4, [.ref q_1, .null, .null, .int (0 : Int32), .int (0 : Int32), .null, .null, .int (0 : Int32)])), (q_1, .inl (cL, 60, .inr (.inl (fun _ => (0 : Int64)))))] H := hP
  have hD : va_D A [(q0, .inr (4, [.ref q_1, .null, .null, .int (0 : Int32), .int (0 : Int32), .null, .null, .int (0 : Int32)])), (q_1, .inl (cL, 60, .inr (.inl (fun _ => (0 : Int64)))))] := hD
  refine lv_aload_n hx hb dX4_init_12 rfl (lv_at hl 0 rfl) ?_
  refine lv_bipush (v := (60 : Int32)) hx hb dX4_init_13 (by decide) ?_
  refine kz_newl (N' := 60) hx hb lk_3 hEV hP hD hS hA rfl (by decide) (Nat.le_of_ble_eq_true rfl) (Nat.le_of_ble_eq_true rfl) dX4_init_15 (fun q_2 H hP hD hS => ?_)
  have hP : va_P D vwCl [(q0, .inr (4, [.ref q_1, .null, .null, .int (0 : Int32), .int (0 : Int32), .null, .null, .int (0 : Int32)])), (q_1, .inl (cL, 60, .inr (.inl (fun _ => (0 : Int64))))), (q_2, .inl (cL, 60, .inr (.inl (fun _ => (0 : Int64)))))] H := hP
  have hD : va_D A [(q0, .inr (4, [.ref q_1, .null, .null, .int (0 : Int32), .int (0 : Int32), .null, .null, .int (0 : Int32)])), (q_1, .inl (cL, 60, .inr (.inl (fun _ => (0 : Int64))))), (q_2, .inl (cL, 60, .inr (.inl (fun _ => (0 : Int64)))))] := hD
  refine W.widen (k := 2) (n := 120) (by decide) (by decide) ?_
  refine va_putF (D := D) (ci := 4) (v := .ref q_2) (ty := .array .long) (C := RX4) (T := TX4) (N := 8) hx hb hts in_X4_init_X4 tyX4 tyX4_ok nmX4 hown hK hP hD hS 0 rfl rfl 1 (by decide) lk_5 (fun _ h9 => h9) rfl hin rfl (by decide +kernel) rfl rfl (Nat.le_of_ble_eq_true rfl) dX4_init_17 (fun H locs hP hD hS => ?_)
  have hP : va_P D vwCl [(q0, .inr (4, [.ref q_1, .ref q_2, .null, .int (0 : Int32), .int (0 : Int32), .null, .null, .int (0 : Int32)])), (q_1, .inl (cL, 60, .inr (.inl (fun _ => (0 : Int64))))), (q_2, .inl (cL, 60, .inr (.inl (fun _ => (0 : Int64)))))] H := hP
  have hD : va_D A [(q0, .inr (4, [.ref q_1, .ref q_2, .null, .int (0 : Int32), .int (0 : Int32), .null, .null, .int (0 : Int32)])), (q_1, .inl (cL, 60, .inr (.inl (fun _ => (0 : Int64))))), (q_2, .inl (cL, 60, .inr (.inl (fun _ => (0 : Int64)))))] := hD
  refine lv_aload_n hx hb dX4_init_20 rfl (lv_at hl 0 rfl) ?_
  refine lv_bipush (v := (60 : Int32)) hx hb dX4_init_21 (by decide) ?_
  refine kz_newl (N' := 60) hx hb lk_3 hEV hP hD hS hA rfl (by decide) (Nat.le_of_ble_eq_true rfl) (Nat.le_of_ble_eq_true rfl) dX4_init_23 (fun q_3 H hP hD hS => ?_)
  have hP : va_P D vwCl [(q0, .inr (4, [.ref q_1, .ref q_2, .null, .int (0 : Int32), .int (0 : Int32), .null, .null, .int (0 : Int32)])), (q_1, .inl (cL, 60, .inr (.inl (fun _ => (0 : Int64))))), (q_2, .inl (cL, 60, .inr (.inl (fun _ => (0 : Int64))))), (q_3, .inl (cL, 60, .inr (.inl (fun _ => (0 : Int64)))))] H := hP
  have hD : va_D A [(q0, .inr (4, [.ref q_1, .ref q_2, .null, .int (0 : Int32), .int (0 : Int32), .null, .null, .int (0 : Int32)])), (q_1, .inl (cL, 60, .inr (.inl (fun _ => (0 : Int64))))), (q_2, .inl (cL, 60, .inr (.inl (fun _ => (0 : Int64))))), (q_3, .inl (cL, 60, .inr (.inl (fun _ => (0 : Int64)))))] := hD
  refine W.widen (k := 3) (n := 180) (by decide) (by decide) ?_
  refine va_putF (D := D) (ci := 4) (v := .ref q_3) (ty := .array .long) (C := RX4) (T := TX4) (N := 8) hx hb hts in_X4_init_X4 tyX4 tyX4_ok nmX4 hown hK hP hD hS 0 rfl rfl 2 (by decide) lk_6 (fun _ h9 => h9) rfl hin rfl (by decide +kernel) rfl rfl (Nat.le_of_ble_eq_true rfl) dX4_init_25 (fun H locs hP hD hS => ?_)
  have hP : va_P D vwCl [(q0, .inr (4, [.ref q_1, .ref q_2, .ref q_3, .int (0 : Int32), .int (0 : Int32), .null, .null, .int (0 : Int32)])), (q_1, .inl (cL, 60, .inr (.inl (fun _ => (0 : Int64))))), (q_2, .inl (cL, 60, .inr (.inl (fun _ => (0 : Int64))))), (q_3, .inl (cL, 60, .inr (.inl (fun _ => (0 : Int64)))))] H := hP
  have hD : va_D A [(q0, .inr (4, [.ref q_1, .ref q_2, .ref q_3, .int (0 : Int32), .int (0 : Int32), .null, .null, .int (0 : Int32)])), (q_1, .inl (cL, 60, .inr (.inl (fun _ => (0 : Int64))))), (q_2, .inl (cL, 60, .inr (.inl (fun _ => (0 : Int64))))), (q_3, .inl (cL, 60, .inr (.inl (fun _ => (0 : Int64)))))] := hD
  refine lv_aload_n hx hb dX4_init_28 rfl (lv_at hl 0 rfl) ?_
  refine lv_bipush (v := (20 : Int32)) hx hb dX4_init_29 (by decide) ?_
  refine kz_newi (N' := 20) hx hb lk_7 hEV hP hD hS hA rfl (by decide) (Nat.le_of_ble_eq_true rfl) (Nat.le_of_ble_eq_true rfl) dX4_init_31 (fun q_4 H hP hD hS => ?_)
  have hP : va_P D vwCl [(q0, .inr (4, [.ref q_1, .ref q_2, .ref q_3, .int (0 : Int32), .int (0 : Int32), .null, .null, .int (0 : Int32)])), (q_1, .inl (cL, 60, .inr (.inl (fun _ => (0 : Int64))))), (q_2, .inl (cL, 60, .inr (.inl (fun _ => (0 : Int64))))), (q_3, .inl (cL, 60, .inr (.inl (fun _ => (0 : Int64))))), (q_4, .inl (cI, 20, .inl (fun _ => (0 : Int32))))] H := hP
  have hD : va_D A [(q0, .inr (4, [.ref q_1, .ref q_2, .ref q_3, .int (0 : Int32), .int (0 : Int32), .null, .null, .int (0 : Int32)])), (q_1, .inl (cL, 60, .inr (.inl (fun _ => (0 : Int64))))), (q_2, .inl (cL, 60, .inr (.inl (fun _ => (0 : Int64))))), (q_3, .inl (cL, 60, .inr (.inl (fun _ => (0 : Int64))))), (q_4, .inl (cI, 20, .inl (fun _ => (0 : Int32))))] := hD
  refine W.widen (k := 4) (n := 200) (by decide) (by decide) ?_
  refine va_putF (D := D) (ci := 4) (v := .ref q_4) (ty := .array .int) (C := RX4) (T := TX4) (N := 8) hx hb hts in_X4_init_X4 tyX4 tyX4_ok nmX4 hown hK hP hD hS 0 rfl rfl 5 (by decide) lk_8 (fun _ h9 => h9) rfl hin rfl (by decide +kernel) rfl rfl (Nat.le_of_ble_eq_true rfl) dX4_init_33 (fun H locs hP hD hS => ?_)
  have hP : va_P D vwCl [(q0, .inr (4, [.ref q_1, .ref q_2, .ref q_3, .int (0 : Int32), .int (0 : Int32), .ref q_4, .null, .int (0 : Int32)])), (q_1, .inl (cL, 60, .inr (.inl (fun _ => (0 : Int64))))), (q_2, .inl (cL, 60, .inr (.inl (fun _ => (0 : Int64))))), (q_3, .inl (cL, 60, .inr (.inl (fun _ => (0 : Int64))))), (q_4, .inl (cI, 20, .inl (fun _ => (0 : Int32))))] H := hP
  have hD : va_D A [(q0, .inr (4, [.ref q_1, .ref q_2, .ref q_3, .int (0 : Int32), .int (0 : Int32), .ref q_4, .null, .int (0 : Int32)])), (q_1, .inl (cL, 60, .inr (.inl (fun _ => (0 : Int64))))), (q_2, .inl (cL, 60, .inr (.inl (fun _ => (0 : Int64))))), (q_3, .inl (cL, 60, .inr (.inl (fun _ => (0 : Int64))))), (q_4, .inl (cI, 20, .inl (fun _ => (0 : Int32))))] := hD
  refine lv_aload_n hx hb dX4_init_36 rfl (lv_at hl 0 rfl) ?_
  refine lv_bipush (v := (20 : Int32)) hx hb dX4_init_37 (by decide) ?_
  refine kz_newi (N' := 20) hx hb lk_7 hEV hP hD hS hA rfl (by decide) (Nat.le_of_ble_eq_true rfl) (Nat.le_of_ble_eq_true rfl) dX4_init_39 (fun q_5 H hP hD hS => ?_)
  have hP : va_P D vwCl [(q0, .inr (4, [.ref q_1, .ref q_2, .ref q_3, .int (0 : Int32), .int (0 : Int32), .ref q_4, .null, .int (0 : Int32)])), (q_1, .inl (cL, 60, .inr (.inl (fun _ => (0 : Int64))))), (q_2, .inl (cL, 60, .inr (.inl (fun _ => (0 : Int64))))), (q_3, .inl (cL, 60, .inr (.inl (fun _ => (0 : Int64))))), (q_4, .inl (cI, 20, .inl (fun _ => (0 : Int32)))), (q_5, .inl (cI, 20, .inl (fun _ => (0 : Int32))))] H := hP
  have hD : va_D A [(q0, .inr (4, [.ref q_1, .ref q_2, .ref q_3, .int (0 : Int32), .int (0 : Int32), .ref q_4, .null, .int (0 : Int32)])), (q_1, .inl (cL, 60, .inr (.inl (fun _ => (0 : Int64))))), (q_2, .inl (cL, 60, .inr (.inl (fun _ => (0 : Int64))))), (q_3, .inl (cL, 60, .inr (.inl (fun _ => (0 : Int64))))), (q_4, .inl (cI, 20, .inl (fun _ => (0 : Int32)))), (q_5, .inl (cI, 20, .inl (fun _ => (0 : Int32))))] := hD
  refine W.widen (k := 5) (n := 220) (by decide) (by decide) ?_
  refine va_putF (D := D) (ci := 4) (v := .ref q_5) (ty := .array .int) (C := RX4) (T := TX4) (N := 8) hx hb hts in_X4_init_X4 tyX4 tyX4_ok nmX4 hown hK hP hD hS 0 rfl rfl 6 (by decide) lk_9 (fun _ h9 => h9) rfl hin rfl (by decide +kernel) rfl rfl (Nat.le_of_ble_eq_true rfl) dX4_init_41 (fun H locs hP hD hS => ?_)
  have hP : va_P D vwCl [(q0, .inr (4, [.ref q_1, .ref q_2, .ref q_3, .int (0 : Int32), .int (0 : Int32), .ref q_4, .ref q_5, .int (0 : Int32)])), (q_1, .inl (cL, 60, .inr (.inl (fun _ => (0 : Int64))))), (q_2, .inl (cL, 60, .inr (.inl (fun _ => (0 : Int64))))), (q_3, .inl (cL, 60, .inr (.inl (fun _ => (0 : Int64))))), (q_4, .inl (cI, 20, .inl (fun _ => (0 : Int32)))), (q_5, .inl (cI, 20, .inl (fun _ => (0 : Int32))))] H := hP
  have hD : va_D A [(q0, .inr (4, [.ref q_1, .ref q_2, .ref q_3, .int (0 : Int32), .int (0 : Int32), .ref q_4, .ref q_5, .int (0 : Int32)])), (q_1, .inl (cL, 60, .inr (.inl (fun _ => (0 : Int64))))), (q_2, .inl (cL, 60, .inr (.inl (fun _ => (0 : Int64))))), (q_3, .inl (cL, 60, .inr (.inl (fun _ => (0 : Int64))))), (q_4, .inl (cI, 20, .inl (fun _ => (0 : Int32)))), (q_5, .inl (cI, 20, .inl (fun _ => (0 : Int32))))] := hD
  have hP9 := hP.sub (ws' := [(q0, .inr (4, [.ref q_1, .ref q_2, .ref q_3, .int (0 : Int32), .int (0 : Int32), .ref q_4, .ref q_5, .int (0 : Int32)])), (q_1, .inl (cL, 60, .inr (.inl (fun _ => (0 : Int64))))), (q_2, .inl (cL, 60, .inr (.inl (fun _ => (0 : Int64))))), (q_3, .inl (cL, 60, .inr (.inl (fun _ => (0 : Int64))))), (q_4, .inl (cI, 20, .inl (fun _ => (0 : Int32)))), (q_5, .inl (cI, 20, .inl (fun _ => (0 : Int32))))]) [0, 1, 2, 3, 4, 5] rfl
  have hD9 := hD.sub (ws' := [(q0, .inr (4, [.ref q_1, .ref q_2, .ref q_3, .int (0 : Int32), .int (0 : Int32), .ref q_4, .ref q_5, .int (0 : Int32)])), (q_1, .inl (cL, 60, .inr (.inl (fun _ => (0 : Int64))))), (q_2, .inl (cL, 60, .inr (.inl (fun _ => (0 : Int64))))), (q_3, .inl (cL, 60, .inr (.inl (fun _ => (0 : Int64))))), (q_4, .inl (cI, 20, .inl (fun _ => (0 : Int32)))), (q_5, .inl (cI, 20, .inl (fun _ => (0 : Int32))))]) [0, 1, 2, 3, 4, 5] (by decide) rfl
  refine W.widen (k := 5) (n := 220) (by decide) (by decide) ?_
  subst hQ
  exact W.vret hx hb hr (fun t ht hW => ⟨⟨(q_1, q_2, q_3, q_4, q_5), rfl, trivial, by rw [ht]; exact hP9, hD9⟩, hS.F ht⟩) hS.2.2 dX4_init_44

theorem in_X6_init_X6 : ∀ w ∈ wsX60, w ∈ wsX6_init := by decide +kernel
theorem lk_0_X6_init : Cond.methodLink RX6 3 objectInit ∈ wsX6_init := by decide +kernel
theorem lk_1_X6_init : Cond.instanceMethod objectInit ∈ wsX6_init := by decide +kernel
theorem lk_2_X6_init : Cond.code objectInit ⟨#[0xb1]⟩ 1 none ∈ wsX6_init := by decide +kernel
theorem lk_3_X6_init : Cond.arrayClass .int ∈ wsX6_init := by decide +kernel
theorem lk_4_X6_init : Cond.fieldLink RX6 9 "ParityClauses$Tape" "bytes" "[I" ∈ wsX6_init := by decide +kernel
abbrev rm_X6_init : Room := { frames := 1, cells := 1, slots := 500, locals := 24 }
abbrev wc_X6_init (cI cL : ClassId) (q0 : Nat) (u : Nat) : va_W := [(q0, .inr (6, [.ref u, .int (0 : Int32), .int (0 : Int32), .int (0 : Int32), .int (0 : Int32), .long (0 : Int64), .long (0 : Int64), .int (0 : Int32)])), (u, .inl (cI, 500, .inl (fun _ => (0 : Int32))))]
set_option maxHeartbeats 4000000 in
set_option maxRecDepth 100000 in
theorem cm_X6_init (l : Launch) (D : va_G) (cI cL : ClassId) (q0 : Nat) (sz : Nat) : Met l yX6_init wsX6_init rm_X6_init (PcW D cI cL [.ref q0] [(q0, .inr (6, [.null, .int (0 : Int32), .int (0 : Int32), .int (0 : Int32), .int (0 : Int32), .long (0 : Int64), .long (0 : Int64), .int (0 : Int32)]))] sz) (QvW D [(q0, .inr (6, [.null, .int (0 : Int32), .int (0 : Int32), .int (0 : Int32), .int (0 : Int32), .long (0 : Int64), .long (0 : Int64), .int (0 : Int32)]))] (fun u : Nat => [(q0, .inr (6, [.ref u, .int (0 : Int32), .int (0 : Int32), .int (0 : Int32), .int (0 : Int32), .long (0 : Int64), .long (0 : Int64), .int (0 : Int32)])), (u, .inl (cI, 500, .inl (fun _ => (0 : Int32))))]) (fun _ => True) sz) 1 500 (va_A [(q0, .inr (6, [.null, .int (0 : Int32), .int (0 : Int32), .int (0 : Int32), .int (0 : Int32), .long (0 : Int64), .long (0 : Int64), .int (0 : Int32)]))] sz) := by
  refine Met.ofW (cc := cX6_init) (maxL := 1) (ret := none) (by decide) rfl ?_
  intro p e s m args below meth c s₁ B hml hv
  obtain ⟨hargs, hsz, hP, hEV, hD0⟩ := hv
  have hx := B.exec
  have hb := B.bytes
  have hr := B.returns
  have hts := atoms_spec (ws := wsX6_init) B.pre
  have hown : s.vm.findClass RX6 = some m.cls := findClass_of_methodNamed B.named
  have hlocks := B.notSynchronized
  have hin : meth.name = "<init>" := (name_of_methodNamed B.named B.method).1
  have hK := hEV.K
  have lk_0 := hts _ lk_0_X6_init
  have lk_1 := hts _ lk_1_X6_init
  have lk_2 := hts _ lk_2_X6_init
  have lk_3 := hts _ lk_3_X6_init
  have lk_4 := hts _ lk_4_X6_init
  subst hsz
  unfold QvW PoW
  have hD := hD0.self (sz := s.heap.size)
  generalize hAe : va_A [(q0, .inr (6, [.null, .int (0 : Int32), .int (0 : Int32), .int (0 : Int32), .int (0 : Int32), .long (0 : Int64), .long (0 : Int64), .int (0 : Int32)]))] s.heap.size = A at hD ⊢
  have hA : ∀ q : Nat, s.heap.size ≤ q → A q := fun q h => by rw [← hAe]; exact Or.inr h
  have hent : entryFrame m args 1 = entryFrame m ([.ref q0] : List Value).toArray 1 := by rw [hargs]
  rw [hent]
  refine kx_Q (fun Q hQ => ?_)
  refine kx_H (fun H hH => ?_)
  have hP : va_P D vwCl [(q0, .inr (6, [.null, .int (0 : Int32), .int (0 : Int32), .int (0 : Int32), .int (0 : Int32), .long (0 : Int64), .long (0 : Int64), .int (0 : Int32)]))] H := by rw [hH]; exact hP
  have hS : va_S A s.heap H [] := by rw [hH]; exact va_S.rf
  have hl := lv_entry ([.ref q0]) (n := 1) (Nat.le_of_ble_eq_true rfl)
  rw [lg_entry_eq]
  generalize (lg_sl ([.ref q0]) ++ List.replicate (1 - (lg_sl ([.ref q0])).length) Slot.unset).toArray = ls at hl ⊢
  have hl : lv_has ls 1 [(0, .ref q0)] := hl
  refine lv_aload_n hx hb dX6_init_0 rfl (lv_at hl 0 rfl) ?_
  refine W.objInit hx hb hown lk_0 lk_1 lk_2 rfl (by rw [hml]; exact hl.1) rfl dX6_init_1 (Nat.le_of_ble_eq_true rfl) (Nat.le_of_ble_eq_true rfl) ?_
  refine W.eq (g2 := F0 m 4 ls []) rfl ?_
  refine lv_aload_n hx hb dX6_init_4 rfl (lv_at hl 0 rfl) ?_
  refine lv_sipush (v := (500 : Int32)) hx hb dX6_init_5 (by decide) ?_
  refine kz_newi (N' := 500) hx hb lk_3 hEV hP hD hS hA rfl (by decide) (Nat.le_of_ble_eq_true rfl) (Nat.le_of_ble_eq_true rfl) dX6_init_8 (fun q_1 H hP hD hS => ?_)
  have hP : va_P D vwCl [(q0, .inr (6, [.null, .int (0 : Int32), .int (0 : Int32), .int (0 : Int32), .int (0 : Int32), .long (0 : Int64), .long (0 : Int64), .int (0 : Int32)])), (q_1, .inl (cI, 500, .inl (fun _ => (0 : Int32))))] H := hP
  have hD : va_D A [(q0, .inr (6, [.null, .int (0 : Int32), .int (0 : Int32), .int (0 : Int32), .int (0 : Int32), .long (0 : Int64), .long (0 : Int64), .int (0 : Int32)])), (q_1, .inl (cI, 500, .inl (fun _ => (0 : Int32))))] := hD
  refine W.widen (k := 1) (n := 500) (by decide) (by decide) ?_
  refine va_putF (D := D) (ci := 6) (v := .ref q_1) (ty := .array .int) (C := RX6) (T := TX6) (N := 8) hx hb hts in_X6_init_X6 tyX6 tyX6_ok nmX6 hown hK hP hD hS 0 rfl rfl 0 (by decide) lk_4 (fun _ h9 => h9) rfl hin rfl (by decide +kernel) rfl rfl (Nat.le_of_ble_eq_true rfl) dX6_init_10 (fun H locs hP hD hS => ?_)
  have hP : va_P D vwCl [(q0, .inr (6, [.ref q_1, .int (0 : Int32), .int (0 : Int32), .int (0 : Int32), .int (0 : Int32), .long (0 : Int64), .long (0 : Int64), .int (0 : Int32)])), (q_1, .inl (cI, 500, .inl (fun _ => (0 : Int32))))] H := hP
  have hD : va_D A [(q0, .inr (6, [.ref q_1, .int (0 : Int32), .int (0 : Int32), .int (0 : Int32), .int (0 : Int32), .long (0 : Int64), .long (0 : Int64), .int (0 : Int32)])), (q_1, .inl (cI, 500, .inl (fun _ => (0 : Int32))))] := hD
  have hP9 := hP.sub (ws' := [(q0, .inr (6, [.ref q_1, .int (0 : Int32), .int (0 : Int32), .int (0 : Int32), .int (0 : Int32), .long (0 : Int64), .long (0 : Int64), .int (0 : Int32)])), (q_1, .inl (cI, 500, .inl (fun _ => (0 : Int32))))]) [0, 1] rfl
  have hD9 := hD.sub (ws' := [(q0, .inr (6, [.ref q_1, .int (0 : Int32), .int (0 : Int32), .int (0 : Int32), .int (0 : Int32), .long (0 : Int64), .long (0 : Int64), .int (0 : Int32)])), (q_1, .inl (cI, 500, .inl (fun _ => (0 : Int32))))]) [0, 1] (by decide) rfl
  refine W.widen (k := 1) (n := 500) (by decide) (by decide) ?_
  subst hQ
  exact W.vret hx hb hr (fun t ht hW => ⟨⟨q_1, rfl, trivial, by rw [ht]; exact hP9, hD9⟩, hS.F ht⟩) hS.2.2 dX6_init_13

theorem in_X5_init_X2 : ∀ w ∈ wsX20, w ∈ wsX5_init := by decide +kernel
theorem in_X5_init_X5 : ∀ w ∈ wsX50, w ∈ wsX5_init := by decide +kernel
theorem lk_0_X5_init : Cond.methodLink RX5 3 objectInit ∈ wsX5_init := by decide +kernel
theorem lk_1_X5_init : Cond.instanceMethod objectInit ∈ wsX5_init := by decide +kernel
theorem lk_2_X5_init : Cond.code objectInit ⟨#[0xb1]⟩ 1 none ∈ wsX5_init := by decide +kernel
theorem lk_3_X5_init : Cond.fieldLink RX5 9 "ParityClauses$Taking" "n" "I" ∈ wsX5_init := by decide +kernel
theorem lk_4_X5_init : Cond.classLink RX5 15 RX2 ∈ wsX5_init := by decide +kernel
theorem lk_5_X5_init : Cond.instantiable RX2 3 ∈ wsX5_init := by decide +kernel
theorem lk_6_X5_init : Cond.initialized RX2 ∈ wsX5_init := by decide +kernel
theorem lk_7_X5_init : Cond.methodLink RX5 17 yX2_init ∈ wsX5_init := by decide +kernel
theorem lk_8_X5_init : Cond.instanceMethod yX2_init ∈ wsX5_init := by decide +kernel
theorem lk_9_X5_init : Cond.fieldLink RX5 20 "ParityClauses$Taking" "rows" "LParityClauses$Rows;" ∈ wsX5_init := by decide +kernel
abbrev rm_X5_init : Room := { frames := 2, cells := 2, slots := 43, locals := 45 }
abbrev wc_X5_init (cI cL : ClassId) (q0 : Nat) (x1 : Int32) (N : Nat) (u : Nat × Nat) : va_W := [(q0, .inr (5, [.int x1, .ref u.1, .long (0 : Int64), .long (0 : Int64)])), (u.1, .inr (2, [.int x1, .ref u.2, .int (0 : Int32)])), (u.2, .inl (cL, N, .inr (.inl (fun _ => (0 : Int64)))))]
set_option maxHeartbeats 4000000 in
set_option maxRecDepth 100000 in
theorem cm_X5_init (l : Launch) (D : va_G) (cI cL : ClassId) (q0 : Nat) (x1 : Int32) (N : Nat) (hN : N ≤ 40) (hx1 : x1 = nI N) (sz : Nat) : Met l yX5_init wsX5_init rm_X5_init (PcW D cI cL [.ref q0, .int x1] [(q0, .inr (5, [.int (0 : Int32), .null, .long (0 : Int64), .long (0 : Int64)]))] sz) (QvW D [(q0, .inr (5, [.int (0 : Int32), .null, .long (0 : Int64), .long (0 : Int64)]))] (fun u : Nat × Nat => [(q0, .inr (5, [.int x1, .ref u.1, .long (0 : Int64), .long (0 : Int64)])), (u.1, .inr (2, [.int x1, .ref u.2, .int (0 : Int32)])), (u.2, .inl (cL, N, .inr (.inl (fun _ => (0 : Int64)))))]) (fun _ => True) sz) 2 43 (va_A [(q0, .inr (5, [.int (0 : Int32), .null, .long (0 : Int64), .long (0 : Int64)]))] sz) := by
  refine Met.ofW (cc := cX5_init) (maxL := 2) (ret := none) (by decide) rfl ?_
  intro p e s m args below meth c s₁ B hml hv
  obtain ⟨hargs, hsz, hP, hEV, hD0⟩ := hv
  have hx := B.exec
  have hb := B.bytes
  have hr := B.returns
  have hts := atoms_spec (ws := wsX5_init) B.pre
  have hown : s.vm.findClass RX5 = some m.cls := findClass_of_methodNamed B.named
  have hlocks := B.notSynchronized
  have hin : meth.name = "<init>" := (name_of_methodNamed B.named B.method).1
  have hK := hEV.K
  have lk_0 := hts _ lk_0_X5_init
  have lk_1 := hts _ lk_1_X5_init
  have lk_2 := hts _ lk_2_X5_init
  have lk_3 := hts _ lk_3_X5_init
  have lk_4 := hts _ lk_4_X5_init
  have lk_5 := hts _ lk_5_X5_init
  have lk_6 := hts _ lk_6_X5_init
  have lk_7 := hts _ lk_7_X5_init
  have lk_8 := hts _ lk_8_X5_init
  have lk_9 := hts _ lk_9_X5_init
  subst hsz
  unfold QvW PoW
  have hD := hD0.self (sz := s.heap.size)
  generalize hAe : va_A [(q0, .inr (5, [.int (0 : Int32), .null, .long (0 : Int64), .long (0 : Int64)]))] s.heap.size = A at hD ⊢
  have hA : ∀ q : Nat, s.heap.size ≤ q → A q := fun q h => by rw [← hAe]; exact Or.inr h
  have hent : entryFrame m args 2 = entryFrame m ([.ref q0, .int x1] : List Value).toArray 2 := by rw [hargs]
  rw [hent]
  refine kx_Q (fun Q hQ => ?_)
  refine kx_H (fun H hH => ?_)
  have hP : va_P D vwCl [(q0, .inr (5, [.int (0 : Int32), .null, .long (0 : Int64), .long (0 : Int64)]))] H := by rw [hH]; exact hP
  have hS : va_S A s.heap H [] := by rw [hH]; exact va_S.rf
  have hl := lv_entry ([.ref q0, .int x1]) (n := 2) (Nat.le_of_ble_eq_true rfl)
  rw [lg_entry_eq]
  generalize (lg_sl ([.ref q0, .int x1]) ++ List.replicate (2 - (lg_sl ([.ref q0, .int x1])).length) Slot.unset).toArray = ls at hl ⊢
  have hl : lv_has ls 2 [(0, .ref q0), (1, .int x1)] := hl
  refine lv_aload_n hx hb dX5_init_0 rfl (lv_at hl 0 rfl) ?_
  refine W.objInit hx hb hown lk_0 lk_1 lk_2 rfl (by rw [hml]; exact hl.1) rfl dX5_init_1 (Nat.le_of_ble_eq_true rfl) (Nat.le_of_ble_eq_true rfl) ?_
  refine W.eq (g2 := F0 m 4 ls []) rfl ?_
  refine lv_aload_n hx hb dX5_init_4 rfl (lv_at hl 0 rfl) ?_
  refine lv_iload_n hx hb dX5_init_5 rfl (lv_at hl 1 rfl) ?_
  refine va_putF (D := D) (ci := 5) (v := .int x1) (ty := .int) (C := RX5) (T := TX5) (N := 4) hx hb hts in_X5_init_X5 tyX5 tyX5_ok nmX5 hown hK hP hD hS 0 rfl rfl 0 (by decide) lk_3 (fun _ h9 => h9) rfl hin rfl (by decide +kernel) rfl rfl (Nat.le_of_ble_eq_true rfl) dX5_init_6 (fun H locs hP hD hS => ?_)
  have hP : va_P D vwCl [(q0, .inr (5, [.int x1, .null, .long (0 : Int64), .long (0 : Int64)]))] H := hP
  have hD : va_D A [(q0, .inr (5, [.int x1, .null, .long (0 : Int64), .long (0 : Int64)]))] := hD
  refine lv_aload_n hx hb dX5_init_9 rfl (lv_at hl 0 rfl) ?_
  refine va_new (ci := 2) (fs := [.int (0 : Int32), .null, .int (0 : Int32)]) (C := RX2) (T := TX2) (N := 3) hx hb hts in_X5_init_X2 tyX2 tyX2_ok hown lk_4 lk_5 lk_6 hK hP hD hS hA rfl (by decide) (Nat.le_of_ble_eq_true rfl) (Nat.le_of_ble_eq_true rfl) dX5_init_10 (fun q_1 H hP hD hS => ?_)
  have hP : va_P D vwCl [(q0, .inr (5, [.int x1, .null, .long (0 : Int64), .long (0 : Int64)])), (q_1, .inr (2, [.int (0 : Int32), .null, .int (0 : Int32)]))] H := hP
  have hD : va_D A [(q0, .inr (5, [.int x1, .null, .long (0 : Int64), .long (0 : Int64)])), (q_1, .inr (2, [.int (0 : Int32), .null, .int (0 : Int32)]))] := hD
  refine W.widen (k := 1) (n := 3) (by decide) (by decide) ?_
  refine lv_dup hx hb dX5_init_13 rfl ?_
  refine lv_iload_n hx hb dX5_init_14 rfl (lv_at hl 1 rfl) ?_
  refine kx_v (ws' := fun u_2 => [(q0, .inr (5, [.int x1, .null, .long (0 : Int64), .long (0 : Int64)])), (q_1, .inr (2, [.int x1, .ref u_2, .int (0 : Int32)])), (u_2, .inl (cL, N, .inr (.inl (fun _ => (0 : Int64)))))]) hP hD hS hA [1] [0] [0, 1, 2] rfl rfl (by decide) (by decide) (fun _ => rfl) (by decide) (va_runI (As := [.int x1]) (rest := [.ref q_1, .ref q0]) ⟨hx, hb, hml, hown, hts⟩ (cm_X2_init l D cI cL (q0 := q_1) (x1 := x1) (N := N) (hN := hN) (hx1 := hx1) (sz := H.size)) (cwI 1 hts gX5_init_X2_init rfl rfl rfl lk_6 lk_7 lk_8 rfl (by decide +kernel) ⟨Nat.le_of_ble_eq_true rfl, Nat.le_of_ble_eq_true rfl⟩) (kx_preS hEV hP hD [1] rfl (by decide)) rfl rfl hl.1 rfl (lv_room (Nat.le_of_ble_eq_true rfl)) dX5_init_15 ⟨Nat.le_of_ble_eq_true rfl, Nat.le_of_ble_eq_true rfl⟩) (fun u_2 H locs _ hP hD hS => ?_)
  refine W.widen (k := 2) (n := 43) (by decide) (by decide) ?_
  refine va_putF (D := D) (ci := 5) (v := .ref q_1) (ty := .object "ParityClauses$Rows") (C := RX5) (T := TX5) (N := 4) hx hb hts in_X5_init_X5 tyX5 tyX5_ok nmX5 hown hK hP hD hS 0 rfl rfl 1 (by decide) lk_9 (fun _ h9 => h9) rfl hin rfl (by decide +kernel) rfl rfl (Nat.le_of_ble_eq_true rfl) dX5_init_18 (fun H locs hP hD hS => ?_)
  have hP : va_P D vwCl [(q0, .inr (5, [.int x1, .ref q_1, .long (0 : Int64), .long (0 : Int64)])), (q_1, .inr (2, [.int x1, .ref u_2, .int (0 : Int32)])), (u_2, .inl (cL, N, .inr (.inl (fun _ => (0 : Int64)))))] H := hP
  have hD : va_D A [(q0, .inr (5, [.int x1, .ref q_1, .long (0 : Int64), .long (0 : Int64)])), (q_1, .inr (2, [.int x1, .ref u_2, .int (0 : Int32)])), (u_2, .inl (cL, N, .inr (.inl (fun _ => (0 : Int64)))))] := hD
  have hP9 := hP.sub (ws' := [(q0, .inr (5, [.int x1, .ref q_1, .long (0 : Int64), .long (0 : Int64)])), (q_1, .inr (2, [.int x1, .ref u_2, .int (0 : Int32)])), (u_2, .inl (cL, N, .inr (.inl (fun _ => (0 : Int64)))))]) [0, 1, 2] rfl
  have hD9 := hD.sub (ws' := [(q0, .inr (5, [.int x1, .ref q_1, .long (0 : Int64), .long (0 : Int64)])), (q_1, .inr (2, [.int x1, .ref u_2, .int (0 : Int32)])), (u_2, .inl (cL, N, .inr (.inl (fun _ => (0 : Int64)))))]) [0, 1, 2] (by decide) rfl
  refine W.widen (k := 2) (n := 43) (by decide) (by decide) ?_
  subst hQ
  exact W.vret hx hb hr (fun t ht hW => ⟨⟨(q_1, u_2), rfl, trivial, by rw [ht]; exact hP9, hD9⟩, hS.F ht⟩) hS.2.2 dX5_init_21

