theorem in_X3_init_X3 : ∀ w ∈ wsX30, w ∈ wsX3_init := by decide +kernel
theorem in_X3_init_X5 : ∀ w ∈ wsX50, w ∈ wsX3_init := by decide +kernel
theorem lk_0_X3_init : Cond.methodLink RX3 1 objectInit ∈ wsX3_init := by decide +kernel
theorem lk_1_X3_init : Cond.instanceMethod objectInit ∈ wsX3_init := by decide +kernel
theorem lk_2_X3_init : Cond.code objectInit ⟨#[0xb1]⟩ 1 none ∈ wsX3_init := by decide +kernel
theorem lk_3_X3_init : Cond.fieldLink RX3 7 "ParityClauses$Search" "n" "I" ∈ wsX3_init := by decide +kernel
theorem lk_4_X3_init : Cond.classLink RX3 13 RX5 ∈ wsX3_init := by decide +kernel
theorem lk_5_X3_init : Cond.instantiable RX5 4 ∈ wsX3_init := by decide +kernel
theorem lk_6_X3_init : Cond.initialized RX5 ∈ wsX3_init := by decide +kernel
theorem lk_7_X3_init : Cond.methodLink RX3 15 yX5_init ∈ wsX3_init := by decide +kernel
theorem lk_8_X3_init : Cond.instanceMethod yX5_init ∈ wsX3_init := by decide +kernel
theorem lk_9_X3_init : Cond.fieldLink RX3 18 "ParityClauses$Search" "start" "LParityClauses$Taking;" ∈ wsX3_init := by decide +kernel
theorem lk_10_X3_init : Cond.arrayClass .long ∈ wsX3_init := by decide +kernel
theorem lk_11_X3_init : Cond.fieldLink RX3 22 "ParityClauses$Search" "pileRows" "[J" ∈ wsX3_init := by decide +kernel
theorem lk_12_X3_init : Cond.fieldLink RX3 26 "ParityClauses$Search" "pileTaken" "[J" ∈ wsX3_init := by decide +kernel
theorem lk_13_X3_init : Cond.fieldLink RX3 29 "ParityClauses$Search" "pileOnes" "[J" ∈ wsX3_init := by decide +kernel
abbrev rm_X3_init : Room := { frames := 3, cells := 6, slots := 1727, locals := 66 }
abbrev wc_X3_init (cI cL : ClassId) (q0 : Nat) (x1 : Int32) (N : Nat) (u : Nat × Nat × Nat × Nat × Nat × Nat) : va_W := [(q0, .inr (3, [.int x1, .ref u.1, .ref u.2.2.2.1, .ref u.2.2.2.2.1, .ref u.2.2.2.2.2, .int (0 : Int32), .int (0 : Int32), .int (0 : Int32), .long (0 : Int64), .int (0 : Int32)])), (u.1, .inr (5, [.int x1, .ref u.2.1, .long (0 : Int64), .long (0 : Int64)])), (u.2.1, .inr (2, [.int x1, .ref u.2.2.1, .int (0 : Int32)])), (u.2.2.1, .inl (cL, N, .inr (.inl (fun _ => (0 : Int64))))), (u.2.2.2.1, .inl (cL, (N * N), .inr (.inl (fun _ => (0 : Int64))))), (u.2.2.2.2.1, .inl (cL, N, .inr (.inl (fun _ => (0 : Int64))))), (u.2.2.2.2.2, .inl (cL, N, .inr (.inl (fun _ => (0 : Int64)))))]
set_option maxHeartbeats 4000000 in
set_option maxRecDepth 100000 in
theorem cm_X3_init (l : Launch) (D : va_G) (cI cL : ClassId) (q0 : Nat) (x1 : Int32) (N : Nat) (hN : N ≤ 40) (hx1 : x1 = nI N) (sz : Nat) : Met l yX3_init wsX3_init rm_X3_init (PcW D cI cL [.ref q0, .int x1] [(q0, .inr (3, [.int (0 : Int32), .null, .null, .null, .null, .int (0 : Int32), .int (0 : Int32), .int (0 : Int32), .long (0 : Int64), .int (0 : Int32)]))] sz) (QvW D [(q0, .inr (3, [.int (0 : Int32), .null, .null, .null, .null, .int (0 : Int32), .int (0 : Int32), .int (0 : Int32), .long (0 : Int64), .int (0 : Int32)]))] (fun u : Nat × Nat × Nat × Nat × Nat × Nat => [(q0, .inr (3, [.int x1, .ref u.1, .ref u.2.2.2.1, .ref u.2.2.2.2.1, .ref u.2.2.2.2.2, .int (0 : Int32), .int (0 : Int32), .int (0 : Int32), .long (0 : Int64), .int (0 : Int32)])), (u.1, .inr (5, [.int x1, .ref u.2.1, .long (0 : Int64), .long (0 : Int64)])), (u.2.1, .inr (2, [.int x1, .ref u.2.2.1, .int (0 : Int32)])), (u.2.2.1, .inl (cL, N, .inr (.inl (fun _ => (0 : Int64))))), (u.2.2.2.1, .inl (cL, (N * N), .inr (.inl (fun _ => (0 : Int64))))), (u.2.2.2.2.1, .inl (cL, N, .inr (.inl (fun _ => (0 : Int64))))), (u.2.2.2.2.2, .inl (cL, N, .inr (.inl (fun _ => (0 : Int64)))))]) (fun _ => True) sz) 6 1727 (va_A [(q0, .inr (3, [.int (0 : Int32), .null, .null, .null, .null, .int (0 : Int32), .int (0 : Int32), .int (0 : Int32), .long (0 : Int64), .int (0 : Int32)]))] sz) := by
  refine Met.ofW (cc := cX3_init) (maxL := 2) (ret := none) (by decide) rfl ?_
  intro p e s m args below meth c s₁ B hml hv
  obtain ⟨hargs, hsz, hP, hEV, hD0⟩ := hv
  have hx := B.exec
  have hb := B.bytes
  have hr := B.returns
  have hts := atoms_spec (ws := wsX3_init) B.pre
  have hown : s.vm.findClass RX3 = some m.cls := findClass_of_methodNamed B.named
  have hlocks := B.notSynchronized
  have hin : meth.name = "<init>" := (name_of_methodNamed B.named B.method).1
  have hK := hEV.K
  have lk_0 := hts _ lk_0_X3_init
  have lk_1 := hts _ lk_1_X3_init
  have lk_2 := hts _ lk_2_X3_init
  have lk_3 := hts _ lk_3_X3_init
  have lk_4 := hts _ lk_4_X3_init
  have lk_5 := hts _ lk_5_X3_init
  have lk_6 := hts _ lk_6_X3_init
  have lk_7 := hts _ lk_7_X3_init
  have lk_8 := hts _ lk_8_X3_init
  have lk_9 := hts _ lk_9_X3_init
  have lk_10 := hts _ lk_10_X3_init
  have lk_11 := hts _ lk_11_X3_init
  have lk_12 := hts _ lk_12_X3_init
  have lk_13 := hts _ lk_13_X3_init
  subst hsz
  unfold QvW PoW
  have hD := hD0.self (sz := s.heap.size)
  generalize hAe : va_A [(q0, .inr (3, [.int (0 : Int32), .null, .null, .null, .null, .int (0 : Int32), .int (0 : Int32), .int (0 : Int32), .long (0 : Int64), .int (0 : Int32)]))] s.heap.size = A at hD ⊢
  have hA : ∀ q : Nat, s.heap.size ≤ q → A q := fun q h => by rw [← hAe]; exact Or.inr h
  have hent : entryFrame m args 2 = entryFrame m ([.ref q0, .int x1] : List Value).toArray 2 := by rw [hargs]
  rw [hent]
  refine kx_Q (fun Q hQ => ?_)
  refine kx_H (fun H hH => ?_)
  have hP : va_P D vwCl [(q0, .inr (3, [.int (0 : Int32), .null, .null, .null, .null, .int (0 : Int32), .int (0 : Int32), .int (0 : Int32), .long (0 : Int64), .int (0 : Int32)]))] H := by rw [hH]; exact hP
  have hS : va_S A s.heap H [] := by rw [hH]; exact va_S.rf
  have hl := lv_entry ([.ref q0, .int x1]) (n := 2) (Nat.le_of_ble_eq_true rfl)
  rw [lg_entry_eq]
  generalize (lg_sl ([.ref q0, .int x1]) ++ List.replicate (2 - (lg_sl ([.ref q0, .int x1])).length) Slot.unset).toArray = ls at hl ⊢
  have hl : lv_has ls 2 [(0, .ref q0), (1, .int x1)] := hl
  refine lv_aload_n hx hb dX3_init_0 rfl (lv_at hl 0 rfl) ?_
  refine W.objInit hx hb hown lk_0 lk_1 lk_2 rfl (by rw [hml]; exact hl.1) rfl dX3_init_1 (Nat.le_of_ble_eq_true rfl) (Nat.le_of_ble_eq_true rfl) ?_
  refine W.eq (g2 := F0 m 4 ls []) rfl ?_
  refine lv_aload_n hx hb dX3_init_4 rfl (lv_at hl 0 rfl) ?_
  refine lv_iload_n hx hb dX3_init_5 rfl (lv_at hl 1 rfl) ?_
  refine va_putF (D := D) (ci := 3) (v := .int x1) (ty := .int) (C := RX3) (T := TX3) (N := 10) hx hb hts in_X3_init_X3 tyX3 tyX3_ok nmX3 hown hK hP hD hS 0 rfl rfl 0 (by decide) lk_3 (fun _ h9 => h9) rfl hin rfl (by decide +kernel) rfl rfl (Nat.le_of_ble_eq_true rfl) dX3_init_6 (fun H locs hP hD hS => ?_)
  have hP : va_P D vwCl [(q0, .inr (3, [.int x1, .null, .null, .null, .null, .int (0 : Int32), .int (0 : Int32), .int (0 : Int32), .long (0 : Int64), .int (0 : Int32)]))] H := hP
  have hD : va_D A [(q0, .inr (3, [.int x1, .null, .null, .null, .null, .int (0 : Int32), .int (0 : Int32), .int (0 : Int32), .long (0 : Int64), .int (0 : Int32)]))] := hD
  refine lv_aload_n hx hb dX3_init_9 rfl (lv_at hl 0 rfl) ?_
  refine va_new (ci := 5) (fs := [.int (0 : Int32), .null, .long (0 : Int64), .long (0 : Int64)]) (C := RX5) (T := TX5) (N := 4) hx hb hts in_X3_init_X5 tyX5 tyX5_ok hown lk_4 lk_5 lk_6 hK hP hD hS hA rfl (by decide) (Nat.le_of_ble_eq_true rfl) (Nat.le_of_ble_eq_true rfl) dX3_init_10 (fun q_1 H hP hD hS => ?_)
  have hP : va_P D vwCl [(q0, .inr (3, [.int x1, .null, .null, .null, .null, .int (0 : Int32), .int (0 : Int32), .int (0 : Int32), .long (0 : Int64), .int (0 : Int32)])), (q_1, .inr (5, [.int (0 : Int32), .null, .long (0 : Int64), .long (0 : Int64)]))] H := hP
  have hD : va_D A [(q0, .inr (3, [.int x1, .null, .null, .null, .null, .int (0 : Int32), .int (0 : Int32), .int (0 : Int32), .long (0 : Int64), .int (0 : Int32)])), (q_1, .inr (5, [.int (0 : Int32), .null, .long (0 : Int64), .long (0 : Int64)]))] := hD
  refine W.widen (k := 1) (n := 4) (by decide) (by decide) ?_
  refine lv_dup hx hb dX3_init_13 rfl ?_
  refine lv_iload_n hx hb dX3_init_14 rfl (lv_at hl 1 rfl) ?_
  refine kx_v (ws' := fun u_2 => [(q0, .inr (3, [.int x1, .null, .null, .null, .null, .int (0 : Int32), .int (0 : Int32), .int (0 : Int32), .long (0 : Int64), .int (0 : Int32)])), (q_1, .inr (5, [.int x1, .ref u_2.1, .long (0 : Int64), .long (0 : Int64)])), (u_2.1, .inr (2, [.int x1, .ref u_2.2, .int (0 : Int32)])), (u_2.2, .inl (cL, N, .inr (.inl (fun _ => (0 : Int64)))))]) hP hD hS hA [1] [0] [0, 1, 2, 3] rfl rfl (by decide) (by decide) (fun _ => rfl) (by decide) (va_runI (As := [.int x1]) (rest := [.ref q_1, .ref q0]) ⟨hx, hb, hml, hown, hts⟩ (cm_X5_init l D cI cL (q0 := q_1) (x1 := x1) (N := N) (hN := hN) (hx1 := hx1) (sz := H.size)) (cwI 1 hts gX3_init_X5_init rfl rfl rfl lk_6 lk_7 lk_8 rfl (by decide +kernel) ⟨Nat.le_of_ble_eq_true rfl, Nat.le_of_ble_eq_true rfl⟩) (kx_preS hEV hP hD [1] rfl (by decide)) rfl rfl hl.1 rfl (lv_room (Nat.le_of_ble_eq_true rfl)) dX3_init_15 ⟨Nat.le_of_ble_eq_true rfl, Nat.le_of_ble_eq_true rfl⟩) (fun u_2 H locs _ hP hD hS => ?_)
  refine W.widen (k := 3) (n := 47) (by decide) (by decide) ?_
  refine va_putF (D := D) (ci := 3) (v := .ref q_1) (ty := .object "ParityClauses$Taking") (C := RX3) (T := TX3) (N := 10) hx hb hts in_X3_init_X3 tyX3 tyX3_ok nmX3 hown hK hP hD hS 0 rfl rfl 1 (by decide) lk_9 (fun _ h9 => h9) rfl hin rfl (by decide +kernel) rfl rfl (Nat.le_of_ble_eq_true rfl) dX3_init_18 (fun H locs hP hD hS => ?_)
  have hP : va_P D vwCl [(q0, .inr (3, [.int x1, .ref q_1, .null, .null, .null, .int (0 : Int32), .int (0 : Int32), .int (0 : Int32), .long (0 : Int64), .int (0 : Int32)])), (q_1, .inr (5, [.int x1, .ref u_2.1, .long (0 : Int64), .long (0 : Int64)])), (u_2.1, .inr (2, [.int x1, .ref u_2.2, .int (0 : Int32)])), (u_2.2, .inl (cL, N, .inr (.inl (fun _ => (0 : Int64)))))] H := hP
  have hD : va_D A [(q0, .inr (3, [.int x1, .ref q_1, .null, .null, .null, .int (0 : Int32), .int (0 : Int32), .int (0 : Int32), .long (0 : Int64), .int (0 : Int32)])), (q_1, .inr (5, [.int x1, .ref u_2.1, .long (0 : Int64), .long (0 : Int64)])), (u_2.1, .inr (2, [.int x1, .ref u_2.2, .int (0 : Int32)])), (u_2.2, .inl (cL, N, .inr (.inl (fun _ => (0 : Int64)))))] := hD
  refine lv_aload_n hx hb dX3_init_21 rfl (lv_at hl 0 rfl) ?_
  refine lv_iload_n hx hb dX3_init_22 rfl (lv_at hl 1 rfl) ?_
  refine lv_iload_n hx hb dX3_init_23 rfl (lv_at hl 1 rfl) ?_
  refine lv_imul hx hb dX3_init_24 ?_
  refine kz_newl (N' := (N * N)) hx hb lk_10 hEV hP hD hS hA (by rw [hx1]; exact pk_mul N N) (by have := Nat.mul_le_mul hN hN; omega) (Nat.le_of_ble_eq_true rfl) (by have := Nat.mul_le_mul hN hN; show 47 + N * N ≤ 1727; omega) dX3_init_25 (fun q_3 H hP hD hS => ?_)
  have hP : va_P D vwCl [(q0, .inr (3, [.int x1, .ref q_1, .null, .null, .null, .int (0 : Int32), .int (0 : Int32), .int (0 : Int32), .long (0 : Int64), .int (0 : Int32)])), (q_1, .inr (5, [.int x1, .ref u_2.1, .long (0 : Int64), .long (0 : Int64)])), (u_2.1, .inr (2, [.int x1, .ref u_2.2, .int (0 : Int32)])), (u_2.2, .inl (cL, N, .inr (.inl (fun _ => (0 : Int64))))), (q_3, .inl (cL, (N * N), .inr (.inl (fun _ => (0 : Int64)))))] H := hP
  have hD : va_D A [(q0, .inr (3, [.int x1, .ref q_1, .null, .null, .null, .int (0 : Int32), .int (0 : Int32), .int (0 : Int32), .long (0 : Int64), .int (0 : Int32)])), (q_1, .inr (5, [.int x1, .ref u_2.1, .long (0 : Int64), .long (0 : Int64)])), (u_2.1, .inr (2, [.int x1, .ref u_2.2, .int (0 : Int32)])), (u_2.2, .inl (cL, N, .inr (.inl (fun _ => (0 : Int64))))), (q_3, .inl (cL, (N * N), .inr (.inl (fun _ => (0 : Int64)))))] := hD
  refine W.widen (k := 4) (n := 1647) (by decide) (by have := Nat.mul_le_mul hN hN; omega) ?_
  refine va_putF (D := D) (ci := 3) (v := .ref q_3) (ty := .array .long) (C := RX3) (T := TX3) (N := 10) hx hb hts in_X3_init_X3 tyX3 tyX3_ok nmX3 hown hK hP hD hS 0 rfl rfl 2 (by decide) lk_11 (fun _ h9 => h9) rfl hin rfl (by decide +kernel) rfl rfl (Nat.le_of_ble_eq_true rfl) dX3_init_27 (fun H locs hP hD hS => ?_)
  have hP : va_P D vwCl [(q0, .inr (3, [.int x1, .ref q_1, .ref q_3, .null, .null, .int (0 : Int32), .int (0 : Int32), .int (0 : Int32), .long (0 : Int64), .int (0 : Int32)])), (q_1, .inr (5, [.int x1, .ref u_2.1, .long (0 : Int64), .long (0 : Int64)])), (u_2.1, .inr (2, [.int x1, .ref u_2.2, .int (0 : Int32)])), (u_2.2, .inl (cL, N, .inr (.inl (fun _ => (0 : Int64))))), (q_3, .inl (cL, (N * N), .inr (.inl (fun _ => (0 : Int64)))))] H := hP
  have hD : va_D A [(q0, .inr (3, [.int x1, .ref q_1, .ref q_3, .null, .null, .int (0 : Int32), .int (0 : Int32), .int (0 : Int32), .long (0 : Int64), .int (0 : Int32)])), (q_1, .inr (5, [.int x1, .ref u_2.1, .long (0 : Int64), .long (0 : Int64)])), (u_2.1, .inr (2, [.int x1, .ref u_2.2, .int (0 : Int32)])), (u_2.2, .inl (cL, N, .inr (.inl (fun _ => (0 : Int64))))), (q_3, .inl (cL, (N * N), .inr (.inl (fun _ => (0 : Int64)))))] := hD
  refine lv_aload_n hx hb dX3_init_30 rfl (lv_at hl 0 rfl) ?_
  refine lv_iload_n hx hb dX3_init_31 rfl (lv_at hl 1 rfl) ?_
  refine kz_newl (N' := N) hx hb lk_10 hEV hP hD hS hA hx1 (by omega) (Nat.le_of_ble_eq_true rfl) (by show 1647 + N ≤ 1727; omega) dX3_init_32 (fun q_4 H hP hD hS => ?_)
  have hP : va_P D vwCl [(q0, .inr (3, [.int x1, .ref q_1, .ref q_3, .null, .null, .int (0 : Int32), .int (0 : Int32), .int (0 : Int32), .long (0 : Int64), .int (0 : Int32)])), (q_1, .inr (5, [.int x1, .ref u_2.1, .long (0 : Int64), .long (0 : Int64)])), (u_2.1, .inr (2, [.int x1, .ref u_2.2, .int (0 : Int32)])), (u_2.2, .inl (cL, N, .inr (.inl (fun _ => (0 : Int64))))), (q_3, .inl (cL, (N * N), .inr (.inl (fun _ => (0 : Int64))))), (q_4, .inl (cL, N, .inr (.inl (fun _ => (0 : Int64)))))] H := hP
  have hD : va_D A [(q0, .inr (3, [.int x1, .ref q_1, .ref q_3, .null, .null, .int (0 : Int32), .int (0 : Int32), .int (0 : Int32), .long (0 : Int64), .int (0 : Int32)])), (q_1, .inr (5, [.int x1, .ref u_2.1, .long (0 : Int64), .long (0 : Int64)])), (u_2.1, .inr (2, [.int x1, .ref u_2.2, .int (0 : Int32)])), (u_2.2, .inl (cL, N, .inr (.inl (fun _ => (0 : Int64))))), (q_3, .inl (cL, (N * N), .inr (.inl (fun _ => (0 : Int64))))), (q_4, .inl (cL, N, .inr (.inl (fun _ => (0 : Int64)))))] := hD
  refine W.widen (k := 5) (n := 1687) (by decide) (by omega) ?_
  refine va_putF (D := D) (ci := 3) (v := .ref q_4) (ty := .array .long) (C := RX3) (T := TX3) (N := 10) hx hb hts in_X3_init_X3 tyX3 tyX3_ok nmX3 hown hK hP hD hS 0 rfl rfl 3 (by decide) lk_12 (fun _ h9 => h9) rfl hin rfl (by decide +kernel) rfl rfl (Nat.le_of_ble_eq_true rfl) dX3_init_34 (fun H locs hP hD hS => ?_)
  have hP : va_P D vwCl [(q0, .inr (3, [.int x1, .ref q_1, .ref q_3, .ref q_4, .null, .int (0 : Int32), .int (0 : Int32), .int (0 : Int32), .long (0 : Int64), .int (0 : Int32)])), (q_1, .inr (5, [.int x1, .ref u_2.1, .long (0 : Int64), .long (0 : Int64)])), (u_2.1, .inr (2, [.int x1, .ref u_2.2, .int (0 : Int32)])), (u_2.2, .inl (cL, N, .inr (.inl (fun _ => (0 : Int64))))), (q_3, .inl (cL, (N * N), .inr (.inl (fun _ => (0 : Int64))))), (q_4, .inl (cL, N, .inr (.inl (fun _ => (0 : Int64)))))] H := hP
  have hD : va_D A [(q0, .inr (3, [.int x1, .ref q_1, .ref q_3, .ref q_4, .null, .int (0 : Int32), .int (0 : Int32), .int (0 : Int32), .long (0 : Int64), .int (0 : Int32)])), (q_1, .inr (5, [.int x1, .ref u_2.1, .long (0 : Int64), .long (0 : Int64)])), (u_2.1, .inr (2, [.int x1, .ref u_2.2, .int (0 : Int32)])), (u_2.2, .inl (cL, N, .inr (.inl (fun _ => (0 : Int64))))), (q_3, .inl (cL, (N * N), .inr (.inl (fun _ => (0 : Int64))))), (q_4, .inl (cL, N, .inr (.inl (fun _ => (0 : Int64)))))] := hD
  refine lv_aload_n hx hb dX3_init_37 rfl (lv_at hl 0 rfl) ?_
  refine lv_iload_n hx hb dX3_init_38 rfl (lv_at hl 1 rfl) ?_
  refine kz_newl (N' := N) hx hb lk_10 hEV hP hD hS hA hx1 (by omega) (Nat.le_of_ble_eq_true rfl) (by show 1687 + N ≤ 1727; omega) dX3_init_39 (fun q_5 H hP hD hS => ?_)
  have hP : va_P D vwCl [(q0, .inr (3, [.int x1, .ref q_1, .ref q_3, .ref q_4, .null, .int (0 : Int32), .int (0 : Int32), .int (0 : Int32), .long (0 : Int64), .int (0 : Int32)])), (q_1, .inr (5, [.int x1, .ref u_2.1, .long (0 : Int64), .long (0 : Int64)])), (u_2.1, .inr (2, [.int x1, .ref u_2.2, .int (0 : Int32)])), (u_2.2, .inl (cL, N, .inr (.inl (fun _ => (0 : Int64))))), (q_3, .inl (cL, (N * N), .inr (.inl (fun _ => (0 : Int64))))), (q_4, .inl (cL, N, .inr (.inl (fun _ => (0 : Int64))))), (q_5, .inl (cL, N, .inr (.inl (fun _ => (0 : Int64)))))] H := hP
  have hD : va_D A [(q0, .inr (3, [.int x1, .ref q_1, .ref q_3, .ref q_4, .null, .int (0 : Int32), .int (0 : Int32), .int (0 : Int32), .long (0 : Int64), .int (0 : Int32)])), (q_1, .inr (5, [.int x1, .ref u_2.1, .long (0 : Int64), .long (0 : Int64)])), (u_2.1, .inr (2, [.int x1, .ref u_2.2, .int (0 : Int32)])), (u_2.2, .inl (cL, N, .inr (.inl (fun _ => (0 : Int64))))), (q_3, .inl (cL, (N * N), .inr (.inl (fun _ => (0 : Int64))))), (q_4, .inl (cL, N, .inr (.inl (fun _ => (0 : Int64))))), (q_5, .inl (cL, N, .inr (.inl (fun _ => (0 : Int64)))))] := hD
  refine W.widen (k := 6) (n := 1727) (by decide) (by omega) ?_
  refine va_putF (D := D) (ci := 3) (v := .ref q_5) (ty := .array .long) (C := RX3) (T := TX3) (N := 10) hx hb hts in_X3_init_X3 tyX3 tyX3_ok nmX3 hown hK hP hD hS 0 rfl rfl 4 (by decide) lk_13 (fun _ h9 => h9) rfl hin rfl (by decide +kernel) rfl rfl (Nat.le_of_ble_eq_true rfl) dX3_init_41 (fun H locs hP hD hS => ?_)
  have hP : va_P D vwCl [(q0, .inr (3, [.int x1, .ref q_1, .ref q_3, .ref q_4, .ref q_5, .int (0 : Int32), .int (0 : Int32), .int (0 : Int32), .long (0 : Int64), .int (0 : Int32)])), (q_1, .inr (5, [.int x1, .ref u_2.1, .long (0 : Int64), .long (0 : Int64)])), (u_2.1, .inr (2, [.int x1, .ref u_2.2, .int (0 : Int32)])), (u_2.2, .inl (cL, N, .inr (.inl (fun _ => (0 : Int64))))), (q_3, .inl (cL, (N * N), .inr (.inl (fun _ => (0 : Int64))))), (q_4, .inl (cL, N, .inr (.inl (fun _ => (0 : Int64))))), (q_5, .inl (cL, N, .inr (.inl (fun _ => (0 : Int64)))))] H := hP
  have hD : va_D A [(q0, .inr (3, [.int x1, .ref q_1, .ref q_3, .ref q_4, .ref q_5, .int (0 : Int32), .int (0 : Int32), .int (0 : Int32), .long (0 : Int64), .int (0 : Int32)])), (q_1, .inr (5, [.int x1, .ref u_2.1, .long (0 : Int64), .long (0 : Int64)])), (u_2.1, .inr (2, [.int x1, .ref u_2.2, .int (0 : Int32)])), (u_2.2, .inl (cL, N, .inr (.inl (fun _ => (0 : Int64))))), (q_3, .inl (cL, (N * N), .inr (.inl (fun _ => (0 : Int64))))), (q_4, .inl (cL, N, .inr (.inl (fun _ => (0 : Int64))))), (q_5, .inl (cL, N, .inr (.inl (fun _ => (0 : Int64)))))] := hD
  have hP9 := hP.sub (ws' := [(q0, .inr (3, [.int x1, .ref q_1, .ref q_3, .ref q_4, .ref q_5, .int (0 : Int32), .int (0 : Int32), .int (0 : Int32), .long (0 : Int64), .int (0 : Int32)])), (q_1, .inr (5, [.int x1, .ref u_2.1, .long (0 : Int64), .long (0 : Int64)])), (u_2.1, .inr (2, [.int x1, .ref u_2.2, .int (0 : Int32)])), (u_2.2, .inl (cL, N, .inr (.inl (fun _ => (0 : Int64))))), (q_3, .inl (cL, (N * N), .inr (.inl (fun _ => (0 : Int64))))), (q_4, .inl (cL, N, .inr (.inl (fun _ => (0 : Int64))))), (q_5, .inl (cL, N, .inr (.inl (fun _ => (0 : Int64)))))]) [0, 1, 2, 3, 4, 5, 6] rfl
  have hD9 := hD.sub (ws' := [(q0, .inr (3, [.int x1, .ref q_1, .ref q_3, .ref q_4, .ref q_5, .int (0 : Int32), .int (0 : Int32), .int (0 : Int32), .long (0 : Int64), .int (0 : Int32)])), (q_1, .inr (5, [.int x1, .ref u_2.1, .long (0 : Int64), .long (0 : Int64)])), (u_2.1, .inr (2, [.int x1, .ref u_2.2, .int (0 : Int32)])), (u_2.2, .inl (cL, N, .inr (.inl (fun _ => (0 : Int64))))), (q_3, .inl (cL, (N * N), .inr (.inl (fun _ => (0 : Int64))))), (q_4, .inl (cL, N, .inr (.inl (fun _ => (0 : Int64))))), (q_5, .inl (cL, N, .inr (.inl (fun _ => (0 : Int64)))))]) [0, 1, 2, 3, 4, 5, 6] (by decide) rfl
  refine W.widen (k := 6) (n := 1727) (by decide) (by decide) ?_
  subst hQ
  exact W.vret hx hb hr (fun t ht hW => ⟨⟨(q_1, u_2.1, u_2.2, q_3, q_4, q_5), rfl, trivial, by rw [ht]; exact hP9, hD9⟩, hS.F ht⟩) hS.2.2 dX3_init_44

