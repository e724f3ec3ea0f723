theorem in_X7_row_X2 : ∀ w ∈ wsX20, w ∈ wsX7_row := by decide +kernel
theorem in_X7_row_X7 : ∀ w ∈ wsX70, w ∈ wsX7_row := by decide +kernel
theorem lk_0_X7_row : Cond.fieldLink RX7 45 "ParityClauses" "base" "LParityClauses$Rows;" ∈ wsX7_row := by decide +kernel
theorem lk_1_X7_row : Cond.fieldLink RX7 182 "ParityClauses$Rows" "impossible" "Z" ∈ wsX7_row := by decide +kernel
theorem lk_2_X7_row : Cond.classLink RX7 162 "java/lang/IndexOutOfBoundsException" ∈ wsX7_row := by decide +kernel
theorem lk_3_X7_row : Cond.initialized "java/lang/IndexOutOfBoundsException" ∈ wsX7_row := by decide +kernel
theorem tw_X7_row_166 : ∀ w ∈ (vx_atS RX7 166 "java/lang/IndexOutOfBoundsException" ["java/lang/RuntimeException", "java/lang/Exception"]).filter goodWord, w ∈ wsX7_row := by decide +kernel
abbrev rm_X7_row : Room := { frames := 6, cells := 1, slots := 6, locals := 90 }
set_option maxHeartbeats 4000000 in
set_option maxRecDepth 100000 in
theorem cm_X7_row (l : Launch) (hltr : l.stackTraces = false) (D : va_G) (cI cL : ClassId) (q0 q0_store q0_store_equations q0_base q0_base_byHead : Nat) (n0_store_equations n0_base_byHead : Nat) (f0_rowsFresh : Bool) (f0_store_equationCount : Int32) (h0_store_equations : Nat → Int64) (f0_base_n : Int32) (f0_base_impossible : Bool) (h0_base_byHead : Nat → Int64) (v0_n v0_variables v0_tape v0_blamed v0_gateList v0_taking v0_search v0_gatesFresh v0_latestFault v0_latestNodes v0_latestModel v0_store_yes v0_store_no v0_store_clauseCount v0_store_equationsBefore v0_store_clausesBefore v0_store_levelCount : Value) (x1 : Int32) (r0 : (Int64 ⊕ Nat) × Bool × Bool × (Nat → Int64)) (hr0 : D_X7_row f0_rowsFresh f0_store_equationCount n0_store_equations h0_store_equations f0_base_n f0_base_impossible n0_base_byHead h0_base_byHead x1 = some r0) (sz : Nat) : vx_Met l yX7_row wsX7_row rm_X7_row (PcX D cI cL [.ref q0, .int x1] [(q0, .inr (7, [v0_n, v0_variables, .ref q0_store, v0_tape, .ref q0_base, v0_blamed, v0_gateList, v0_taking, v0_search, .int (bI f0_rowsFresh), v0_gatesFresh, v0_latestFault, v0_latestNodes, v0_latestModel])), (q0_store, .inr (4, [.ref q0_store_equations, v0_store_yes, v0_store_no, .int f0_store_equationCount, v0_store_clauseCount, v0_store_equationsBefore, v0_store_clausesBefore, v0_store_levelCount])), (q0_store_equations, .inl (cL, n0_store_equations, .inr (.inl h0_store_equations))), (q0_base, .inr (2, [.int f0_base_n, .ref q0_base_byHead, .int (bI f0_base_impossible)])), (q0_base_byHead, .inl (cL, n0_base_byHead, .inr (.inl h0_base_byHead)))] sz) (QlX D [(q0, .inr (7, [v0_n, v0_variables, .ref q0_store, v0_tape, .ref q0_base, v0_blamed, v0_gateList, v0_taking, v0_search, .int (bI f0_rowsFresh), v0_gatesFresh, v0_latestFault, v0_latestNodes, v0_latestModel])), (q0_store, .inr (4, [.ref q0_store_equations, v0_store_yes, v0_store_no, .int f0_store_equationCount, v0_store_clauseCount, v0_store_equationsBefore, v0_store_clausesBefore, v0_store_levelCount])), (q0_store_equations, .inl (cL, n0_store_equations, .inr (.inl h0_store_equations))), (q0_base, .inr (2, [.int f0_base_n, .ref q0_base_byHead, .int (bI f0_base_impossible)])), (q0_base_byHead, .inl (cL, n0_base_byHead, .inr (.inl h0_base_byHead)))] r0.1 [(q0, .inr (7, [v0_n, v0_variables, .ref q0_store, v0_tape, .ref q0_base, v0_blamed, v0_gateList, v0_taking, v0_search, .int (bI r0.2.1), v0_gatesFresh, v0_latestFault, v0_latestNodes, v0_latestModel])), (q0_store, .inr (4, [.ref q0_store_equations, v0_store_yes, v0_store_no, .int f0_store_equationCount, v0_store_clauseCount, v0_store_equationsBefore, v0_store_clausesBefore, v0_store_levelCount])), (q0_store_equations, .inl (cL, n0_store_equations, .inr (.inl h0_store_equations))), (q0_base, .inr (2, [.int f0_base_n, .ref q0_base_byHead, .int (bI r0.2.2.1)])), (q0_base_byHead, .inl (cL, n0_base_byHead, .inr (.inl r0.2.2.2)))] sz) (XCW D [(q0, .inr (7, [v0_n, v0_variables, .ref q0_store, v0_tape, .ref q0_base, v0_blamed, v0_gateList, v0_taking, v0_search, .int (bI f0_rowsFresh), v0_gatesFresh, v0_latestFault, v0_latestNodes, v0_latestModel])), (q0_store, .inr (4, [.ref q0_store_equations, v0_store_yes, v0_store_no, .int f0_store_equationCount, v0_store_clauseCount, v0_store_equationsBefore, v0_store_clausesBefore, v0_store_levelCount])), (q0_store_equations, .inl (cL, n0_store_equations, .inr (.inl h0_store_equations))), (q0_base, .inr (2, [.int f0_base_n, .ref q0_base_byHead, .int (bI f0_base_impossible)])), (q0_base_byHead, .inl (cL, n0_base_byHead, .inr (.inl h0_base_byHead)))] r0.1 [(q0, .inr (7, [v0_n, v0_variables, .ref q0_store, v0_tape, .ref q0_base, v0_blamed, v0_gateList, v0_taking, v0_search, .int (bI r0.2.1), v0_gatesFresh, v0_latestFault, v0_latestNodes, v0_latestModel])), (q0_store, .inr (4, [.ref q0_store_equations, v0_store_yes, v0_store_no, .int f0_store_equationCount, v0_store_clauseCount, v0_store_equationsBefore, v0_store_clausesBefore, v0_store_levelCount])), (q0_store_equations, .inl (cL, n0_store_equations, .inr (.inl h0_store_equations))), (q0_base, .inr (2, [.int f0_base_n, .ref q0_base_byHead, .int (bI r0.2.2.1)])), (q0_base_byHead, .inl (cL, n0_base_byHead, .inr (.inl r0.2.2.2)))] sz) 1 6 (va_A [(q0, .inr (7, [v0_n, v0_variables, .ref q0_store, v0_tape, .ref q0_base, v0_blamed, v0_gateList, v0_taking, v0_search, .int (bI f0_rowsFresh), v0_gatesFresh, v0_latestFault, v0_latestNodes, v0_latestModel])), (q0_store, .inr (4, [.ref q0_store_equations, v0_store_yes, v0_store_no, .int f0_store_equationCount, v0_store_clauseCount, v0_store_equationsBefore, v0_store_clausesBefore, v0_store_levelCount])), (q0_store_equations, .inl (cL, n0_store_equations, .inr (.inl h0_store_equations))), (q0_base, .inr (2, [.int f0_base_n, .ref q0_base_byHead, .int (bI f0_base_impossible)])), (q0_base_byHead, .inl (cL, n0_base_byHead, .inr (.inl h0_base_byHead)))] sz) := by
  refine vx_ofW (cc := cX7_row) (maxL := 4) (ret := (some .long)) (by decide) rfl ?_
  intro p e s m args below meth c s₁ B hml hnt hv
  obtain ⟨hargs, hsz, hP, hEV, hD0, hX⟩ := hv
  have hx := B.exec
  have hb := B.bytes
  have hr := B.returns
  have hts := atoms_spec (ws := wsX7_row) B.pre
  have hown : s.vm.findClass RX7 = some m.cls := findClass_of_methodNamed B.named
  have hlocks := B.notSynchronized
  have hK := hEV.K
  have lk_0 := hts _ lk_0_X7_row
  have lk_1 := hts _ lk_1_X7_row
  have lk_2 := hts _ lk_2_X7_row
  have lk_3 := hts _ lk_3_X7_row
  subst hsz
  unfold QlX PoW
  have hD := hD0.self (sz := s.heap.size)
  generalize hAe : va_A [(q0, .inr (7, [v0_n, v0_variables, .ref q0_store, v0_tape, .ref q0_base, v0_blamed, v0_gateList, v0_taking, v0_search, .int (bI f0_rowsFresh), v0_gatesFresh, v0_latestFault, v0_latestNodes, v0_latestModel])), (q0_store, .inr (4, [.ref q0_store_equations, v0_store_yes, v0_store_no, .int f0_store_equationCount, v0_store_clauseCount, v0_store_equationsBefore, v0_store_clausesBefore, v0_store_levelCount])), (q0_store_equations, .inl (cL, n0_store_equations, .inr (.inl h0_store_equations))), (q0_base, .inr (2, [.int f0_base_n, .ref q0_base_byHead, .int (bI f0_base_impossible)])), (q0_base_byHead, .inl (cL, n0_base_byHead, .inr (.inl h0_base_byHead)))] s.heap.size = A at hD hX ⊢
  have hA : ∀ q : Nat, s.heap.size ≤ q → A q := fun q h => by rw [← hAe]; exact Or.inr h
  have hent : entryFrame m args 4 = entryFrame m ([.ref q0, .int x1] : List Value).toArray 4 := by rw [hargs]
  rw [hent]
  refine kx_Q (fun Q hQ => ?_)
  refine kx_H (fun H hH => ?_)
  have hP : va_P D vwCl [(q0, .inr (7, [v0_n, v0_variables, .ref q0_store, v0_tape, .ref q0_base, v0_blamed, v0_gateList, v0_taking, v0_search, .int (bI f0_rowsFresh), v0_gatesFresh, v0_latestFault, v0_latestNodes, v0_latestModel])), (q0_store, .inr (4, [.ref q0_store_equations, v0_store_yes, v0_store_no, .int f0_store_equationCount, v0_store_clauseCount, v0_store_equationsBefore, v0_store_clausesBefore, v0_store_levelCount])), (q0_store_equations, .inl (cL, n0_store_equations, .inr (.inl h0_store_equations))), (q0_base, .inr (2, [.int f0_base_n, .ref q0_base_byHead, .int (bI f0_base_impossible)])), (q0_base_byHead, .inl (cL, n0_base_byHead, .inr (.inl h0_base_byHead)))] H := by rw [hH]; exact hP
  have hS : va_S A s.heap H [] := by rw [hH]; exact va_S.rf
  have hl := lv_entry ([.ref q0, .int x1]) (n := 4) (Nat.le_of_ble_eq_true rfl)
  rw [lg_entry_eq]
  generalize (lg_sl ([.ref q0, .int x1]) ++ List.replicate (4 - (lg_sl ([.ref q0, .int x1])).length) Slot.unset).toArray = ls at hl ⊢
  have hl : lv_has ls 4 [(0, .ref q0), (1, .int x1)] := hl
  have h := hr0
  unfold D_X7_row at h
  refine lv_aload_n hx hb dX7_row_0 rfl (lv_at hl 0 rfl) ?_
  obtain ⟨u_1, hu_2, h⟩ := co_b h
  refine kx_v (ws' := fun _ => [(q0, .inr (7, [v0_n, v0_variables, .ref q0_store, v0_tape, .ref q0_base, v0_blamed, v0_gateList, v0_taking, v0_search, .int (bI u_1.1), v0_gatesFresh, v0_latestFault, v0_latestNodes, v0_latestModel])), (q0_store, .inr (4, [.ref q0_store_equations, v0_store_yes, v0_store_no, .int f0_store_equationCount, v0_store_clauseCount, v0_store_equationsBefore, v0_store_clausesBefore, v0_store_levelCount])), (q0_store_equations, .inl (cL, n0_store_equations, .inr (.inl h0_store_equations))), (q0_base, .inr (2, [.int f0_base_n, .ref q0_base_byHead, .int (bI u_1.2.1)])), (q0_base_byHead, .inl (cL, n0_base_byHead, .inr (.inl u_1.2.2)))]) hP hD hS hA [0, 1, 2, 3, 4] [] [0, 1, 2, 3, 4] rfl rfl (by decide) (by decide) (fun _ => rfl) (by decide) (va_runV (As := []) (rest := []) ⟨hx, hb, hml, hown, hts⟩ (cm_X7_freshenRows l D cI cL (q0 := q0) (q0_store := q0_store) (q0_store_equations := q0_store_equations) (q0_base := q0_base) (q0_base_byHead := q0_base_byHead) (n0_store_equations := n0_store_equations) (n0_base_byHead := n0_base_byHead) (f0_rowsFresh := f0_rowsFresh) (f0_store_equationCount := f0_store_equationCount) (h0_store_equations := h0_store_equations) (f0_base_n := f0_base_n) (f0_base_impossible := f0_base_impossible) (h0_base_byHead := h0_base_byHead) (v0_n := v0_n) (v0_variables := v0_variables) (v0_tape := v0_tape) (v0_blamed := v0_blamed) (v0_gateList := v0_gateList) (v0_taking := v0_taking) (v0_search := v0_search) (v0_gatesFresh := v0_gatesFresh) (v0_latestFault := v0_latestFault) (v0_latestNodes := v0_latestNodes) (v0_latestModel := v0_latestModel) (v0_store_yes := v0_store_yes) (v0_store_no := v0_store_no) (v0_store_clauseCount := v0_store_clauseCount) (v0_store_equationsBefore := v0_store_equationsBefore) (v0_store_clausesBefore := v0_store_clausesBefore) (v0_store_levelCount := v0_store_levelCount) (r0 := u_1) (hr0 := hu_2) (sz := H.size)) (cwV 0 hts gX7_row_X7_freshenRows rfl rfl rfl (by decide +kernel) ⟨Nat.le_of_ble_eq_true rfl, Nat.le_of_ble_eq_true rfl⟩) (kx_preV hEV hP hD [0, 1, 2, 3, 4] rfl (by decide) (k0 := 0) (ci := 7) rfl rfl rfl) rfl rfl hl.1 rfl (lv_room (Nat.le_of_ble_eq_true rfl)) dX7_row_1 ⟨Nat.le_of_ble_eq_true rfl, Nat.le_of_ble_eq_true rfl⟩) (fun _ H locs _ hP hD hS => ?_)
  refine lv_aload_n hx hb dX7_row_4 rfl (lv_at hl 0 rfl) ?_
  refine va_get (D := D) (ci := 7) (v := .ref q0_base) (C := RX7) (T := TX7) (N := 14) hx hb hts in_X7_row_X7 hown hK hP 0 rfl rfl 4 (by decide) lk_0 (fun _ h9 => h9) rfl dX7_row_5 ?_
  refine va_get (D := D) (ci := 2) (v := .int (bI u_1.2.1)) (C := RX2) (T := TX2) (N := 3) hx hb hts in_X7_row_X2 hown hK hP 3 rfl rfl 2 (by decide) lk_1 (fun _ h9 => h9) rfl dX7_row_8 ?_
  refine lv_if_ne (tgt := 18) hx hb dX7_row_11 (by decide) (fun c_3 => ?_) (fun c_3 => ?_)
  · have k_4 : u_1.2.1 = true := (kx_nz c_3)
    have h := co_t k_4 h
    refine lv_lconst (v := (0 : Int64)) hx hb dX7_row_18 (by decide) ?_
    refine lv_goto (tgt := 30) hx hb dX7_row_19 (by decide) ?_
    refine lv_lstore_n (lv' := [(2, .long (0 : Int64)), (0, .ref q0), (1, .int x1)]) hx hb dX7_row_30 rfl hl (by decide) rfl (fun ls hl => ?_)
    refine lv_lload_n hx hb dX7_row_31 rfl (lv_at hl 0 rfl) ?_
    refine lv_lconst (v := (0 : Int64)) hx hb dX7_row_32 (by decide) ?_
    refine W.lcmp hx hb dX7_row_33 ?_
    refine lv_if_ne (tgt := 47) hx hb dX7_row_34 (by decide) (fun c_5 => ?_) (fun c_5 => ?_)
    · have k_6 : ¬ ((0 : Int64) = (0 : Int64)) := (fun z9 => c_5 ((lg_cmp_eq _ _).mpr z9))
      have h := co_f k_6 h
      refine lv_lload_n hx hb dX7_row_47 rfl (lv_at hl 0 rfl) ?_
      have h := Option.some.inj h
      subst h
      subst hQ
      refine vx_ret ?_
      refine W.widen (k := 1) (n := 6) (by decide) (by decide) ?_
      exact W.lret (v := (0 : Int64)) hx hb hr (fun t ht hW => ⟨⟨(0 : Int64), (), rfl, rfl, by rw [ht]; exact hP, hD⟩, hS.F ht⟩) hS.2.2 dX7_row_48
    · have k_6 : (0 : Int64) = (0 : Int64) := ((lg_cmp_eq _ _).mp c_5)
      have h := co_t k_6 h
      have h := Option.some.inj h
      subst h
      subst hQ
      obtain ⟨sa9, hsa9⟩ := hX.2.2.2.2.2.2.2.2.2.2.2.2.2.2.2.2.2.2.2.2.1
      exact vx_throwS (cls := "java/lang/IndexOutOfBoundsException") (names := ["java/lang/RuntimeException", "java/lang/Exception"]) hx hb hltr hown (by decide +kernel) (by decide +kernel) lk_2 lk_3 hsa9 (vx_hat (B := [.castable "java/lang/IndexOutOfBoundsException" "java/lang/IndexOutOfBoundsException", .declares dcR, .declares dcE, .declares dcT]) (fun w9 h9 => hts w9 (tw_X7_row_166 w9 h9)) thb_X7_166 (vx_c (va_Nw.use rfl hX.2.2.2.2.1) (vx_c (va_Nw.use rfl hX.2.2.2.2.2.2.2.1) (vx_c (va_Nw.use rfl hX.2.2.2.2.2.2.2.2.1) (vx_c (va_Nw.use rfl hX.2.2.2.2.2.2.2.2.2.1) vx_n))))) thg_X7_166 hX.1 hX.2.1 hS (hl.1.trans hml.symm) dX7_row_37 dX7_row_40 dX7_row_41 dX7_row_43 dX7_row_46 (fun x9 h9 => (hnt x9 h9).elim) (by decide) (Nat.le_of_ble_eq_true rfl) (by decide) (by decide) hlocks (ky_x (k := 2) hAe hP hD hS rfl rfl) hS.2.2 (by decide) (by decide)
  · have k_4 : ¬ (u_1.2.1 = true) := (kx_z c_3)
    have h := co_f k_4 h
    refine lv_iload_n hx hb dX7_row_14 rfl (lv_at hl 1 rfl) ?_
    refine lv_if_ge (tgt := 22) hx hb dX7_row_15 (by decide) (fun c_7 => ?_) (fun c_7 => ?_)
    · have k_8 : 0 ≤ x1 := c_7
      have h := co_t k_8 h
      refine lv_aload_n hx hb dX7_row_22 rfl (lv_at hl 0 rfl) ?_
      refine va_get (D := D) (ci := 7) (v := .ref q0_base) (C := RX7) (T := TX7) (N := 14) hx hb hts in_X7_row_X7 hown hK hP 0 rfl rfl 4 (by decide) lk_0 (fun _ h9 => h9) rfl dX7_row_23 ?_
      refine lv_iload_n hx hb dX7_row_26 rfl (lv_at hl 1 rfl) ?_
      obtain ⟨u_9, hu_10, h⟩ := co_b h
      refine kx_l (ws' := fun _ => [(q0, .inr (7, [v0_n, v0_variables, .ref q0_store, v0_tape, .ref q0_base, v0_blamed, v0_gateList, v0_taking, v0_search, .int (bI u_1.1), v0_gatesFresh, v0_latestFault, v0_latestNodes, v0_latestModel])), (q0_store, .inr (4, [.ref q0_store_equations, v0_store_yes, v0_store_no, .int f0_store_equationCount, v0_store_clauseCount, v0_store_equationsBefore, v0_store_clausesBefore, v0_store_levelCount])), (q0_store_equations, .inl (cL, n0_store_equations, .inr (.inl h0_store_equations))), (q0_base, .inr (2, [.int f0_base_n, .ref q0_base_byHead, .int (bI u_1.2.1)])), (q0_base_byHead, .inl (cL, n0_base_byHead, .inr (.inl u_1.2.2)))]) hP hD hS hA [3, 4] [0, 1, 2] [0, 1, 2, 3, 4] rfl rfl (by decide) (by decide) (fun _ => rfl) (by decide) (va_runV (As := [.int x1]) (rest := []) ⟨hx, hb, hml, hown, hts⟩ (cm_X2_inOrder l D cI cL (q0 := q0_base) (q0_byHead := q0_base_byHead) (n0_byHead := n0_base_byHead) (f0_n := f0_base_n) (h0_byHead := u_1.2.2) (v0_impossible := .int (bI u_1.2.1)) (x1 := x1) (r0 := u_9) (hr0 := hu_10) (sz := H.size)) (cwV 1 hts gX7_row_X2_inOrder rfl rfl rfl (by decide +kernel) ⟨Nat.le_of_ble_eq_true rfl, Nat.le_of_ble_eq_true rfl⟩) (kx_preV hEV hP hD [3, 4] rfl (by decide) (k0 := 3) (ci := 2) rfl rfl rfl) rfl rfl hl.1 rfl (lv_room (Nat.le_of_ble_eq_true rfl)) dX7_row_27 ⟨Nat.le_of_ble_eq_true rfl, Nat.le_of_ble_eq_true rfl⟩) (fun _ H locs _ hP hD hS => ?_)
      refine lv_lstore_n (lv' := [(2, .long u_9), (0, .ref q0), (1, .int x1)]) hx hb dX7_row_30 rfl hl (by decide) rfl (fun ls hl => ?_)
      refine lv_lload_n hx hb dX7_row_31 rfl (lv_at hl 0 rfl) ?_
      refine lv_lconst (v := (0 : Int64)) hx hb dX7_row_32 (by decide) ?_
      refine W.lcmp hx hb dX7_row_33 ?_
      refine lv_if_ne (tgt := 47) hx hb dX7_row_34 (by decide) (fun c_11 => ?_) (fun c_11 => ?_)
      · have k_12 : ¬ (u_9 = (0 : Int64)) := (fun z9 => c_11 ((lg_cmp_eq _ _).mpr z9))
        have h := co_f k_12 h
        refine lv_lload_n hx hb dX7_row_47 rfl (lv_at hl 0 rfl) ?_
        have h := Option.some.inj h
        subst h
        subst hQ
        refine vx_ret ?_
        refine W.widen (k := 1) (n := 6) (by decide) (by decide) ?_
        exact W.lret (v := u_9) hx hb hr (fun t ht hW => ⟨⟨u_9, (), rfl, rfl, by rw [ht]; exact hP, hD⟩, hS.F ht⟩) hS.2.2 dX7_row_48
      · have k_12 : u_9 = (0 : Int64) := ((lg_cmp_eq _ _).mp c_11)
        have h := co_t k_12 h
        have h := Option.some.inj h
        subst h
        subst hQ
        obtain ⟨sa9, hsa9⟩ := hX.2.2.2.2.2.2.2.2.2.2.2.2.2.2.2.2.2.2.2.2.1
        exact vx_throwS (cls := "java/lang/IndexOutOfBoundsException") (names := ["java/lang/RuntimeException", "java/lang/Exception"]) hx hb hltr hown (by decide +kernel) (by decide +kernel) lk_2 lk_3 hsa9 (vx_hat (B := [.castable "java/lang/IndexOutOfBoundsException" "java/lang/IndexOutOfBoundsException", .declares dcR, .declares dcE, .declares dcT]) (fun w9 h9 => hts w9 (tw_X7_row_166 w9 h9)) thb_X7_166 (vx_c (va_Nw.use rfl hX.2.2.2.2.1) (vx_c (va_Nw.use rfl hX.2.2.2.2.2.2.2.1) (vx_c (va_Nw.use rfl hX.2.2.2.2.2.2.2.2.1) (vx_c (va_Nw.use rfl hX.2.2.2.2.2.2.2.2.2.1) vx_n))))) thg_X7_166 hX.1 hX.2.1 hS (hl.1.trans hml.symm) dX7_row_37 dX7_row_40 dX7_row_41 dX7_row_43 dX7_row_46 (fun x9 h9 => (hnt x9 h9).elim) (by decide) (Nat.le_of_ble_eq_true rfl) (by decide) (by decide) hlocks (ky_x (k := 2) hAe hP hD hS rfl rfl) hS.2.2 (by decide) (by decide)
    · have k_8 : ¬ (0 ≤ x1) := c_7
      have h := co_f k_8 h
      refine lv_lconst (v := (0 : Int64)) hx hb dX7_row_18 (by decide) ?_
      refine lv_goto (tgt := 30) hx hb dX7_row_19 (by decide) ?_
      refine lv_lstore_n (lv' := [(2, .long (0 : Int64)), (0, .ref q0), (1, .int x1)]) hx hb dX7_row_30 rfl hl (by decide) rfl (fun ls hl => ?_)
      refine lv_lload_n hx hb dX7_row_31 rfl (lv_at hl 0 rfl) ?_
      refine lv_lconst (v := (0 : Int64)) hx hb dX7_row_32 (by decide) ?_
      refine W.lcmp hx hb dX7_row_33 ?_
      refine lv_if_ne (tgt := 47) hx hb dX7_row_34 (by decide) (fun c_13 => ?_) (fun c_13 => ?_)
      · have k_14 : ¬ ((0 : Int64) = (0 : Int64)) := (fun z9 => c_13 ((lg_cmp_eq _ _).mpr z9))
        have h := co_f k_14 h
        refine lv_lload_n hx hb dX7_row_47 rfl (lv_at hl 0 rfl) ?_
        have h := Option.some.inj h
        subst h
        subst hQ
        refine vx_ret ?_
        refine W.widen (k := 1) (n := 6) (by decide) (by decide) ?_
        exact W.lret (v := (0 : Int64)) hx hb hr (fun t ht hW => ⟨⟨(0 : Int64), (), rfl, rfl, by rw [ht]; exact hP, hD⟩, hS.F ht⟩) hS.2.2 dX7_row_48
      · have k_14 : (0 : Int64) = (0 : Int64) := ((lg_cmp_eq _ _).mp c_13)
        have h := co_t k_14 h
        have h := Option.some.inj h
        subst h
        subst hQ
        obtain ⟨sa9, hsa9⟩ := hX.2.2.2.2.2.2.2.2.2.2.2.2.2.2.2.2.2.2.2.2.1
        exact vx_throwS (cls := "java/lang/IndexOutOfBoundsException") (names := ["java/lang/RuntimeException", "java/lang/Exception"]) hx hb hltr hown (by decide +kernel) (by decide +kernel) lk_2 lk_3 hsa9 (vx_hat (B := [.castable "java/lang/IndexOutOfBoundsException" "java/lang/IndexOutOfBoundsException", .declares dcR, .declares dcE, .declares dcT]) (fun w9 h9 => hts w9 (tw_X7_row_166 w9 h9)) thb_X7_166 (vx_c (va_Nw.use rfl hX.2.2.2.2.1) (vx_c (va_Nw.use rfl hX.2.2.2.2.2.2.2.1) (vx_c (va_Nw.use rfl hX.2.2.2.2.2.2.2.2.1) (vx_c (va_Nw.use rfl hX.2.2.2.2.2.2.2.2.2.1) vx_n))))) thg_X7_166 hX.1 hX.2.1 hS (hl.1.trans hml.symm) dX7_row_37 dX7_row_40 dX7_row_41 dX7_row_43 dX7_row_46 (fun x9 h9 => (hnt x9 h9).elim) (by decide) (Nat.le_of_ble_eq_true rfl) (by decide) (by decide) hlocks (ky_x (k := 2) hAe hP hD hS rfl rfl) hS.2.2 (by decide) (by decide)
theorem in_X7_sum_X2 : ∀ w ∈ wsX20, w ∈ wsX7_sum := by decide +kernel
theorem in_X7_sum_X7 : ∀ w ∈ wsX70, w ∈ wsX7_sum := by decide +kernel
theorem lk_0_X7_sum : Cond.fieldLink RX7 45 "ParityClauses" "base" "LParityClauses$Rows;" ∈ wsX7_sum := by decide +kernel
theorem lk_1_X7_sum : Cond.fieldLink RX7 182 "ParityClauses$Rows" "impossible" "Z" ∈ wsX7_sum := by decide +kernel
theorem lk_2_X7_sum : Cond.constantLong RX7 171 (-4611686018427387905) ∈ wsX7_sum := by decide +kernel
theorem lk_3_X7_sum : Cond.classLink RX7 86 "java/lang/IllegalArgumentException" ∈ wsX7_sum := by decide +kernel
theorem lk_4_X7_sum : Cond.initialized "java/lang/IllegalArgumentException" ∈ wsX7_sum := by decide +kernel
theorem tw_X7_sum_90 : ∀ w ∈ (vx_atS RX7 90 "java/lang/IllegalArgumentException" ["java/lang/RuntimeException", "java/lang/Exception"]).filter goodWord, w ∈ wsX7_sum := by decide +kernel
abbrev rm_X7_sum : Room := { frames := 6, cells := 1, slots := 6, locals := 90 }
set_option maxHeartbeats 4000000 in
set_option maxRecDepth 100000 in
theorem cm_X7_sum (l : Launch) (hltr : l.stackTraces = false) (D : va_G) (cI cL : ClassId) (q0 q0_store q0_store_equations q0_base q0_base_byHead : Nat) (n0_store_equations n0_base_byHead : Nat) (f0_variables : Int64) (f0_rowsFresh : Bool) (f0_store_equationCount : Int32) (h0_store_equations : Nat → Int64) (f0_base_n : Int32) (f0_base_impossible : Bool) (h0_base_byHead : Nat → Int64) (v0_n v0_tape v0_blamed v0_gateList v0_taking v0_search v0_gatesFresh v0_latestFault v0_latestNodes v0_latestModel v0_store_yes v0_store_no v0_store_clauseCount v0_store_equationsBefore v0_store_clausesBefore v0_store_levelCount : Value) (x1 : Int64) (r0 : (Int32 ⊕ Nat) × Bool × Bool × (Nat → Int64)) (hr0 : D_X7_sum f0_variables f0_rowsFresh f0_store_equationCount n0_store_equations h0_store_equations f0_base_n f0_base_impossible n0_base_byHead h0_base_byHead x1 = some r0) (sz : Nat) : vx_Met l yX7_sum wsX7_sum rm_X7_sum (PcX D cI cL [.ref q0, .long x1] [(q0, .inr (7, [v0_n, .long f0_variables, .ref q0_store, v0_tape, .ref q0_base, v0_blamed, v0_gateList, v0_taking, v0_search, .int (bI f0_rowsFresh), v0_gatesFresh, v0_latestFault, v0_latestNodes, v0_latestModel])), (q0_store, .inr (4, [.ref q0_store_equations, v0_store_yes, v0_store_no, .int f0_store_equationCount, v0_store_clauseCount, v0_store_equationsBefore, v0_store_clausesBefore, v0_store_levelCount])), (q0_store_equations, .inl (cL, n0_store_equations, .inr (.inl h0_store_equations))), (q0_base, .inr (2, [.int f0_base_n, .ref q0_base_byHead, .int (bI f0_base_impossible)])), (q0_base_byHead, .inl (cL, n0_base_byHead, .inr (.inl h0_base_byHead)))] sz) (QiX D [(q0, .inr (7, [v0_n, .long f0_variables, .ref q0_store, v0_tape, .ref q0_base, v0_blamed, v0_gateList, v0_taking, v0_search, .int (bI f0_rowsFresh), v0_gatesFresh, v0_latestFault, v0_latestNodes, v0_latestModel])), (q0_store, .inr (4, [.ref q0_store_equations, v0_store_yes, v0_store_no, .int f0_store_equationCount, v0_store_clauseCount, v0_store_equationsBefore, v0_store_clausesBefore, v0_store_levelCount])), (q0_store_equations, .inl (cL, n0_store_equations, .inr (.inl h0_store_equations))), (q0_base, .inr (2, [.int f0_base_n, .ref q0_base_byHead, .int (bI f0_base_impossible)])), (q0_base_byHead, .inl (cL, n0_base_byHead, .inr (.inl h0_base_byHead)))] r0.1 [(q0, .inr (7, [v0_n, .long f0_variables, .ref q0_store, v0_tape, .ref q0_base, v0_blamed, v0_gateList, v0_taking, v0_search, .int (bI r0.2.1), v0_gatesFresh, v0_latestFault, v0_latestNodes, v0_latestModel])), (q0_store, .inr (4, [.ref q0_store_equations, v0_store_yes, v0_store_no, .int f0_store_equationCount, v0_store_clauseCount, v0_store_equationsBefore, v0_store_clausesBefore, v0_store_levelCount])), (q0_store_equations, .inl (cL, n0_store_equations, .inr (.inl h0_store_equations))), (q0_base, .inr (2, [.int f0_base_n, .ref q0_base_byHead, .int (bI r0.2.2.1)])), (q0_base_byHead, .inl (cL, n0_base_byHead, .inr (.inl r0.2.2.2)))] sz) (XCW D [(q0, .inr (7, [v0_n, .long f0_variables, .ref q0_store, v0_tape, .ref q0_base, v0_blamed, v0_gateList, v0_taking, v0_search, .int (bI f0_rowsFresh), v0_gatesFresh, v0_latestFault, v0_latestNodes, v0_latestModel])), (q0_store, .inr (4, [.ref q0_store_equations, v0_store_yes, v0_store_no, .int f0_store_equationCount, v0_store_clauseCount, v0_store_equationsBefore, v0_store_clausesBefore, v0_store_levelCount])), (q0_store_equations, .inl (cL, n0_store_equations, .inr (.inl h0_store_equations))), (q0_base, .inr (2, [.int f0_base_n, .ref q0_base_byHead, .int (bI f0_base_impossible)])), (q0_base_byHead, .inl (cL, n0_base_byHead, .inr (.inl h0_base_byHead)))] r0.1 [(q0, .inr (7, [v0_n, .long f0_variables, .ref q0_store, v0_tape, .ref q0_base, v0_blamed, v0_gateList, v0_taking, v0_search, .int (bI r0.2.1), v0_gatesFresh, v0_latestFault, v0_latestNodes, v0_latestModel])), (q0_store, .inr (4, [.ref q0_store_equations, v0_store_yes, v0_store_no, .int f0_store_equationCount, v0_store_clauseCount, v0_store_equationsBefore, v0_store_clausesBefore, v0_store_levelCount])), (q0_store_equations, .inl (cL, n0_store_equations, .inr (.inl h0_store_equations))), (q0_base, .inr (2, [.int f0_base_n, .ref q0_base_byHead, .int (bI r0.2.2.1)])), (q0_base_byHead, .inl (cL, n0_base_byHead, .inr (.inl r0.2.2.2)))] sz) 1 6 (va_A [(q0, .inr (7, [v0_n, .long f0_variables, .ref q0_store, v0_tape, .ref q0_base, v0_blamed, v0_gateList, v0_taking, v0_search, .int (bI f0_rowsFresh), v0_gatesFresh, v0_latestFault, v0_latestNodes, v0_latestModel])), (q0_store, .inr (4, [.ref q0_store_equations, v0_store_yes, v0_store_no, .int f0_store_equationCount, v0_store_clauseCount, v0_store_equationsBefore, v0_store_clausesBefore, v0_store_levelCount])), (q0_store_equations, .inl (cL, n0_store_equations, .inr (.inl h0_store_equations))), (q0_base, .inr (2, [.int f0_base_n, .ref q0_base_byHead, .int (bI f0_base_impossible)])), (q0_base_byHead, .inl (cL, n0_base_byHead, .inr (.inl h0_base_byHead)))] sz) := by
  refine vx_ofW (cc := cX7_sum) (maxL := 5) (ret := (some .int)) (by decide) rfl ?_
  intro p e s m args below meth c s₁ B hml hnt hv
  obtain ⟨hargs, hsz, hP, hEV, hD0, hX⟩ := hv
  have hx := B.exec
  have hb := B.bytes
  have hr := B.returns
  have hts := atoms_spec (ws := wsX7_sum) B.pre
  have hown : s.vm.findClass RX7 = some m.cls := findClass_of_methodNamed B.named
  have hlocks := B.notSynchronized
  have hK := hEV.K
  have lk_0 := hts _ lk_0_X7_sum
  have lk_1 := hts _ lk_1_X7_sum
  have lk_2 := hts _ lk_2_X7_sum
  have lk_3 := hts _ lk_3_X7_sum
  have lk_4 := hts _ lk_4_X7_sum
  subst hsz
  unfold QiX PoW
  have hD := hD0.self (sz := s.heap.size)
  generalize hAe : va_A [(q0, .inr (7, [v0_n, .long f0_variables, .ref q0_store, v0_tape, .ref q0_base, v0_blamed, v0_gateList, v0_taking, v0_search, .int (bI f0_rowsFresh), v0_gatesFresh, v0_latestFault, v0_latestNodes, v0_latestModel])), (q0_store, .inr (4, [.ref q0_store_equations, v0_store_yes, v0_store_no, .int f0_store_equationCount, v0_store_clauseCount, v0_store_equationsBefore, v0_store_clausesBefore, v0_store_levelCount])), (q0_store_equations, .inl (cL, n0_store_equations, .inr (.inl h0_store_equations))), (q0_base, .inr (2, [.int f0_base_n, .ref q0_base_byHead, .int (bI f0_base_impossible)])), (q0_base_byHead, .inl (cL, n0_base_byHead, .inr (.inl h0_base_byHead)))] s.heap.size = A at hD hX ⊢
  have hA : ∀ q : Nat, s.heap.size ≤ q → A q := fun q h => by rw [← hAe]; exact Or.inr h
  have hent : entryFrame m args 5 = entryFrame m ([.ref q0, .long x1] : List Value).toArray 5 := by rw [hargs]
  rw [hent]
  refine kx_Q (fun Q hQ => ?_)
  refine kx_H (fun H hH => ?_)
  have hP : va_P D vwCl [(q0, .inr (7, [v0_n, .long f0_variables, .ref q0_store, v0_tape, .ref q0_base, v0_blamed, v0_gateList, v0_taking, v0_search, .int (bI f0_rowsFresh), v0_gatesFresh, v0_latestFault, v0_latestNodes, v0_latestModel])), (q0_store, .inr (4, [.ref q0_store_equations, v0_store_yes, v0_store_no, .int f0_store_equationCount, v0_store_clauseCount, v0_store_equationsBefore, v0_store_clausesBefore, v0_store_levelCount])), (q0_store_equations, .inl (cL, n0_store_equations, .inr (.inl h0_store_equations))), (q0_base, .inr (2, [.int f0_base_n, .ref q0_base_byHead, .int (bI f0_base_impossible)])), (q0_base_byHead, .inl (cL, n0_base_byHead, .inr (.inl h0_base_byHead)))] H := by rw [hH]; exact hP
  have hS : va_S A s.heap H [] := by rw [hH]; exact va_S.rf
  have hl := lv_entry ([.ref q0, .long x1]) (n := 5) (Nat.le_of_ble_eq_true rfl)
  rw [lg_entry_eq]
  generalize (lg_sl ([.ref q0, .long x1]) ++ List.replicate (5 - (lg_sl ([.ref q0, .long x1])).length) Slot.unset).toArray = ls at hl ⊢
  have hl : lv_has ls 5 [(0, .ref q0), (1, .long x1)] := hl
  have h := hr0
  unfold D_X7_sum at h
  refine lv_aload_n hx hb dX7_sum_0 rfl (lv_at hl 0 rfl) ?_
  refine lv_lload_n hx hb dX7_sum_1 rfl (lv_at hl 1 rfl) ?_
  obtain ⟨u_1, hu_2, h⟩ := co_b h
  refine kx_i (ws' := fun _ => [(q0, .inr (7, [v0_n, .long f0_variables, .ref q0_store, v0_tape, .ref q0_base, v0_blamed, v0_gateList, v0_taking, v0_search, .int (bI f0_rowsFresh), v0_gatesFresh, v0_latestFault, v0_latestNodes, v0_latestModel])), (q0_store, .inr (4, [.ref q0_store_equations, v0_store_yes, v0_store_no, .int f0_store_equationCount, v0_store_clauseCount, v0_store_equationsBefore, v0_store_clausesBefore, v0_store_levelCount])), (q0_store_equations, .inl (cL, n0_store_equations, .inr (.inl h0_store_equations))), (q0_base, .inr (2, [.int f0_base_n, .ref q0_base_byHead, .int (bI f0_base_impossible)])), (q0_base_byHead, .inl (cL, n0_base_byHead, .inr (.inl h0_base_byHead)))]) hP hD hS hA [0] [1, 2, 3, 4] [4, 0, 1, 2, 3] rfl rfl (by decide) (by decide) (fun _ => rfl) (by decide) (va_runV (As := [.long x1]) (rest := []) ⟨hx, hb, hml, hown, hts⟩ (cm_X7_areVariables l D cI cL (q0 := q0) (f0_variables := f0_variables) (v0_n := v0_n) (v0_store := .ref q0_store) (v0_tape := v0_tape) (v0_base := .ref q0_base) (v0_blamed := v0_blamed) (v0_gateList := v0_gateList) (v0_taking := v0_taking) (v0_search := v0_search) (v0_rowsFresh := .int (bI f0_rowsFresh)) (v0_gatesFresh := v0_gatesFresh) (v0_latestFault := v0_latestFault) (v0_latestNodes := v0_latestNodes) (v0_latestModel := v0_latestModel) (x1 := x1) (r0 := u_1) (hr0 := hu_2) (sz := H.size)) (cwV 1 hts gX7_sum_X7_areVariables rfl rfl rfl (by decide +kernel) ⟨Nat.le_of_ble_eq_true rfl, Nat.le_of_ble_eq_true rfl⟩) (kx_preV hEV hP hD [0] rfl (by decide) (k0 := 0) (ci := 7) rfl rfl rfl) rfl rfl hl.1 rfl (lv_room (Nat.le_of_ble_eq_true rfl)) dX7_sum_2 ⟨Nat.le_of_ble_eq_true rfl, Nat.le_of_ble_eq_true rfl⟩) (fun _ H locs _ hP hD hS => ?_)
  refine lv_if_ne (tgt := 18) hx hb dX7_sum_5 (by decide) (fun c_3 => ?_) (fun c_3 => ?_)
  · have k_4 : u_1 = true := (kx_nz c_3)
    have h := co_t k_4 h
    refine lv_aload_n hx hb dX7_sum_18 rfl (lv_at hl 0 rfl) ?_
    obtain ⟨u_5, hu_6, h⟩ := co_b h
    refine kx_v (ws' := fun _ => [(q0, .inr (7, [v0_n, .long f0_variables, .ref q0_store, v0_tape, .ref q0_base, v0_blamed, v0_gateList, v0_taking, v0_search, .int (bI u_5.1), v0_gatesFresh, v0_latestFault, v0_latestNodes, v0_latestModel])), (q0_store, .inr (4, [.ref q0_store_equations, v0_store_yes, v0_store_no, .int f0_store_equationCount, v0_store_clauseCount, v0_store_equationsBefore, v0_store_clausesBefore, v0_store_levelCount])), (q0_store_equations, .inl (cL, n0_store_equations, .inr (.inl h0_store_equations))), (q0_base, .inr (2, [.int f0_base_n, .ref q0_base_byHead, .int (bI u_5.2.1)])), (q0_base_byHead, .inl (cL, n0_base_byHead, .inr (.inl u_5.2.2)))]) hP hD hS hA [0, 1, 2, 3, 4] [] [0, 1, 2, 3, 4] rfl rfl (by decide) (by decide) (fun _ => rfl) (by decide) (va_runV (As := []) (rest := []) ⟨hx, hb, hml, hown, hts⟩ (cm_X7_freshenRows l D cI cL (q0 := q0) (q0_store := q0_store) (q0_store_equations := q0_store_equations) (q0_base := q0_base) (q0_base_byHead := q0_base_byHead) (n0_store_equations := n0_store_equations) (n0_base_byHead := n0_base_byHead) (f0_rowsFresh := f0_rowsFresh) (f0_store_equationCount := f0_store_equationCount) (h0_store_equations := h0_store_equations) (f0_base_n := f0_base_n) (f0_base_impossible := f0_base_impossible) (h0_base_byHead := h0_base_byHead) (v0_n := v0_n) (v0_variables := .long f0_variables) (v0_tape := v0_tape) (v0_blamed := v0_blamed) (v0_gateList := v0_gateList) (v0_taking := v0_taking) (v0_search := v0_search) (v0_gatesFresh := v0_gatesFresh) (v0_latestFault := v0_latestFault) (v0_latestNodes := v0_latestNodes) (v0_latestModel := v0_latestModel) (v0_store_yes := v0_store_yes) (v0_store_no := v0_store_no) (v0_store_clauseCount := v0_store_clauseCount) (v0_store_equationsBefore := v0_store_equationsBefore) (v0_store_clausesBefore := v0_store_clausesBefore) (v0_store_levelCount := v0_store_levelCount) (r0 := u_5) (hr0 := hu_6) (sz := H.size)) (cwV 0 hts gX7_sum_X7_freshenRows rfl rfl rfl (by decide +kernel) ⟨Nat.le_of_ble_eq_true rfl, Nat.le_of_ble_eq_true rfl⟩) (kx_preV hEV hP hD [0, 1, 2, 3, 4] rfl (by decide) (k0 := 0) (ci := 7) rfl rfl rfl) rfl rfl hl.1 rfl (lv_room (Nat.le_of_ble_eq_true rfl)) dX7_sum_19 ⟨Nat.le_of_ble_eq_true rfl, Nat.le_of_ble_eq_true rfl⟩) (fun _ H locs _ hP hD hS => ?_)
    refine lv_aload_n hx hb dX7_sum_22 rfl (lv_at hl 0 rfl) ?_
    refine va_get (D := D) (ci := 7) (v := .ref q0_base) (C := RX7) (T := TX7) (N := 14) hx hb hts in_X7_sum_X7 hown hK hP 0 rfl rfl 4 (by decide) lk_0 (fun _ h9 => h9) rfl dX7_sum_23 ?_
    refine va_get (D := D) (ci := 2) (v := .int (bI u_5.2.1)) (C := RX2) (T := TX2) (N := 3) hx hb hts in_X7_sum_X2 hown hK hP 3 rfl rfl 2 (by decide) lk_1 (fun _ h9 => h9) rfl dX7_sum_26 ?_
    refine lv_if_eq (tgt := 35) hx hb dX7_sum_29 (by decide) (fun c_7 => ?_) (fun c_7 => ?_)
    · have k_8 : ¬ (u_5.2.1 = true) := (kx_z c_7)
      have h := co_f k_8 h
      refine lv_aload_n hx hb dX7_sum_35 rfl (lv_at hl 0 rfl) ?_
      refine va_get (D := D) (ci := 7) (v := .ref q0_base) (C := RX7) (T := TX7) (N := 14) hx hb hts in_X7_sum_X7 hown hK hP 0 rfl rfl 4 (by decide) lk_0 (fun _ h9 => h9) rfl dX7_sum_36 ?_
      refine lv_lload_n hx hb dX7_sum_39 rfl (lv_at hl 1 rfl) ?_
      obtain ⟨u_9, hu_10, h⟩ := co_b h
      refine kx_l (ws' := fun _ => [(q0, .inr (7, [v0_n, .long f0_variables, .ref q0_store, v0_tape, .ref q0_base, v0_blamed, v0_gateList, v0_taking, v0_search, .int (bI u_5.1), v0_gatesFresh, v0_latestFault, v0_latestNodes, v0_latestModel])), (q0_store, .inr (4, [.ref q0_store_equations, v0_store_yes, v0_store_no, .int f0_store_equationCount, v0_store_clauseCount, v0_store_equationsBefore, v0_store_clausesBefore, v0_store_levelCount])), (q0_store_equations, .inl (cL, n0_store_equations, .inr (.inl h0_store_equations))), (q0_base, .inr (2, [.int f0_base_n, .ref q0_base_byHead, .int (bI u_5.2.1)])), (q0_base_byHead, .inl (cL, n0_base_byHead, .inr (.inl u_5.2.2)))]) hP hD hS hA [3, 4] [0, 1, 2] [0, 1, 2, 3, 4] rfl rfl (by decide) (by decide) (fun _ => rfl) (by decide) (va_runV (As := [.long x1]) (rest := []) ⟨hx, hb, hml, hown, hts⟩ (cm_X2_reduced l D cI cL (q0 := q0_base) (q0_byHead := q0_base_byHead) (n0_byHead := n0_base_byHead) (f0_n := f0_base_n) (h0_byHead := u_5.2.2) (v0_impossible := .int (bI u_5.2.1)) (x1 := x1) (r0 := u_9) (hr0 := hu_10) (sz := H.size)) (cwV 1 hts gX7_sum_X2_reduced rfl rfl rfl (by decide +kernel) ⟨Nat.le_of_ble_eq_true rfl, Nat.le_of_ble_eq_true rfl⟩) (kx_preV hEV hP hD [3, 4] rfl (by decide) (k0 := 3) (ci := 2) rfl rfl rfl) rfl rfl hl.1 rfl (lv_room (Nat.le_of_ble_eq_true rfl)) dX7_sum_40 ⟨Nat.le_of_ble_eq_true rfl, Nat.le_of_ble_eq_true rfl⟩) (fun _ H locs _ hP hD hS => ?_)
      refine lv_lstore_n (lv' := [(3, .long u_9), (0, .ref q0), (1, .long x1)]) hx hb dX7_sum_43 rfl hl (by decide) rfl (fun ls hl => ?_)
      refine lv_lload_n hx hb dX7_sum_44 rfl (lv_at hl 0 rfl) ?_
      refine lv_ldc2 hx hb hown lk_2 dX7_sum_45 ?_
      refine lv_land hx hb dX7_sum_48 ?_
      refine lv_lconst (v := (0 : Int64)) hx hb dX7_sum_49 (by decide) ?_
      refine W.lcmp hx hb dX7_sum_50 ?_
      refine lv_if_eq (tgt := 56) hx hb dX7_sum_51 (by decide) (fun c_11 => ?_) (fun c_11 => ?_)
      · have k_12 : (u_9 &&& (-4611686018427387905 : Int64)) = (0 : Int64) := ((lg_cmp_eq _ _).mp c_11)
        have h := co_t k_12 h
        refine lv_lload_n hx hb dX7_sum_56 rfl (lv_at hl 0 rfl) ?_
        refine lv_lconst (v := (0 : Int64)) hx hb dX7_sum_57 (by decide) ?_
        refine W.lcmp hx hb dX7_sum_58 ?_
        refine lv_if_eq (tgt := 66) hx hb dX7_sum_59 (by decide) (fun c_13 => ?_) (fun c_13 => ?_)
        · have k_14 : u_9 = (0 : Int64) := ((lg_cmp_eq _ _).mp c_13)
          have h := co_t k_14 h
          refine lv_iconst (v := (0 : Int32)) hx hb dX7_sum_66 (by decide) ?_
          have h := Option.some.inj h
          subst h
          subst hQ
          refine vx_ret ?_
          refine W.widen (k := 1) (n := 6) (by decide) (by decide) ?_
          exact W.iret (v := (0 : Int32)) hx hb hr (fun t ht hW => ⟨⟨(0 : Int32), (), rfl, rfl, by rw [ht]; exact hP, hD⟩, hS.F ht⟩) hS.2.2 dX7_sum_67
        · have k_14 : ¬ (u_9 = (0 : Int64)) := (fun z9 => c_13 ((lg_cmp_eq _ _).mpr z9))
          have h := co_f k_14 h
          refine lv_iconst (v := (1 : Int32)) hx hb dX7_sum_62 (by decide) ?_
          refine lv_goto (tgt := 67) hx hb dX7_sum_63 (by decide) ?_
          have h := Option.some.inj h
          subst h
          subst hQ
          refine vx_ret ?_
          refine W.widen (k := 1) (n := 6) (by decide) (by decide) ?_
          exact W.iret (v := (1 : Int32)) hx hb hr (fun t ht hW => ⟨⟨(1 : Int32), (), rfl, rfl, by rw [ht]; exact hP, hD⟩, hS.F ht⟩) hS.2.2 dX7_sum_67
      · have k_12 : ¬ ((u_9 &&& (-4611686018427387905 : Int64)) = (0 : Int64)) := (fun z9 => c_11 ((lg_cmp_eq _ _).mpr z9))
        have h := co_f k_12 h
        refine lv_iconst (v := (-1 : Int32)) hx hb dX7_sum_54 (by decide) ?_
        have h := Option.some.inj h
        subst h
        subst hQ
        refine vx_ret ?_
        refine W.widen (k := 1) (n := 6) (by decide) (by decide) ?_
        exact W.iret (v := (-1 : Int32)) hx hb hr (fun t ht hW => ⟨⟨(-1 : Int32), (), rfl, rfl, by rw [ht]; exact hP, hD⟩, hS.F ht⟩) hS.2.2 dX7_sum_55
    · have k_8 : u_5.2.1 = true := (kx_nz c_7)
      have h := co_t k_8 h
      refine lv_bipush (v := (-2 : Int32)) hx hb dX7_sum_32 (by decide) ?_
      have h := Option.some.inj h
      subst h
      subst hQ
      refine vx_ret ?_
      refine W.widen (k := 1) (n := 6) (by decide) (by decide) ?_
      exact W.iret (v := (-2 : Int32)) hx hb hr (fun t ht hW => ⟨⟨(-2 : Int32), (), rfl, rfl, by rw [ht]; exact hP, hD⟩, hS.F ht⟩) hS.2.2 dX7_sum_34
  · have k_4 : ¬ (u_1 = true) := (kx_z c_3)
    have h := co_f k_4 h
    have h := Option.some.inj h
    subst h
    subst hQ
    obtain ⟨sa9, hsa9⟩ := hX.2.2.2.2.2.2.2.2.2.2.2.2.2.2.2.2.2.2.2.2.2.1
    exact vx_throwS (cls := "java/lang/IllegalArgumentException") (names := ["java/lang/RuntimeException", "java/lang/Exception"]) hx hb hltr hown (by decide +kernel) (by decide +kernel) lk_3 lk_4 hsa9 (vx_hat (B := [.castable "java/lang/IllegalArgumentException" "java/lang/IllegalArgumentException", .declares dcR, .declares dcE, .declares dcT]) (fun w9 h9 => hts w9 (tw_X7_sum_90 w9 h9)) thb_X7_90 (vx_c (va_Nw.use rfl hX.2.2.1) (vx_c (va_Nw.use rfl hX.2.2.2.2.2.2.2.1) (vx_c (va_Nw.use rfl hX.2.2.2.2.2.2.2.2.1) (vx_c (va_Nw.use rfl hX.2.2.2.2.2.2.2.2.2.1) vx_n))))) thg_X7_90 hX.1 hX.2.1 hS (hl.1.trans hml.symm) dX7_sum_8 dX7_sum_11 dX7_sum_12 dX7_sum_14 dX7_sum_17 (fun x9 h9 => (hnt x9 h9).elim) (by decide) (Nat.le_of_ble_eq_true rfl) (by decide) (by decide) hlocks (ky_x (k := 0) hAe hP hD hS rfl rfl) hS.2.2 (by decide) (by decide)
theorem in_X7_follow_X5 : ∀ w ∈ wsX50, w ∈ wsX7_follow := by decide +kernel
theorem in_X7_follow_X7 : ∀ w ∈ wsX70, w ∈ wsX7_follow := by decide +kernel
theorem lk_0_X7_follow : Cond.fieldLink RX7 66 "ParityClauses" "taking" "LParityClauses$Taking;" ∈ wsX7_follow := by decide +kernel
theorem lk_1_X7_follow : Cond.fieldLink RX7 45 "ParityClauses" "base" "LParityClauses$Rows;" ∈ wsX7_follow := by decide +kernel
theorem lk_2_X7_follow : Cond.fieldLink RX7 29 "ParityClauses" "store" "LParityClauses$Store;" ∈ wsX7_follow := by decide +kernel
theorem lk_3_X7_follow : Cond.fieldLink RX7 231 "ParityClauses$Taking" "taken" "J" ∈ wsX7_follow := by decide +kernel
theorem lk_4_X7_follow : Cond.fieldLink RX7 228 "ParityClauses$Taking" "ones" "J" ∈ wsX7_follow := by decide +kernel
theorem lk_5_X7_follow : Cond.constantLong RX7 77 (-1) ∈ wsX7_follow := by decide +kernel
theorem lk_6_X7_follow : Cond.classLink RX7 86 "java/lang/IllegalArgumentException" ∈ wsX7_follow := by decide +kernel
theorem lk_7_X7_follow : Cond.initialized "java/lang/IllegalArgumentException" ∈ wsX7_follow := by decide +kernel
theorem tw_X7_follow_90 : ∀ w ∈ (vx_atS RX7 90 "java/lang/IllegalArgumentException" ["java/lang/RuntimeException", "java/lang/Exception"]).filter goodWord, w ∈ wsX7_follow := by decide +kernel
abbrev rm_X7_follow : Room := { frames := 6, cells := 1, slots := 6, locals := 151 }
set_option maxHeartbeats 4000000 in
set_option maxRecDepth 100000 in
theorem cm_X7_follow (l : Launch) (hltr : l.stackTraces = false) (D : va_G) (cI cL : ClassId) (q0 q0_store q0_store_equations q0_store_yes q0_store_no q0_base q0_base_byHead q0_taking q0_taking_rows q0_taking_rows_byHead : Nat) (n0_store_equations n0_store_yes n0_store_no n0_base_byHead n0_taking_rows_byHead : Nat) (f0_variables : Int64) (f0_rowsFresh : Bool) (f0_store_equationCount : Int32) (f0_store_clauseCount : Int32) (h0_store_equations : Nat → Int64) (h0_store_yes : Nat → Int64) (h0_store_no : Nat → Int64) (f0_base_n : Int32) (f0_base_impossible : Bool) (h0_base_byHead : Nat → Int64) (f0_taking_n : Int32) (f0_taking_taken : Int64) (f0_taking_ones : Int64) (f0_taking_rows_n : Int32) (f0_taking_rows_impossible : Bool) (h0_taking_rows_byHead : Nat → Int64) (v0_n v0_tape v0_blamed v0_gateList v0_search v0_gatesFresh v0_latestFault v0_latestNodes v0_latestModel v0_store_equationsBefore v0_store_clausesBefore v0_store_levelCount : Value) (x1 : Int64) (x3 : Int64) (x5 : Bool) (r0 : (Int64 ⊕ Nat) × Bool × Bool × (Nat → Int64) × Int64 × Int64 × Bool × (Nat → Int64)) (hr0 : D_X7_follow f0_variables f0_rowsFresh f0_store_equationCount f0_store_clauseCount n0_store_equations h0_store_equations n0_store_yes h0_store_yes n0_store_no h0_store_no f0_base_n f0_base_impossible n0_base_byHead h0_base_byHead f0_taking_n f0_taking_taken f0_taking_ones f0_taking_rows_n f0_taking_rows_impossible n0_taking_rows_byHead h0_taking_rows_byHead x1 x3 x5 = some r0) (sz : Nat) : vx_Met l yX7_follow wsX7_follow rm_X7_follow (PcX D cI cL [.ref q0, .long x1, .long x3, .int (bI x5)] [(q0, .inr (7, [v0_n, .long f0_variables, .ref q0_store, v0_tape, .ref q0_base, v0_blamed, v0_gateList, .ref q0_taking, v0_search, .int (bI f0_rowsFresh), v0_gatesFresh, v0_latestFault, v0_latestNodes, v0_latestModel])), (q0_store, .inr (4, [.ref q0_store_equations, .ref q0_store_yes, .ref q0_store_no, .int f0_store_equationCount, .int f0_store_clauseCount, v0_store_equationsBefore, v0_store_clausesBefore, v0_store_levelCount])), (q0_store_equations, .inl (cL, n0_store_equations, .inr (.inl h0_store_equations))), (q0_store_yes, .inl (cL, n0_store_yes, .inr (.inl h0_store_yes))), (q0_store_no, .inl (cL, n0_store_no, .inr (.inl h0_store_no))), (q0_base, .inr (2, [.int f0_base_n, .ref q0_base_byHead, .int (bI f0_base_impossible)])), (q0_base_byHead, .inl (cL, n0_base_byHead, .inr (.inl h0_base_byHead))), (q0_taking, .inr (5, [.int f0_taking_n, .ref q0_taking_rows, .long f0_taking_taken, .long f0_taking_ones])), (q0_taking_rows, .inr (2, [.int f0_taking_rows_n, .ref q0_taking_rows_byHead, .int (bI f0_taking_rows_impossible)])), (q0_taking_rows_byHead, .inl (cL, n0_taking_rows_byHead, .inr (.inl h0_taking_rows_byHead)))] sz) (QlX D [(q0, .inr (7, [v0_n, .long f0_variables, .ref q0_store, v0_tape, .ref q0_base, v0_blamed, v0_gateList, .ref q0_taking, v0_search, .int (bI f0_rowsFresh), v0_gatesFresh, v0_latestFault, v0_latestNodes, v0_latestModel])), (q0_store, .inr (4, [.ref q0_store_equations, .ref q0_store_yes, .ref q0_store_no, .int f0_store_equationCount, .int f0_store_clauseCount, v0_store_equationsBefore, v0_store_clausesBefore, v0_store_levelCount])), (q0_store_equations, .inl (cL, n0_store_equations, .inr (.inl h0_store_equations))), (q0_store_yes, .inl (cL, n0_store_yes, .inr (.inl h0_store_yes))), (q0_store_no, .inl (cL, n0_store_no, .inr (.inl h0_store_no))), (q0_base, .inr (2, [.int f0_base_n, .ref q0_base_byHead, .int (bI f0_base_impossible)])), (q0_base_byHead, .inl (cL, n0_base_byHead, .inr (.inl h0_base_byHead))), (q0_taking, .inr (5, [.int f0_taking_n, .ref q0_taking_rows, .long f0_taking_taken, .long f0_taking_ones])), (q0_taking_rows, .inr (2, [.int f0_taking_rows_n, .ref q0_taking_rows_byHead, .int (bI f0_taking_rows_impossible)])), (q0_taking_rows_byHead, .inl (cL, n0_taking_rows_byHead, .inr (.inl h0_taking_rows_byHead)))] r0.1 [(q0, .inr (7, [v0_n, .long f0_variables, .ref q0_store, v0_tape, .ref q0_base, v0_blamed, v0_gateList, .ref q0_taking, v0_search, .int (bI r0.2.1), v0_gatesFresh, v0_latestFault, v0_latestNodes, v0_latestModel])), (q0_store, .inr (4, [.ref q0_store_equations, .ref q0_store_yes, .ref q0_store_no, .int f0_store_equationCount, .int f0_store_clauseCount, v0_store_equationsBefore, v0_store_clausesBefore, v0_store_levelCount])), (q0_store_equations, .inl (cL, n0_store_equations, .inr (.inl h0_store_equations))), (q0_store_yes, .inl (cL, n0_store_yes, .inr (.inl h0_store_yes))), (q0_store_no, .inl (cL, n0_store_no, .inr (.inl h0_store_no))), (q0_base, .inr (2, [.int f0_base_n, .ref q0_base_byHead, .int (bI r0.2.2.1)])), (q0_base_byHead, .inl (cL, n0_base_byHead, .inr (.inl r0.2.2.2.1))), (q0_taking, .inr (5, [.int f0_taking_n, .ref q0_taking_rows, .long r0.2.2.2.2.1, .long r0.2.2.2.2.2.1])), (q0_taking_rows, .inr (2, [.int f0_taking_rows_n, .ref q0_taking_rows_byHead, .int (bI r0.2.2.2.2.2.2.1)])), (q0_taking_rows_byHead, .inl (cL, n0_taking_rows_byHead, .inr (.inl r0.2.2.2.2.2.2.2)))] sz) (XCW D [(q0, .inr (7, [v0_n, .long f0_variables, .ref q0_store, v0_tape, .ref q0_base, v0_blamed, v0_gateList, .ref q0_taking, v0_search, .int (bI f0_rowsFresh), v0_gatesFresh, v0_latestFault, v0_latestNodes, v0_latestModel])), (q0_store, .inr (4, [.ref q0_store_equations, .ref q0_store_yes, .ref q0_store_no, .int f0_store_equationCount, .int f0_store_clauseCount, v0_store_equationsBefore, v0_store_clausesBefore, v0_store_levelCount])), (q0_store_equations, .inl (cL, n0_store_equations, .inr (.inl h0_store_equations))), (q0_store_yes, .inl (cL, n0_store_yes, .inr (.inl h0_store_yes))), (q0_store_no, .inl (cL, n0_store_no, .inr (.inl h0_store_no))), (q0_base, .inr (2, [.int f0_base_n, .ref q0_base_byHead, .int (bI f0_base_impossible)])), (q0_base_byHead, .inl (cL, n0_base_byHead, .inr (.inl h0_base_byHead))), (q0_taking, .inr (5, [.int f0_taking_n, .ref q0_taking_rows, .long f0_taking_taken, .long f0_taking_ones])), (q0_taking_rows, .inr (2, [.int f0_taking_rows_n, .ref q0_taking_rows_byHead, .int (bI f0_taking_rows_impossible)])), (q0_taking_rows_byHead, .inl (cL, n0_taking_rows_byHead, .inr (.inl h0_taking_rows_byHead)))] r0.1 [(q0, .inr (7, [v0_n, .long f0_variables, .ref q0_store, v0_tape, .ref q0_base, v0_blamed, v0_gateList, .ref q0_taking, v0_search, .int (bI r0.2.1), v0_gatesFresh, v0_latestFault, v0_latestNodes, v0_latestModel])), (q0_store, .inr (4, [.ref q0_store_equations, .ref q0_store_yes, .ref q0_store_no, .int f0_store_equationCount, .int f0_store_clauseCount, v0_store_equationsBefore, v0_store_clausesBefore, v0_store_levelCount])), (q0_store_equations, .inl (cL, n0_store_equations, .inr (.inl h0_store_equations))), (q0_store_yes, .inl (cL, n0_store_yes, .inr (.inl h0_store_yes))), (q0_store_no, .inl (cL, n0_store_no, .inr (.inl h0_store_no))), (q0_base, .inr (2, [.int f0_base_n, .ref q0_base_byHead, .int (bI r0.2.2.1)])), (q0_base_byHead, .inl (cL, n0_base_byHead, .inr (.inl r0.2.2.2.1))), (q0_taking, .inr (5, [.int f0_taking_n, .ref q0_taking_rows, .long r0.2.2.2.2.1, .long r0.2.2.2.2.2.1])), (q0_taking_rows, .inr (2, [.int f0_taking_rows_n, .ref q0_taking_rows_byHead, .int (bI r0.2.2.2.2.2.2.1)])), (q0_taking_rows_byHead, .inl (cL, n0_taking_rows_byHead, .inr (.inl r0.2.2.2.2.2.2.2)))] sz) 1 6 (va_A [(q0, .inr (7, [v0_n, .long f0_variables, .ref q0_store, v0_tape, .ref q0_base, v0_blamed, v0_gateList, .ref q0_taking, v0_search, .int (bI f0_rowsFresh), v0_gatesFresh, v0_latestFault, v0_latestNodes, v0_latestModel])), (q0_store, .inr (4, [.ref q0_store_equations, .ref q0_store_yes, .ref q0_store_no, .int f0_store_equationCount, .int f0_store_clauseCount, v0_store_equationsBefore, v0_store_clausesBefore, v0_store_levelCount])), (q0_store_equations, .inl (cL, n0_store_equations, .inr (.inl h0_store_equations))), (q0_store_yes, .inl (cL, n0_store_yes, .inr (.inl h0_store_yes))), (q0_store_no, .inl (cL, n0_store_no, .inr (.inl h0_store_no))), (q0_base, .inr (2, [.int f0_base_n, .ref q0_base_byHead, .int (bI f0_base_impossible)])), (q0_base_byHead, .inl (cL, n0_base_byHead, .inr (.inl h0_base_byHead))), (q0_taking, .inr (5, [.int f0_taking_n, .ref q0_taking_rows, .long f0_taking_taken, .long f0_taking_ones])), (q0_taking_rows, .inr (2, [.int f0_taking_rows_n, .ref q0_taking_rows_byHead, .int (bI f0_taking_rows_impossible)])), (q0_taking_rows_byHead, .inl (cL, n0_taking_rows_byHead, .inr (.inl h0_taking_rows_byHead)))] sz) := by
  refine vx_ofW (cc := cX7_follow) (maxL := 6) (ret := (some .long)) (by decide) rfl ?_
  intro p e s m args below meth c s₁ B hml hnt hv
  obtain ⟨hargs, hsz, hP, hEV, hD0, hX⟩ := hv
  have hx := B.exec
  have hb := B.bytes
  have hr := B.returns
  have hts := atoms_spec (ws := wsX7_follow) B.pre
  have hown : s.vm.findClass RX7 = some m.cls := findClass_of_methodNamed B.named
  have hlocks := B.notSynchronized
  have hK := hEV.K
  have lk_0 := hts _ lk_0_X7_follow
  have lk_1 := hts _ lk_1_X7_follow
  have lk_2 := hts _ lk_2_X7_follow
  have lk_3 := hts _ lk_3_X7_follow
  have lk_4 := hts _ lk_4_X7_follow
  have lk_5 := hts _ lk_5_X7_follow
  have lk_6 := hts _ lk_6_X7_follow
  have lk_7 := hts _ lk_7_X7_follow
  subst hsz
  unfold QlX PoW
  have hD := hD0.self (sz := s.heap.size)
  generalize hAe : va_A [(q0, .inr (7, [v0_n, .long f0_variables, .ref q0_store, v0_tape, .ref q0_base, v0_blamed, v0_gateList, .ref q0_taking, v0_search, .int (bI f0_rowsFresh), v0_gatesFresh, v0_latestFault, v0_latestNodes, v0_latestModel])), (q0_store, .inr (4, [.ref q0_store_equations, .ref q0_store_yes, .ref q0_store_no, .int f0_store_equationCount, .int f0_store_clauseCount, v0_store_equationsBefore, v0_store_clausesBefore, v0_store_levelCount])), (q0_store_equations, .inl (cL, n0_store_equations, .inr (.inl h0_store_equations))), (q0_store_yes, .inl (cL, n0_store_yes, .inr (.inl h0_store_yes))), (q0_store_no, .inl (cL, n0_store_no, .inr (.inl h0_store_no))), (q0_base, .inr (2, [.int f0_base_n, .ref q0_base_byHead, .int (bI f0_base_impossible)])), (q0_base_byHead, .inl (cL, n0_base_byHead, .inr (.inl h0_base_byHead))), (q0_taking, .inr (5, [.int f0_taking_n, .ref q0_taking_rows, .long f0_taking_taken, .long f0_taking_ones])), (q0_taking_rows, .inr (2, [.int f0_taking_rows_n, .ref q0_taking_rows_byHead, .int (bI f0_taking_rows_impossible)])), (q0_taking_rows_byHead, .inl (cL, n0_taking_rows_byHead, .inr (.inl h0_taking_rows_byHead)))] s.heap.size = A at hD hX ⊢
  have hA : ∀ q : Nat, s.heap.size ≤ q → A q := fun q h => by rw [← hAe]; exact Or.inr h
  have hent : entryFrame m args 6 = entryFrame m ([.ref q0, .long x1, .long x3, .int (bI x5)] : List Value).toArray 6 := by rw [hargs]
  rw [hent]
  refine kx_Q (fun Q hQ => ?_)
  refine kx_H (fun H hH => ?_)
  have hP : va_P D vwCl [(q0, .inr (7, [v0_n, .long f0_variables, .ref q0_store, v0_tape, .ref q0_base, v0_blamed, v0_gateList, .ref q0_taking, v0_search, .int (bI f0_rowsFresh), v0_gatesFresh, v0_latestFault, v0_latestNodes, v0_latestModel])), (q0_store, .inr (4, [.ref q0_store_equations, .ref q0_store_yes, .ref q0_store_no, .int f0_store_equationCount, .int f0_store_clauseCount, v0_store_equationsBefore, v0_store_clausesBefore, v0_store_levelCount])), (q0_store_equations, .inl (cL, n0_store_equations, .inr (.inl h0_store_equations))), (q0_store_yes, .inl (cL, n0_store_yes, .inr (.inl h0_store_yes))), (q0_store_no, .inl (cL, n0_store_no, .inr (.inl h0_store_no))), (q0_base, .inr (2, [.int f0_base_n, .ref q0_base_byHead, .int (bI f0_base_impossible)])), (q0_base_byHead, .inl (cL, n0_base_byHead, .inr (.inl h0_base_byHead))), (q0_taking, .inr (5, [.int f0_taking_n, .ref q0_taking_rows, .long f0_taking_taken, .long f0_taking_ones])), (q0_taking_rows, .inr (2, [.int f0_taking_rows_n, .ref q0_taking_rows_byHead, .int (bI f0_taking_rows_impossible)])), (q0_taking_rows_byHead, .inl (cL, n0_taking_rows_byHead, .inr (.inl h0_taking_rows_byHead)))] H := by rw [hH]; exact hP
  have hS : va_S A s.heap H [] := by rw [hH]; exact va_S.rf
  have hl := lv_entry ([.ref q0, .long x1, .long x3, .int (bI x5)]) (n := 6) (Nat.le_of_ble_eq_true rfl)
  rw [lg_entry_eq]
  generalize (lg_sl ([.ref q0, .long x1, .long x3, .int (bI x5)]) ++ List.replicate (6 - (lg_sl ([.ref q0, .long x1, .long x3, .int (bI x5)])).length) Slot.unset).toArray = ls at hl ⊢
  have hl : lv_has ls 6 [(0, .ref q0), (1, .long x1), (3, .long x3), (5, .int (bI x5))] := hl
  have h := hr0
  unfold D_X7_follow at h
  refine lv_aload_n hx hb dX7_follow_0 rfl (lv_at hl 0 rfl) ?_
  refine lv_lload_n hx hb dX7_follow_1 rfl (lv_at hl 1 rfl) ?_
  refine lv_lload_n hx hb dX7_follow_2 rfl (lv_at hl 2 rfl) ?_
  obtain ⟨u_1, hu_2, h⟩ := co_b h
  refine kx_i (ws' := fun _ => [(q0, .inr (7, [v0_n, .long f0_variables, .ref q0_store, v0_tape, .ref q0_base, v0_blamed, v0_gateList, .ref q0_taking, v0_search, .int (bI f0_rowsFresh), v0_gatesFresh, v0_latestFault, v0_latestNodes, v0_latestModel])), (q0_store, .inr (4, [.ref q0_store_equations, .ref q0_store_yes, .ref q0_store_no, .int f0_store_equationCount, .int f0_store_clauseCount, v0_store_equationsBefore, v0_store_clausesBefore, v0_store_levelCount])), (q0_store_equations, .inl (cL, n0_store_equations, .inr (.inl h0_store_equations))), (q0_store_yes, .inl (cL, n0_store_yes, .inr (.inl h0_store_yes))), (q0_store_no, .inl (cL, n0_store_no, .inr (.inl h0_store_no))), (q0_base, .inr (2, [.int f0_base_n, .ref q0_base_byHead, .int (bI f0_base_impossible)])), (q0_base_byHead, .inl (cL, n0_base_byHead, .inr (.inl h0_base_byHead))), (q0_taking, .inr (5, [.int f0_taking_n, .ref q0_taking_rows, .long f0_taking_taken, .long f0_taking_ones])), (q0_taking_rows, .inr (2, [.int f0_taking_rows_n, .ref q0_taking_rows_byHead, .int (bI f0_taking_rows_impossible)])), (q0_taking_rows_byHead, .inl (cL, n0_taking_rows_byHead, .inr (.inl h0_taking_rows_byHead)))]) hP hD hS hA [0] [1, 2, 3, 4, 5, 6, 7, 8, 9] [9, 0, 1, 2, 3, 4, 5, 6, 7, 8] rfl rfl (by decide) (by decide) (fun _ => rfl) (by decide) (va_runV (As := [.long x1, .long x3]) (rest := []) ⟨hx, hb, hml, hown, hts⟩ (cm_X7_areTwoSets l D cI cL (q0 := q0) (f0_variables := f0_variables) (v0_n := v0_n) (v0_store := .ref q0_store) (v0_tape := v0_tape) (v0_base := .ref q0_base) (v0_blamed := v0_blamed) (v0_gateList := v0_gateList) (v0_taking := .ref q0_taking) (v0_search := v0_search) (v0_rowsFresh := .int (bI f0_rowsFresh)) (v0_gatesFresh := v0_gatesFresh) (v0_latestFault := v0_latestFault) (v0_latestNodes := v0_latestNodes) (v0_latestModel := v0_latestModel) (x1 := x1) (x3 := x3) (r0 := u_1) (hr0 := hu_2) (sz := H.size)) (cwV 2 hts gX7_follow_X7_areTwoSets rfl rfl rfl (by decide +kernel) ⟨Nat.le_of_ble_eq_true rfl, Nat.le_of_ble_eq_true rfl⟩) (kx_preV hEV hP hD [0] rfl (by decide) (k0 := 0) (ci := 7) rfl rfl rfl) rfl rfl hl.1 rfl (lv_room (Nat.le_of_ble_eq_true rfl)) dX7_follow_3 ⟨Nat.le_of_ble_eq_true rfl, Nat.le_of_ble_eq_true rfl⟩) (fun _ H locs _ hP hD hS => ?_)
  refine lv_if_ne (tgt := 19) hx hb dX7_follow_6 (by decide) (fun c_3 => ?_) (fun c_3 => ?_)
  · have k_4 : u_1 = true := (kx_nz c_3)
    have h := co_t k_4 h
    refine lv_aload_n hx hb dX7_follow_19 rfl (lv_at hl 0 rfl) ?_
    obtain ⟨u_5, hu_6, h⟩ := co_b h
    refine kx_v (ws' := fun _ => [(q0, .inr (7, [v0_n, .long f0_variables, .ref q0_store, v0_tape, .ref q0_base, v0_blamed, v0_gateList, .ref q0_taking, v0_search, .int (bI u_5.1), v0_gatesFresh, v0_latestFault, v0_latestNodes, v0_latestModel])), (q0_store, .inr (4, [.ref q0_store_equations, .ref q0_store_yes, .ref q0_store_no, .int f0_store_equationCount, .int f0_store_clauseCount, v0_store_equationsBefore, v0_store_clausesBefore, v0_store_levelCount])), (q0_store_equations, .inl (cL, n0_store_equations, .inr (.inl h0_store_equations))), (q0_store_yes, .inl (cL, n0_store_yes, .inr (.inl h0_store_yes))), (q0_store_no, .inl (cL, n0_store_no, .inr (.inl h0_store_no))), (q0_base, .inr (2, [.int f0_base_n, .ref q0_base_byHead, .int (bI u_5.2.1)])), (q0_base_byHead, .inl (cL, n0_base_byHead, .inr (.inl u_5.2.2))), (q0_taking, .inr (5, [.int f0_taking_n, .ref q0_taking_rows, .long f0_taking_taken, .long f0_taking_ones])), (q0_taking_rows, .inr (2, [.int f0_taking_rows_n, .ref q0_taking_rows_byHead, .int (bI f0_taking_rows_impossible)])), (q0_taking_rows_byHead, .inl (cL, n0_taking_rows_byHead, .inr (.inl h0_taking_rows_byHead)))]) hP hD hS hA [0, 1, 2, 5, 6] [3, 4, 7, 8, 9] [5, 6, 7, 0, 1, 8, 9, 2, 3, 4] rfl rfl (by decide) (by decide) (fun _ => rfl) (by decide) (va_runV (As := []) (rest := []) ⟨hx, hb, hml, hown, hts⟩ (cm_X7_freshenRows l D cI cL (q0 := q0) (q0_store := q0_store) (q0_store_equations := q0_store_equations) (q0_base := q0_base) (q0_base_byHead := q0_base_byHead) (n0_store_equations := n0_store_equations) (n0_base_byHead := n0_base_byHead) (f0_rowsFresh := f0_rowsFresh) (f0_store_equationCount := f0_store_equationCount) (h0_store_equations := h0_store_equations) (f0_base_n := f0_base_n) (f0_base_impossible := f0_base_impossible) (h0_base_byHead := h0_base_byHead) (v0_n := v0_n) (v0_variables := .long f0_variables) (v0_tape := v0_tape) (v0_blamed := v0_blamed) (v0_gateList := v0_gateList) (v0_taking := .ref q0_taking) (v0_search := v0_search) (v0_gatesFresh := v0_gatesFresh) (v0_latestFault := v0_latestFault) (v0_latestNodes := v0_latestNodes) (v0_latestModel := v0_latestModel) (v0_store_yes := .ref q0_store_yes) (v0_store_no := .ref q0_store_no) (v0_store_clauseCount := .int f0_store_clauseCount) (v0_store_equationsBefore := v0_store_equationsBefore) (v0_store_clausesBefore := v0_store_clausesBefore) (v0_store_levelCount := v0_store_levelCount) (r0 := u_5) (hr0 := hu_6) (sz := H.size)) (cwV 0 hts gX7_follow_X7_freshenRows rfl rfl rfl (by decide +kernel) ⟨Nat.le_of_ble_eq_true rfl, Nat.le_of_ble_eq_true rfl⟩) (kx_preV hEV hP hD [0, 1, 2, 5, 6] rfl (by decide) (k0 := 0) (ci := 7) rfl rfl rfl) rfl rfl hl.1 rfl (lv_room (Nat.le_of_ble_eq_true rfl)) dX7_follow_20 ⟨Nat.le_of_ble_eq_true rfl, Nat.le_of_ble_eq_true rfl⟩) (fun _ H locs _ hP hD hS => ?_)
    refine lv_aload_n hx hb dX7_follow_23 rfl (lv_at hl 0 rfl) ?_
    refine va_get (D := D) (ci := 7) (v := .ref q0_taking) (C := RX7) (T := TX7) (N := 14) hx hb hts in_X7_follow_X7 hown hK hP 0 rfl rfl 7 (by decide) lk_0 (fun _ h9 => h9) rfl dX7_follow_24 ?_
    refine lv_aload_n hx hb dX7_follow_27 rfl (lv_at hl 0 rfl) ?_
    refine va_get (D := D) (ci := 7) (v := .ref q0_base) (C := RX7) (T := TX7) (N := 14) hx hb hts in_X7_follow_X7 hown hK hP 0 rfl rfl 4 (by decide) lk_1 (fun _ h9 => h9) rfl dX7_follow_28 ?_
    obtain ⟨u_7, hu_8, h⟩ := co_b h
    refine kx_v (ws' := fun _ => [(q0, .inr (7, [v0_n, .long f0_variables, .ref q0_store, v0_tape, .ref q0_base, v0_blamed, v0_gateList, .ref q0_taking, v0_search, .int (bI u_5.1), v0_gatesFresh, v0_latestFault, v0_latestNodes, v0_latestModel])), (q0_store, .inr (4, [.ref q0_store_equations, .ref q0_store_yes, .ref q0_store_no, .int f0_store_equationCount, .int f0_store_clauseCount, v0_store_equationsBefore, v0_store_clausesBefore, v0_store_levelCount])), (q0_store_equations, .inl (cL, n0_store_equations, .inr (.inl h0_store_equations))), (q0_store_yes, .inl (cL, n0_store_yes, .inr (.inl h0_store_yes))), (q0_store_no, .inl (cL, n0_store_no, .inr (.inl h0_store_no))), (q0_base, .inr (2, [.int f0_base_n, .ref q0_base_byHead, .int (bI u_5.2.1)])), (q0_base_byHead, .inl (cL, n0_base_byHead, .inr (.inl u_5.2.2))), (q0_taking, .inr (5, [.int f0_taking_n, .ref q0_taking_rows, .long u_7.1, .long u_7.2.1])), (q0_taking_rows, .inr (2, [.int f0_taking_rows_n, .ref q0_taking_rows_byHead, .int (bI u_7.2.2.1)])), (q0_taking_rows_byHead, .inl (cL, n0_taking_rows_byHead, .inr (.inl u_7.2.2.2)))]) hP hD hS hA [7, 8, 9, 5, 6] [0, 1, 2, 3, 4] [0, 1, 2, 3, 4, 8, 9, 5, 6, 7] rfl rfl (by decide) (by decide) (fun _ => rfl) (by decide) (va_runV (As := [.ref q0_base]) (rest := []) ⟨hx, hb, hml, hown, hts⟩ (cm_X5_begin l D cI cL (q0 := q0_taking) (q0_rows := q0_taking_rows) (q0_rows_byHead := q0_taking_rows_byHead) (q1 := q0_base) (q1_byHead := q0_base_byHead) (n0_rows_byHead := n0_taking_rows_byHead) (n1_byHead := n0_base_byHead) (f0_taken := f0_taking_taken) (f0_ones := f0_taking_ones) (f0_rows_n := f0_taking_rows_n) (f0_rows_impossible := f0_taking_rows_impossible) (h0_rows_byHead := h0_taking_rows_byHead) (f1_n := f0_base_n) (f1_impossible := u_5.2.1) (h1_byHead := u_5.2.2) (v0_n := .int f0_taking_n) (r0 := u_7) (hr0 := hu_8) (sz := H.size)) (cwV 1 hts gX7_follow_X5_begin rfl rfl rfl (by decide +kernel) ⟨Nat.le_of_ble_eq_true rfl, Nat.le_of_ble_eq_true rfl⟩) (kx_preV hEV hP hD [7, 8, 9, 5, 6] rfl (by decide) (k0 := 7) (ci := 5) rfl rfl rfl) rfl rfl hl.1 rfl (lv_room (Nat.le_of_ble_eq_true rfl)) dX7_follow_31 ⟨Nat.le_of_ble_eq_true rfl, Nat.le_of_ble_eq_true rfl⟩) (fun _ H locs _ hP hD hS => ?_)
    refine lv_aload_n hx hb dX7_follow_34 rfl (lv_at hl 0 rfl) ?_
    refine va_get (D := D) (ci := 7) (v := .ref q0_taking) (C := RX7) (T := TX7) (N := 14) hx hb hts in_X7_follow_X7 hown hK hP 0 rfl rfl 7 (by decide) lk_0 (fun _ h9 => h9) rfl dX7_follow_35 ?_
    refine lv_lload_n hx hb dX7_follow_38 rfl (lv_at hl 1 rfl) ?_
    refine lv_lload_n hx hb dX7_follow_39 rfl (lv_at hl 2 rfl) ?_
    obtain ⟨u_9, hu_10, h⟩ := co_b h
    refine kx_v (ws' := fun _ => [(q0, .inr (7, [v0_n, .long f0_variables, .ref q0_store, v0_tape, .ref q0_base, v0_blamed, v0_gateList, .ref q0_taking, v0_search, .int (bI u_5.1), v0_gatesFresh, v0_latestFault, v0_latestNodes, v0_latestModel])), (q0_store, .inr (4, [.ref q0_store_equations, .ref q0_store_yes, .ref q0_store_no, .int f0_store_equationCount, .int f0_store_clauseCount, v0_store_equationsBefore, v0_store_clausesBefore, v0_store_levelCount])), (q0_store_equations, .inl (cL, n0_store_equations, .inr (.inl h0_store_equations))), (q0_store_yes, .inl (cL, n0_store_yes, .inr (.inl h0_store_yes))), (q0_store_no, .inl (cL, n0_store_no, .inr (.inl h0_store_no))), (q0_base, .inr (2, [.int f0_base_n, .ref q0_base_byHead, .int (bI u_5.2.1)])), (q0_base_byHead, .inl (cL, n0_base_byHead, .inr (.inl u_5.2.2))), (q0_taking, .inr (5, [.int f0_taking_n, .ref q0_taking_rows, .long u_9.1, .long u_9.2.1])), (q0_taking_rows, .inr (2, [.int f0_taking_rows_n, .ref q0_taking_rows_byHead, .int (bI u_9.2.2.1)])), (q0_taking_rows_byHead, .inl (cL, n0_taking_rows_byHead, .inr (.inl u_9.2.2.2)))]) hP hD hS hA [7, 8, 9] [0, 1, 2, 3, 4, 5, 6] [0, 1, 2, 3, 4, 5, 6, 7, 8, 9] rfl rfl (by decide) (by decide) (fun _ => rfl) (by decide) (va_runV (As := [.long x1, .long x3]) (rest := []) ⟨hx, hb, hml, hown, hts⟩ (cm_X5_takeAll l D cI cL (q0 := q0_taking) (q0_rows := q0_taking_rows) (q0_rows_byHead := q0_taking_rows_byHead) (n0_rows_byHead := n0_taking_rows_byHead) (f0_n := f0_taking_n) (f0_taken := u_7.1) (f0_ones := u_7.2.1) (f0_rows_n := f0_taking_rows_n) (f0_rows_impossible := u_7.2.2.1) (h0_rows_byHead := u_7.2.2.2) (x1 := x1) (x3 := x3) (r0 := u_9) (hr0 := hu_10) (sz := H.size)) (cwV 2 hts gX7_follow_X5_takeAll rfl rfl rfl (by decide +kernel) ⟨Nat.le_of_ble_eq_true rfl, Nat.le_of_ble_eq_true rfl⟩) (kx_preV hEV hP hD [7, 8, 9] rfl (by decide) (k0 := 7) (ci := 5) rfl rfl rfl) rfl rfl hl.1 rfl (lv_room (Nat.le_of_ble_eq_true rfl)) dX7_follow_40 ⟨Nat.le_of_ble_eq_true rfl, Nat.le_of_ble_eq_true rfl⟩) (fun _ H locs _ hP hD hS => ?_)
    refine lv_aload_n hx hb dX7_follow_43 rfl (lv_at hl 0 rfl) ?_
    refine va_get (D := D) (ci := 7) (v := .ref q0_taking) (C := RX7) (T := TX7) (N := 14) hx hb hts in_X7_follow_X7 hown hK hP 0 rfl rfl 7 (by decide) lk_0 (fun _ h9 => h9) rfl dX7_follow_44 ?_
    refine lv_aload_n hx hb dX7_follow_47 rfl (lv_at hl 0 rfl) ?_
    refine va_get (D := D) (ci := 7) (v := .ref q0_store) (C := RX7) (T := TX7) (N := 14) hx hb hts in_X7_follow_X7 hown hK hP 0 rfl rfl 2 (by decide) lk_2 (fun _ h9 => h9) rfl dX7_follow_48 ?_
    obtain ⟨u_11, hu_12, h⟩ := co_b h
    refine kx_i (ws' := fun _ => [(q0, .inr (7, [v0_n, .long f0_variables, .ref q0_store, v0_tape, .ref q0_base, v0_blamed, v0_gateList, .ref q0_taking, v0_search, .int (bI u_5.1), v0_gatesFresh, v0_latestFault, v0_latestNodes, v0_latestModel])), (q0_store, .inr (4, [.ref q0_store_equations, .ref q0_store_yes, .ref q0_store_no, .int f0_store_equationCount, .int f0_store_clauseCount, v0_store_equationsBefore, v0_store_clausesBefore, v0_store_levelCount])), (q0_store_equations, .inl (cL, n0_store_equations, .inr (.inl h0_store_equations))), (q0_store_yes, .inl (cL, n0_store_yes, .inr (.inl h0_store_yes))), (q0_store_no, .inl (cL, n0_store_no, .inr (.inl h0_store_no))), (q0_base, .inr (2, [.int f0_base_n, .ref q0_base_byHead, .int (bI u_5.2.1)])), (q0_base_byHead, .inl (cL, n0_base_byHead, .inr (.inl u_5.2.2))), (q0_taking, .inr (5, [.int f0_taking_n, .ref q0_taking_rows, .long u_11.2.1, .long u_11.2.2.1])), (q0_taking_rows, .inr (2, [.int f0_taking_rows_n, .ref q0_taking_rows_byHead, .int (bI u_11.2.2.2.1)])), (q0_taking_rows_byHead, .inl (cL, n0_taking_rows_byHead, .inr (.inl u_11.2.2.2.2)))]) hP hD hS hA [7, 8, 9, 1, 3, 4] [0, 2, 5, 6] [0, 7, 1, 8, 9, 2, 3, 4, 5, 6] rfl rfl (by decide) (by decide) (fun _ => rfl) (by decide) (va_runV (As := [.ref q0_store]) (rest := []) ⟨hx, hb, hml, hown, hts⟩ (cm_X5_spread l D cI cL (q0 := q0_taking) (q0_rows := q0_taking_rows) (q0_rows_byHead := q0_taking_rows_byHead) (q1 := q0_store) (q1_yes := q0_store_yes) (q1_no := q0_store_no) (n0_rows_byHead := n0_taking_rows_byHead) (n1_yes := n0_store_yes) (n1_no := n0_store_no) (f0_n := f0_taking_n) (f0_taken := u_9.1) (f0_ones := u_9.2.1) (f0_rows_n := f0_taking_rows_n) (f0_rows_impossible := u_9.2.2.1) (h0_rows_byHead := u_9.2.2.2) (f1_clauseCount := f0_store_clauseCount) (h1_yes := h0_store_yes) (h1_no := h0_store_no) (v1_equations := .ref q0_store_equations) (v1_equationCount := .int f0_store_equationCount) (v1_equationsBefore := v0_store_equationsBefore) (v1_clausesBefore := v0_store_clausesBefore) (v1_levelCount := v0_store_levelCount) (r0 := u_11) (hr0 := hu_12) (sz := H.size)) (cwV 1 hts gX7_follow_X5_spread rfl rfl rfl (by decide +kernel) ⟨Nat.le_of_ble_eq_true rfl, Nat.le_of_ble_eq_true rfl⟩) (kx_preV hEV hP hD [7, 8, 9, 1, 3, 4] rfl (by decide) (k0 := 7) (ci := 5) rfl rfl rfl) rfl rfl hl.1 rfl (lv_room (Nat.le_of_ble_eq_true rfl)) dX7_follow_51 ⟨Nat.le_of_ble_eq_true rfl, Nat.le_of_ble_eq_true rfl⟩) (fun _ H locs _ hP hD hS => ?_)
    refine lv_if_ne (tgt := 61) hx hb dX7_follow_54 (by decide) (fun c_13 => ?_) (fun c_13 => ?_)
    · have k_14 : u_11.1 = true := (kx_nz c_13)
      have h := co_t k_14 h
      refine lv_iload hx hb dX7_follow_61 (lv_at hl 3 rfl) ?_
      refine lv_if_eq (tgt := 76) hx hb dX7_follow_63 (by decide) (fun c_15 => ?_) (fun c_15 => ?_)
      · have k_16 : ¬ (x5 = true) := (kx_z c_15)
        have h := co_f k_16 h
        refine lv_aload_n hx hb dX7_follow_76 rfl (lv_at hl 0 rfl) ?_
        refine va_get (D := D) (ci := 7) (v := .ref q0_taking) (C := RX7) (T := TX7) (N := 14) hx hb hts in_X7_follow_X7 hown hK hP 0 rfl rfl 7 (by decide) lk_0 (fun _ h9 => h9) rfl dX7_follow_77 ?_
        refine va_get (D := D) (ci := 5) (v := .long u_11.2.1) (C := RX5) (T := TX5) (N := 4) hx hb hts in_X7_follow_X5 hown hK hP 7 rfl rfl 2 (by decide) lk_3 (fun _ h9 => h9) rfl dX7_follow_80 ?_
        refine lv_aload_n hx hb dX7_follow_83 rfl (lv_at hl 0 rfl) ?_
        refine va_get (D := D) (ci := 7) (v := .ref q0_taking) (C := RX7) (T := TX7) (N := 14) hx hb hts in_X7_follow_X7 hown hK hP 0 rfl rfl 7 (by decide) lk_0 (fun _ h9 => h9) rfl dX7_follow_84 ?_
        refine va_get (D := D) (ci := 5) (v := .long u_11.2.2.1) (C := RX5) (T := TX5) (N := 4) hx hb hts in_X7_follow_X5 hown hK hP 7 rfl rfl 3 (by decide) lk_4 (fun _ h9 => h9) rfl dX7_follow_87 ?_
        refine lv_ldc2 hx hb hown lk_5 dX7_follow_90 ?_
        refine lv_lxor hx hb dX7_follow_93 ?_
        refine lv_land hx hb dX7_follow_94 ?_
        have h := Option.some.inj h
        subst h
        subst hQ
        refine vx_ret ?_
        refine W.widen (k := 1) (n := 6) (by decide) (by decide) ?_
        exact W.lret (v := u_11.2.1 &&& (u_11.2.2.1 ^^^ (-1 : Int64))) hx hb hr (fun t ht hW => ⟨⟨u_11.2.1 &&& (u_11.2.2.1 ^^^ (-1 : Int64)), (), rfl, rfl, by rw [ht]; exact hP, hD⟩, hS.F ht⟩) hS.2.2 dX7_follow_95
      · have k_16 : x5 = true := (kx_nz c_15)
        have h := co_t k_16 h
        refine lv_aload_n hx hb dX7_follow_66 rfl (lv_at hl 0 rfl) ?_
        refine va_get (D := D) (ci := 7) (v := .ref q0_taking) (C := RX7) (T := TX7) (N := 14) hx hb hts in_X7_follow_X7 hown hK hP 0 rfl rfl 7 (by decide) lk_0 (fun _ h9 => h9) rfl dX7_follow_67 ?_
        refine va_get (D := D) (ci := 5) (v := .long u_11.2.2.1) (C := RX5) (T := TX5) (N := 4) hx hb hts in_X7_follow_X5 hown hK hP 7 rfl rfl 3 (by decide) lk_4 (fun _ h9 => h9) rfl dX7_follow_70 ?_
        refine lv_goto (tgt := 95) hx hb dX7_follow_73 (by decide) ?_
        have h := Option.some.inj h
        subst h
        subst hQ
        refine vx_ret ?_
        refine W.widen (k := 1) (n := 6) (by decide) (by decide) ?_
        exact W.lret (v := u_11.2.2.1) hx hb hr (fun t ht hW => ⟨⟨u_11.2.2.1, (), rfl, rfl, by rw [ht]; exact hP, hD⟩, hS.F ht⟩) hS.2.2 dX7_follow_95
    · have k_14 : ¬ (u_11.1 = true) := (kx_z c_13)
      have h := co_f k_14 h
      refine lv_ldc2 hx hb hown lk_5 dX7_follow_57 ?_
      have h := Option.some.inj h
      subst h
      subst hQ
      refine vx_ret ?_
      refine W.widen (k := 1) (n := 6) (by decide) (by decide) ?_
      exact W.lret (v := (-1 : Int64)) hx hb hr (fun t ht hW => ⟨⟨(-1 : Int64), (), rfl, rfl, by rw [ht]; exact hP, hD⟩, hS.F ht⟩) hS.2.2 dX7_follow_60
  · have k_4 : ¬ (u_1 = true) := (kx_z c_3)
    have h := co_f k_4 h
    have h := Option.some.inj h
    subst h
    subst hQ
    obtain ⟨sa9, hsa9⟩ := hX.2.2.2.2.2.2.2.2.2.2.2.2.2.2.2.2.2.2.2.2.2.2.1
    exact vx_throwS (cls := "java/lang/IllegalArgumentException") (names := ["java/lang/RuntimeException", "java/lang/Exception"]) hx hb hltr hown (by decide +kernel) (by decide +kernel) lk_6 lk_7 hsa9 (vx_hat (B := [.castable "java/lang/IllegalArgumentException" "java/lang/IllegalArgumentException", .declares dcR, .declares dcE, .declares dcT]) (fun w9 h9 => hts w9 (tw_X7_follow_90 w9 h9)) thb_X7_90 (vx_c (va_Nw.use rfl hX.2.2.1) (vx_c (va_Nw.use rfl hX.2.2.2.2.2.2.2.1) (vx_c (va_Nw.use rfl hX.2.2.2.2.2.2.2.2.1) (vx_c (va_Nw.use rfl hX.2.2.2.2.2.2.2.2.2.1) vx_n))))) thg_X7_90 hX.1 hX.2.1 hS (hl.1.trans hml.symm) dX7_follow_9 dX7_follow_12 dX7_follow_13 dX7_follow_15 dX7_follow_18 (fun x9 h9 => (hnt x9 h9).elim) (by decide) (Nat.le_of_ble_eq_true rfl) (by decide) (by decide) hlocks (ky_x (k := 0) hAe hP hD hS rfl rfl) hS.2.2 (by decide) (by decide)
