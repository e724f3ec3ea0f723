theorem in_X7_equation_X4 : ∀ w ∈ wsX40, w ∈ wsX7_equation := by decide +kernel
theorem in_X7_equation_X7 : ∀ w ∈ wsX70, w ∈ wsX7_equation := by decide +kernel
theorem lk_0_X7_equation : Cond.classLink RX7 86 "java/lang/IllegalArgumentException" ∈ wsX7_equation := by decide +kernel
theorem lk_1_X7_equation : Cond.initialized "java/lang/IllegalArgumentException" ∈ wsX7_equation := by decide +kernel
theorem lk_2_X7_equation : Cond.fieldLink RX7 29 "ParityClauses" "store" "LParityClauses$Store;" ∈ wsX7_equation := by decide +kernel
theorem lk_3_X7_equation : Cond.fieldLink RX7 93 "ParityClauses$Store" "equationCount" "I" ∈ wsX7_equation := by decide +kernel
theorem lk_4_X7_equation : Cond.constantLong RX7 104 (4611686018427387904) ∈ wsX7_equation := by decide +kernel
theorem lk_5_X7_equation : Cond.classLink RX7 96 "java/lang/IllegalStateException" ∈ wsX7_equation := by decide +kernel
theorem lk_6_X7_equation : Cond.initialized "java/lang/IllegalStateException" ∈ wsX7_equation := by decide +kernel
theorem tw_X7_equation_90 : ∀ w ∈ (vx_atS RX7 90 "java/lang/IllegalArgumentException" ["java/lang/RuntimeException", "java/lang/Exception"]).filter goodWord, w ∈ wsX7_equation := by decide +kernel
theorem tw_X7_equation_100 : ∀ w ∈ (vx_atS RX7 100 "java/lang/IllegalStateException" ["java/lang/RuntimeException", "java/lang/Exception"]).filter goodWord, w ∈ wsX7_equation := by decide +kernel
abbrev rm_X7_equation : Room := { frames := 6, cells := 1, slots := 6, locals := 90 }
set_option maxHeartbeats 4000000 in
set_option maxRecDepth 100000 in
theorem cm_X7_equation (l : Launch) (hltr : l.stackTraces = false) (D : va_G) (cI cL : ClassId) (q0 q0_store q0_store_equations : Nat) (n0_store_equations : Nat) (f0_variables : Int64) (f0_rowsFresh : Bool) (f0_gatesFresh : Bool) (f0_store_equationCount : Int32) (h0_store_equations : Nat → Int64) (v0_n v0_tape v0_base v0_blamed v0_gateList v0_taking v0_search v0_latestFault v0_latestNodes v0_latestModel v0_store_yes v0_store_no v0_store_clauseCount v0_store_equationsBefore v0_store_clausesBefore v0_store_levelCount : Value) (x1 : Int64) (x3 : Int32) (r0 : (Int32 ⊕ Nat) × Bool × Bool × Int32 × (Nat → Int64)) (hr0 : D_X7_equation f0_variables f0_rowsFresh f0_gatesFresh f0_store_equationCount n0_store_equations h0_store_equations x1 x3 = some r0) (sz : Nat) : vx_Met l yX7_equation wsX7_equation rm_X7_equation (PcX D cI cL [.ref q0, .long x1, .int x3] [(q0, .inr (7, [v0_n, .long f0_variables, .ref q0_store, v0_tape, v0_base, v0_blamed, v0_gateList, v0_taking, v0_search, .int (bI f0_rowsFresh), .int (bI f0_gatesFresh), v0_latestFault, v0_latestNodes, v0_latestModel])), (q0_store, .inr (4, [.ref q0_store_equations, v0_store_yes, v0_store_no, .int f0_store_equationCount, v0_store_clauseCount, v0_store_equationsBefore, v0_store_clausesBefore, v0_store_levelCount])), (q0_store_equations, .inl (cL, n0_store_equations, .inr (.inl h0_store_equations)))] sz) (QiX D [(q0, .inr (7, [v0_n, .long f0_variables, .ref q0_store, v0_tape, v0_base, v0_blamed, v0_gateList, v0_taking, v0_search, .int (bI f0_rowsFresh), .int (bI f0_gatesFresh), v0_latestFault, v0_latestNodes, v0_latestModel])), (q0_store, .inr (4, [.ref q0_store_equations, v0_store_yes, v0_store_no, .int f0_store_equationCount, v0_store_clauseCount, v0_store_equationsBefore, v0_store_clausesBefore, v0_store_levelCount])), (q0_store_equations, .inl (cL, n0_store_equations, .inr (.inl h0_store_equations)))] r0.1 [(q0, .inr (7, [v0_n, .long f0_variables, .ref q0_store, v0_tape, v0_base, v0_blamed, v0_gateList, v0_taking, v0_search, .int (bI r0.2.1), .int (bI r0.2.2.1), v0_latestFault, v0_latestNodes, v0_latestModel])), (q0_store, .inr (4, [.ref q0_store_equations, v0_store_yes, v0_store_no, .int r0.2.2.2.1, v0_store_clauseCount, v0_store_equationsBefore, v0_store_clausesBefore, v0_store_levelCount])), (q0_store_equations, .inl (cL, n0_store_equations, .inr (.inl r0.2.2.2.2)))] sz) (XCW D [(q0, .inr (7, [v0_n, .long f0_variables, .ref q0_store, v0_tape, v0_base, v0_blamed, v0_gateList, v0_taking, v0_search, .int (bI f0_rowsFresh), .int (bI f0_gatesFresh), v0_latestFault, v0_latestNodes, v0_latestModel])), (q0_store, .inr (4, [.ref q0_store_equations, v0_store_yes, v0_store_no, .int f0_store_equationCount, v0_store_clauseCount, v0_store_equationsBefore, v0_store_clausesBefore, v0_store_levelCount])), (q0_store_equations, .inl (cL, n0_store_equations, .inr (.inl h0_store_equations)))] r0.1 [(q0, .inr (7, [v0_n, .long f0_variables, .ref q0_store, v0_tape, v0_base, v0_blamed, v0_gateList, v0_taking, v0_search, .int (bI r0.2.1), .int (bI r0.2.2.1), v0_latestFault, v0_latestNodes, v0_latestModel])), (q0_store, .inr (4, [.ref q0_store_equations, v0_store_yes, v0_store_no, .int r0.2.2.2.1, v0_store_clauseCount, v0_store_equationsBefore, v0_store_clausesBefore, v0_store_levelCount])), (q0_store_equations, .inl (cL, n0_store_equations, .inr (.inl r0.2.2.2.2)))] sz) 1 6 (va_A [(q0, .inr (7, [v0_n, .long f0_variables, .ref q0_store, v0_tape, v0_base, v0_blamed, v0_gateList, v0_taking, v0_search, .int (bI f0_rowsFresh), .int (bI f0_gatesFresh), v0_latestFault, v0_latestNodes, v0_latestModel])), (q0_store, .inr (4, [.ref q0_store_equations, v0_store_yes, v0_store_no, .int f0_store_equationCount, v0_store_clauseCount, v0_store_equationsBefore, v0_store_clausesBefore, v0_store_levelCount])), (q0_store_equations, .inl (cL, n0_store_equations, .inr (.inl h0_store_equations)))] sz) := by
  refine vx_ofW (cc := cX7_equation) (maxL := 4) (ret := (some .int)) (by decide) rfl ?_
  intro p e s m args below meth c s₁ B hml hnt hv
  obtain ⟨hargs, hsz, hP, hEV, hD0, hX⟩ := hv
  have hx := B.exec
  have hb := B.bytes
  have hr := B.returns
  have hts := atoms_spec (ws := wsX7_equation) B.pre
  have hown : s.vm.findClass RX7 = some m.cls := findClass_of_methodNamed B.named
  have hlocks := B.notSynchronized
  have hK := hEV.K
  have lk_0 := hts _ lk_0_X7_equation
  have lk_1 := hts _ lk_1_X7_equation
  have lk_2 := hts _ lk_2_X7_equation
  have lk_3 := hts _ lk_3_X7_equation
  have lk_4 := hts _ lk_4_X7_equation
  have lk_5 := hts _ lk_5_X7_equation
  have lk_6 := hts _ lk_6_X7_equation
  subst hsz
  unfold QiX PoW
  have hD := hD0.self (sz := s.heap.size)
  generalize hAe : va_A [(q0, .inr (7, [v0_n, .long f0_variables, .ref q0_store, v0_tape, v0_base, v0_blamed, v0_gateList, v0_taking, v0_search, .int (bI f0_rowsFresh), .int (bI f0_gatesFresh), v0_latestFault, v0_latestNodes, v0_latestModel])), (q0_store, .inr (4, [.ref q0_store_equations, v0_store_yes, v0_store_no, .int f0_store_equationCount, v0_store_clauseCount, v0_store_equationsBefore, v0_store_clausesBefore, v0_store_levelCount])), (q0_store_equations, .inl (cL, n0_store_equations, .inr (.inl h0_store_equations)))] s.heap.size = A at hD hX ⊢
  have hA : ∀ q : Nat, s.heap.size ≤ q → A q := fun q h => by rw [← hAe]; exact Or.inr h
  have hent : entryFrame m args 4 = entryFrame m ([.ref q0, .long x1, .int x3] : List Value).toArray 4 := by rw [hargs]
  rw [hent]
  refine kx_Q (fun Q hQ => ?_)
  refine kx_H (fun H hH => ?_)
  have hP : va_P D vwCl [(q0, .inr (7, [v0_n, .long f0_variables, .ref q0_store, v0_tape, v0_base, v0_blamed, v0_gateList, v0_taking, v0_search, .int (bI f0_rowsFresh), .int (bI f0_gatesFresh), v0_latestFault, v0_latestNodes, v0_latestModel])), (q0_store, .inr (4, [.ref q0_store_equations, v0_store_yes, v0_store_no, .int f0_store_equationCount, v0_store_clauseCount, v0_store_equationsBefore, v0_store_clausesBefore, v0_store_levelCount])), (q0_store_equations, .inl (cL, n0_store_equations, .inr (.inl h0_store_equations)))] H := by rw [hH]; exact hP
  have hS : va_S A s.heap H [] := by rw [hH]; exact va_S.rf
  have hl := lv_entry ([.ref q0, .long x1, .int x3]) (n := 4) (Nat.le_of_ble_eq_true rfl)
  rw [lg_entry_eq]
  generalize (lg_sl ([.ref q0, .long x1, .int x3]) ++ List.replicate (4 - (lg_sl ([.ref q0, .long x1, .int x3])).length) Slot.unset).toArray = ls at hl ⊢
  have hl : lv_has ls 4 [(0, .ref q0), (1, .long x1), (3, .int x3)] := hl
  have h := hr0
  unfold D_X7_equation at h
  refine lv_aload_n hx hb dX7_equation_0 rfl (lv_at hl 0 rfl) ?_
  refine lv_lload_n hx hb dX7_equation_1 rfl (lv_at hl 1 rfl) ?_
  obtain ⟨u_1, hu_2, h⟩ := co_b h
  refine kx_i (ws' := fun _ => [(q0, .inr (7, [v0_n, .long f0_variables, .ref q0_store, v0_tape, v0_base, v0_blamed, v0_gateList, v0_taking, v0_search, .int (bI f0_rowsFresh), .int (bI f0_gatesFresh), v0_latestFault, v0_latestNodes, v0_latestModel])), (q0_store, .inr (4, [.ref q0_store_equations, v0_store_yes, v0_store_no, .int f0_store_equationCount, v0_store_clauseCount, v0_store_equationsBefore, v0_store_clausesBefore, v0_store_levelCount])), (q0_store_equations, .inl (cL, n0_store_equations, .inr (.inl h0_store_equations)))]) hP hD hS hA [0] [1, 2] [2, 0, 1] rfl rfl (by decide) (by decide) (fun _ => rfl) (by decide) (va_runV (As := [.long x1]) (rest := []) ⟨hx, hb, hml, hown, hts⟩ (cm_X7_areVariables l D cI cL (q0 := q0) (f0_variables := f0_variables) (v0_n := v0_n) (v0_store := .ref q0_store) (v0_tape := v0_tape) (v0_base := v0_base) (v0_blamed := v0_blamed) (v0_gateList := v0_gateList) (v0_taking := v0_taking) (v0_search := v0_search) (v0_rowsFresh := .int (bI f0_rowsFresh)) (v0_gatesFresh := .int (bI f0_gatesFresh)) (v0_latestFault := v0_latestFault) (v0_latestNodes := v0_latestNodes) (v0_latestModel := v0_latestModel) (x1 := x1) (r0 := u_1) (hr0 := hu_2) (sz := H.size)) (cwV 1 hts gX7_equation_X7_areVariables rfl rfl rfl (by decide +kernel) ⟨Nat.le_of_ble_eq_true rfl, Nat.le_of_ble_eq_true rfl⟩) (kx_preV hEV hP hD [0] rfl (by decide) (k0 := 0) (ci := 7) rfl rfl rfl) rfl rfl hl.1 rfl (lv_room (Nat.le_of_ble_eq_true rfl)) dX7_equation_2 ⟨Nat.le_of_ble_eq_true rfl, Nat.le_of_ble_eq_true rfl⟩) (fun _ H locs _ hP hD hS => ?_)
  refine lv_if_eq (tgt := 17) hx hb dX7_equation_5 (by decide) (fun c_3 => ?_) (fun c_3 => ?_)
  · have k_4 : ¬ (u_1 = true) := (kx_z c_3)
    have h := co_f k_4 h
    have h := Option.some.inj h
    subst h
    subst hQ
    obtain ⟨sa9, hsa9⟩ := hX.2.2.2.2.2.2.2.2.2.2.1
    exact vx_throwS (cls := "java/lang/IllegalArgumentException") (names := ["java/lang/RuntimeException", "java/lang/Exception"]) hx hb hltr hown (by decide +kernel) (by decide +kernel) lk_0 lk_1 hsa9 (vx_hat (B := [.castable "java/lang/IllegalArgumentException" "java/lang/IllegalArgumentException", .declares dcR, .declares dcE, .declares dcT]) (fun w9 h9 => hts w9 (tw_X7_equation_90 w9 h9)) thb_X7_90 (vx_c (va_Nw.use rfl hX.2.2.1) (vx_c (va_Nw.use rfl hX.2.2.2.2.2.2.2.1) (vx_c (va_Nw.use rfl hX.2.2.2.2.2.2.2.2.1) (vx_c (va_Nw.use rfl hX.2.2.2.2.2.2.2.2.2.1) vx_n))))) thg_X7_90 hX.1 hX.2.1 hS (hl.1.trans hml.symm) dX7_equation_17 dX7_equation_20 dX7_equation_21 dX7_equation_23 dX7_equation_26 (fun x9 h9 => (hnt x9 h9).elim) (by decide) (Nat.le_of_ble_eq_true rfl) (by decide) (by decide) hlocks (ky_x (k := 0) hAe hP hD hS rfl rfl) hS.2.2 (by decide) (by decide)
  · have k_4 : u_1 = true := (kx_nz c_3)
    have h := co_t k_4 h
    refine lv_iload_n hx hb dX7_equation_8 rfl (lv_at hl 2 rfl) ?_
    refine lv_if_lt (tgt := 17) hx hb dX7_equation_9 (by decide) (fun c_5 => ?_) (fun c_5 => ?_)
    · have k_6 : x3 < 0 := c_5
      have h := co_t k_6 h
      have h := Option.some.inj h
      subst h
      subst hQ
      obtain ⟨sa9, hsa9⟩ := hX.2.2.2.2.2.2.2.2.2.2.1
      exact vx_throwS (cls := "java/lang/IllegalArgumentException") (names := ["java/lang/RuntimeException", "java/lang/Exception"]) hx hb hltr hown (by decide +kernel) (by decide +kernel) lk_0 lk_1 hsa9 (vx_hat (B := [.castable "java/lang/IllegalArgumentException" "java/lang/IllegalArgumentException", .declares dcR, .declares dcE, .declares dcT]) (fun w9 h9 => hts w9 (tw_X7_equation_90 w9 h9)) thb_X7_90 (vx_c (va_Nw.use rfl hX.2.2.1) (vx_c (va_Nw.use rfl hX.2.2.2.2.2.2.2.1) (vx_c (va_Nw.use rfl hX.2.2.2.2.2.2.2.2.1) (vx_c (va_Nw.use rfl hX.2.2.2.2.2.2.2.2.2.1) vx_n))))) thg_X7_90 hX.1 hX.2.1 hS (hl.1.trans hml.symm) dX7_equation_17 dX7_equation_20 dX7_equation_21 dX7_equation_23 dX7_equation_26 (fun x9 h9 => (hnt x9 h9).elim) (by decide) (Nat.le_of_ble_eq_true rfl) (by decide) (by decide) hlocks (ky_x (k := 0) hAe hP hD hS rfl rfl) hS.2.2 (by decide) (by decide)
    · have k_6 : ¬ (x3 < 0) := c_5
      have h := co_f k_6 h
      refine lv_iload_n hx hb dX7_equation_12 rfl (lv_at hl 2 rfl) ?_
      refine lv_iconst (v := (1 : Int32)) hx hb dX7_equation_13 (by decide) ?_
      refine lv_icmp_le (tgt := 27) hx hb dX7_equation_14 (by decide) (fun c_7 => ?_) (fun c_7 => ?_)
      · have k_8 : x3 ≤ (1 : Int32) := c_7
        have h := co_t k_8 h
        refine lv_aload_n hx hb dX7_equation_27 rfl (lv_at hl 0 rfl) ?_
        refine va_get (D := D) (ci := 7) (v := .ref q0_store) (C := RX7) (T := TX7) (N := 14) hx hb hts in_X7_equation_X7 hown hK hP 0 rfl rfl 2 (by decide) lk_2 (fun _ h9 => h9) rfl dX7_equation_28 ?_
        refine va_get (D := D) (ci := 4) (v := .int f0_store_equationCount) (C := RX4) (T := TX4) (N := 8) hx hb hts in_X7_equation_X4 hown hK hP 1 rfl rfl 3 (by decide) lk_3 (fun _ h9 => h9) rfl dX7_equation_31 ?_
        refine lv_bipush (v := (60 : Int32)) hx hb dX7_equation_34 (by decide) ?_
        refine lv_icmp_lt (tgt := 49) hx hb dX7_equation_36 (by decide) (fun c_9 => ?_) (fun c_9 => ?_)
        · have k_10 : f0_store_equationCount < (60 : Int32) := c_9
          have h := co_t k_10 h
          refine lv_aload_n hx hb dX7_equation_49 rfl (lv_at hl 0 rfl) ?_
          obtain ⟨u_11, hu_12, h⟩ := co_b h
          refine kx_v (ws' := fun _ => [(q0, .inr (7, [v0_n, .long f0_variables, .ref q0_store, v0_tape, v0_base, v0_blamed, v0_gateList, v0_taking, v0_search, .int (bI u_11.1), .int (bI u_11.2), v0_latestFault, v0_latestNodes, v0_latestModel])), (q0_store, .inr (4, [.ref q0_store_equations, v0_store_yes, v0_store_no, .int f0_store_equationCount, v0_store_clauseCount, v0_store_equationsBefore, v0_store_clausesBefore, v0_store_levelCount])), (q0_store_equations, .inl (cL, n0_store_equations, .inr (.inl h0_store_equations)))]) hP hD hS hA [0] [1, 2] [2, 0, 1] rfl rfl (by decide) (by decide) (fun _ => rfl) (by decide) (va_runV (As := []) (rest := []) ⟨hx, hb, hml, hown, hts⟩ (cm_X7_forget l D cI cL (q0 := q0) (f0_rowsFresh := f0_rowsFresh) (f0_gatesFresh := f0_gatesFresh) (v0_n := v0_n) (v0_variables := .long f0_variables) (v0_store := .ref q0_store) (v0_tape := v0_tape) (v0_base := v0_base) (v0_blamed := v0_blamed) (v0_gateList := v0_gateList) (v0_taking := v0_taking) (v0_search := v0_search) (v0_latestFault := v0_latestFault) (v0_latestNodes := v0_latestNodes) (v0_latestModel := v0_latestModel) (r0 := u_11) (hr0 := hu_12) (sz := H.size)) (cwV 0 hts gX7_equation_X7_forget rfl rfl rfl (by decide +kernel) ⟨Nat.le_of_ble_eq_true rfl, Nat.le_of_ble_eq_true rfl⟩) (kx_preV hEV hP hD [0] rfl (by decide) (k0 := 0) (ci := 7) rfl rfl rfl) rfl rfl hl.1 rfl (lv_room (Nat.le_of_ble_eq_true rfl)) dX7_equation_50 ⟨Nat.le_of_ble_eq_true rfl, Nat.le_of_ble_eq_true rfl⟩) (fun _ H locs _ hP hD hS => ?_)
          refine lv_aload_n hx hb dX7_equation_53 rfl (lv_at hl 0 rfl) ?_
          refine va_get (D := D) (ci := 7) (v := .ref q0_store) (C := RX7) (T := TX7) (N := 14) hx hb hts in_X7_equation_X7 hown hK hP 0 rfl rfl 2 (by decide) lk_2 (fun _ h9 => h9) rfl dX7_equation_54 ?_
          refine lv_iload_n hx hb dX7_equation_57 rfl (lv_at hl 2 rfl) ?_
          refine lv_iconst (v := (1 : Int32)) hx hb dX7_equation_58 (by decide) ?_
          refine lv_icmp_ne (tgt := 70) hx hb dX7_equation_59 (by decide) (fun c_13 => ?_) (fun c_13 => ?_)
          · have k_14 : ¬ (x3 = (1 : Int32)) := c_13
            have h := co_f k_14 h
            refine lv_lload_n hx hb dX7_equation_70 rfl (lv_at hl 1 rfl) ?_
            obtain ⟨u_15, hu_16, h⟩ := co_b h
            refine kx_i (ws' := fun _ => [(q0, .inr (7, [v0_n, .long f0_variables, .ref q0_store, v0_tape, v0_base, v0_blamed, v0_gateList, v0_taking, v0_search, .int (bI u_11.1), .int (bI u_11.2), v0_latestFault, v0_latestNodes, v0_latestModel])), (q0_store, .inr (4, [.ref q0_store_equations, v0_store_yes, v0_store_no, .int u_15.2.1, v0_store_clauseCount, v0_store_equationsBefore, v0_store_clausesBefore, v0_store_levelCount])), (q0_store_equations, .inl (cL, n0_store_equations, .inr (.inl u_15.2.2)))]) hP hD hS hA [1, 2] [0] [0, 1, 2] rfl rfl (by decide) (by decide) (fun _ => rfl) (by decide) (va_runV (As := [.long x1]) (rest := []) ⟨hx, hb, hml, hown, hts⟩ (cm_X4_addEquation l D cI cL (q0 := q0_store) (q0_equations := q0_store_equations) (n0_equations := n0_store_equations) (f0_equationCount := f0_store_equationCount) (h0_equations := h0_store_equations) (v0_yes := v0_store_yes) (v0_no := v0_store_no) (v0_clauseCount := v0_store_clauseCount) (v0_equationsBefore := v0_store_equationsBefore) (v0_clausesBefore := v0_store_clausesBefore) (v0_levelCount := v0_store_levelCount) (x1 := x1) (r0 := u_15) (hr0 := hu_16) (sz := H.size)) (cwV 1 hts gX7_equation_X4_addEquation rfl rfl rfl (by decide +kernel) ⟨Nat.le_of_ble_eq_true rfl, Nat.le_of_ble_eq_true rfl⟩) (kx_preV hEV hP hD [1, 2] rfl (by decide) (k0 := 1) (ci := 4) rfl rfl rfl) rfl rfl hl.1 rfl (lv_room (Nat.le_of_ble_eq_true rfl)) dX7_equation_71 ⟨Nat.le_of_ble_eq_true rfl, Nat.le_of_ble_eq_true rfl⟩) (fun _ H locs _ hP hD hS => ?_)
            refine lv_pop hx hb dX7_equation_74 rfl ?_
            refine lv_aload_n hx hb dX7_equation_75 rfl (lv_at hl 0 rfl) ?_
            refine va_get (D := D) (ci := 7) (v := .ref q0_store) (C := RX7) (T := TX7) (N := 14) hx hb hts in_X7_equation_X7 hown hK hP 0 rfl rfl 2 (by decide) lk_2 (fun _ h9 => h9) rfl dX7_equation_76 ?_
            refine va_get (D := D) (ci := 4) (v := .int u_15.2.1) (C := RX4) (T := TX4) (N := 8) hx hb hts in_X7_equation_X4 hown hK hP 1 rfl rfl 3 (by decide) lk_3 (fun _ h9 => h9) rfl dX7_equation_79 ?_
            refine lv_iconst (v := (1 : Int32)) hx hb dX7_equation_82 (by decide) ?_
            refine lv_isub hx hb dX7_equation_83 ?_
            have h := Option.some.inj h
            subst h
            subst hQ
            refine vx_ret ?_
            refine W.widen (k := 1) (n := 6) (by decide) (by decide) ?_
            exact W.iret (v := u_15.2.1 - (1 : Int32)) hx hb hr (fun t ht hW => ⟨⟨u_15.2.1 - (1 : Int32), (), rfl, rfl, by rw [ht]; exact hP, hD⟩, hS.F ht⟩) hS.2.2 dX7_equation_84
          · have k_14 : x3 = (1 : Int32) := c_13
            have h := co_t k_14 h
            refine lv_lload_n hx hb dX7_equation_62 rfl (lv_at hl 1 rfl) ?_
            refine lv_ldc2 hx hb hown lk_4 dX7_equation_63 ?_
            refine lv_lor hx hb dX7_equation_66 ?_
            refine lv_goto (tgt := 71) hx hb dX7_equation_67 (by decide) ?_
            obtain ⟨u_17, hu_18, h⟩ := co_b h
            refine kx_i (ws' := fun _ => [(q0, .inr (7, [v0_n, .long f0_variables, .ref q0_store, v0_tape, v0_base, v0_blamed, v0_gateList, v0_taking, v0_search, .int (bI u_11.1), .int (bI u_11.2), v0_latestFault, v0_latestNodes, v0_latestModel])), (q0_store, .inr (4, [.ref q0_store_equations, v0_store_yes, v0_store_no, .int u_17.2.1, v0_store_clauseCount, v0_store_equationsBefore, v0_store_clausesBefore, v0_store_levelCount])), (q0_store_equations, .inl (cL, n0_store_equations, .inr (.inl u_17.2.2)))]) hP hD hS hA [1, 2] [0] [0, 1, 2] rfl rfl (by decide) (by decide) (fun _ => rfl) (by decide) (va_runV (As := [.long (x1 ||| (4611686018427387904 : Int64))]) (rest := []) ⟨hx, hb, hml, hown, hts⟩ (cm_X4_addEquation l D cI cL (q0 := q0_store) (q0_equations := q0_store_equations) (n0_equations := n0_store_equations) (f0_equationCount := f0_store_equationCount) (h0_equations := h0_store_equations) (v0_yes := v0_store_yes) (v0_no := v0_store_no) (v0_clauseCount := v0_store_clauseCount) (v0_equationsBefore := v0_store_equationsBefore) (v0_clausesBefore := v0_store_clausesBefore) (v0_levelCount := v0_store_levelCount) (x1 := x1 ||| (4611686018427387904 : Int64)) (r0 := u_17) (hr0 := hu_18) (sz := H.size)) (cwV 1 hts gX7_equation_X4_addEquation rfl rfl rfl (by decide +kernel) ⟨Nat.le_of_ble_eq_true rfl, Nat.le_of_ble_eq_true rfl⟩) (kx_preV hEV hP hD [1, 2] rfl (by decide) (k0 := 1) (ci := 4) rfl rfl rfl) rfl rfl hl.1 rfl (lv_room (Nat.le_of_ble_eq_true rfl)) dX7_equation_71 ⟨Nat.le_of_ble_eq_true rfl, Nat.le_of_ble_eq_true rfl⟩) (fun _ H locs _ hP hD hS => ?_)
            refine lv_pop hx hb dX7_equation_74 rfl ?_
            refine lv_aload_n hx hb dX7_equation_75 rfl (lv_at hl 0 rfl) ?_
            refine va_get (D := D) (ci := 7) (v := .ref q0_store) (C := RX7) (T := TX7) (N := 14) hx hb hts in_X7_equation_X7 hown hK hP 0 rfl rfl 2 (by decide) lk_2 (fun _ h9 => h9) rfl dX7_equation_76 ?_
            refine va_get (D := D) (ci := 4) (v := .int u_17.2.1) (C := RX4) (T := TX4) (N := 8) hx hb hts in_X7_equation_X4 hown hK hP 1 rfl rfl 3 (by decide) lk_3 (fun _ h9 => h9) rfl dX7_equation_79 ?_
            refine lv_iconst (v := (1 : Int32)) hx hb dX7_equation_82 (by decide) ?_
            refine lv_isub hx hb dX7_equation_83 ?_
            have h := Option.some.inj h
            subst h
            subst hQ
            refine vx_ret ?_
            refine W.widen (k := 1) (n := 6) (by decide) (by decide) ?_
            exact W.iret (v := u_17.2.1 - (1 : Int32)) hx hb hr (fun t ht hW => ⟨⟨u_17.2.1 - (1 : Int32), (), rfl, rfl, by rw [ht]; exact hP, hD⟩, hS.F ht⟩) hS.2.2 dX7_equation_84
        · have k_10 : ¬ (f0_store_equationCount < (60 : Int32)) := c_9
          have h := co_f k_10 h
          have h := Option.some.inj h
          subst h
          subst hQ
          obtain ⟨sa9, hsa9⟩ := hX.2.2.2.2.2.2.2.2.2.2.2.1
          exact vx_throwS (cls := "java/lang/IllegalStateException") (names := ["java/lang/RuntimeException", "java/lang/Exception"]) hx hb hltr hown (by decide +kernel) (by decide +kernel) lk_5 lk_6 hsa9 (vx_hat (B := [.castable "java/lang/IllegalStateException" "java/lang/IllegalStateException", .declares dcR, .declares dcE, .declares dcT]) (fun w9 h9 => hts w9 (tw_X7_equation_100 w9 h9)) thb_X7_100 (vx_c (va_Nw.use rfl hX.2.2.2.1) (vx_c (va_Nw.use rfl hX.2.2.2.2.2.2.2.1) (vx_c (va_Nw.use rfl hX.2.2.2.2.2.2.2.2.1) (vx_c (va_Nw.use rfl hX.2.2.2.2.2.2.2.2.2.1) vx_n))))) thg_X7_100 hX.1 hX.2.1 hS (hl.1.trans hml.symm) dX7_equation_39 dX7_equation_42 dX7_equation_43 dX7_equation_45 dX7_equation_48 (fun x9 h9 => (hnt x9 h9).elim) (by decide) (Nat.le_of_ble_eq_true rfl) (by decide) (by decide) hlocks (ky_x (k := 1) hAe hP hD hS rfl rfl) hS.2.2 (by decide) (by decide)
      · have k_8 : ¬ (x3 ≤ (1 : Int32)) := c_7
        have h := co_f k_8 h
        have h := Option.some.inj h
        subst h
        subst hQ
        obtain ⟨sa9, hsa9⟩ := hX.2.2.2.2.2.2.2.2.2.2.1
        exact vx_throwS (cls := "java/lang/IllegalArgumentException") (names := ["java/lang/RuntimeException", "java/lang/Exception"]) hx hb hltr hown (by decide +kernel) (by decide +kernel) lk_0 lk_1 hsa9 (vx_hat (B := [.castable "java/lang/IllegalArgumentException" "java/lang/IllegalArgumentException", .declares dcR, .declares dcE, .declares dcT]) (fun w9 h9 => hts w9 (tw_X7_equation_90 w9 h9)) thb_X7_90 (vx_c (va_Nw.use rfl hX.2.2.1) (vx_c (va_Nw.use rfl hX.2.2.2.2.2.2.2.1) (vx_c (va_Nw.use rfl hX.2.2.2.2.2.2.2.2.1) (vx_c (va_Nw.use rfl hX.2.2.2.2.2.2.2.2.2.1) vx_n))))) thg_X7_90 hX.1 hX.2.1 hS (hl.1.trans hml.symm) dX7_equation_17 dX7_equation_20 dX7_equation_21 dX7_equation_23 dX7_equation_26 (fun x9 h9 => (hnt x9 h9).elim) (by decide) (Nat.le_of_ble_eq_true rfl) (by decide) (by decide) hlocks (ky_x (k := 0) hAe hP hD hS rfl rfl) hS.2.2 (by decide) (by decide)
theorem in_X7_clause_X4 : ∀ w ∈ wsX40, w ∈ wsX7_clause := by decide +kernel
theorem in_X7_clause_X7 : ∀ w ∈ wsX70, w ∈ wsX7_clause := by decide +kernel
theorem lk_0_X7_clause : Cond.fieldLink RX7 29 "ParityClauses" "store" "LParityClauses$Store;" ∈ wsX7_clause := by decide +kernel
theorem lk_1_X7_clause : Cond.fieldLink RX7 115 "ParityClauses$Store" "clauseCount" "I" ∈ wsX7_clause := by decide +kernel
theorem lk_2_X7_clause : Cond.classLink RX7 96 "java/lang/IllegalStateException" ∈ wsX7_clause := by decide +kernel
theorem lk_3_X7_clause : Cond.initialized "java/lang/IllegalStateException" ∈ wsX7_clause := by decide +kernel
theorem lk_4_X7_clause : Cond.classLink RX7 86 "java/lang/IllegalArgumentException" ∈ wsX7_clause := by decide +kernel
theorem lk_5_X7_clause : Cond.initialized "java/lang/IllegalArgumentException" ∈ wsX7_clause := by decide +kernel
theorem tw_X7_clause_100 : ∀ w ∈ (vx_atS RX7 100 "java/lang/IllegalStateException" ["java/lang/RuntimeException", "java/lang/Exception"]).filter goodWord, w ∈ wsX7_clause := by decide +kernel
theorem tw_X7_clause_90 : ∀ w ∈ (vx_atS RX7 90 "java/lang/IllegalArgumentException" ["java/lang/RuntimeException", "java/lang/Exception"]).filter goodWord, w ∈ wsX7_clause := by decide +kernel
abbrev rm_X7_clause : Room := { frames := 6, cells := 1, slots := 6, locals := 90 }
set_option maxHeartbeats 4000000 in
set_option maxRecDepth 100000 in
theorem cm_X7_clause (l : Launch) (hltr : l.stackTraces = false) (D : va_G) (cI cL : ClassId) (q0 q0_store q0_store_yes q0_store_no : Nat) (n0_store_yes n0_store_no : Nat) (f0_variables : Int64) (f0_rowsFresh : Bool) (f0_gatesFresh : Bool) (f0_store_clauseCount : Int32) (h0_store_yes : Nat → Int64) (h0_store_no : Nat → Int64) (v0_n v0_tape v0_base v0_blamed v0_gateList v0_taking v0_search v0_latestFault v0_latestNodes v0_latestModel v0_store_equations v0_store_equationCount v0_store_equationsBefore v0_store_clausesBefore v0_store_levelCount : Value) (x1 : Int64) (x3 : Int64) (r0 : (Int32 ⊕ Nat) × Bool × Bool × Int32 × (Nat → Int64) × (Nat → Int64)) (hr0 : D_X7_clause f0_variables f0_rowsFresh f0_gatesFresh f0_store_clauseCount n0_store_yes h0_store_yes n0_store_no h0_store_no x1 x3 = some r0) (sz : Nat) : vx_Met l yX7_clause wsX7_clause rm_X7_clause (PcX D cI cL [.ref q0, .long x1, .long x3] [(q0, .inr (7, [v0_n, .long f0_variables, .ref q0_store, v0_tape, v0_base, v0_blamed, v0_gateList, v0_taking, v0_search, .int (bI f0_rowsFresh), .int (bI f0_gatesFresh), v0_latestFault, v0_latestNodes, v0_latestModel])), (q0_store, .inr (4, [v0_store_equations, .ref q0_store_yes, .ref q0_store_no, v0_store_equationCount, .int f0_store_clauseCount, v0_store_equationsBefore, v0_store_clausesBefore, v0_store_levelCount])), (q0_store_yes, .inl (cL, n0_store_yes, .inr (.inl h0_store_yes))), (q0_store_no, .inl (cL, n0_store_no, .inr (.inl h0_store_no)))] sz) (QiX D [(q0, .inr (7, [v0_n, .long f0_variables, .ref q0_store, v0_tape, v0_base, v0_blamed, v0_gateList, v0_taking, v0_search, .int (bI f0_rowsFresh), .int (bI f0_gatesFresh), v0_latestFault, v0_latestNodes, v0_latestModel])), (q0_store, .inr (4, [v0_store_equations, .ref q0_store_yes, .ref q0_store_no, v0_store_equationCount, .int f0_store_clauseCount, v0_store_equationsBefore, v0_store_clausesBefore, v0_store_levelCount])), (q0_store_yes, .inl (cL, n0_store_yes, .inr (.inl h0_store_yes))), (q0_store_no, .inl (cL, n0_store_no, .inr (.inl h0_store_no)))] r0.1 [(q0, .inr (7, [v0_n, .long f0_variables, .ref q0_store, v0_tape, v0_base, v0_blamed, v0_gateList, v0_taking, v0_search, .int (bI r0.2.1), .int (bI r0.2.2.1), v0_latestFault, v0_latestNodes, v0_latestModel])), (q0_store, .inr (4, [v0_store_equations, .ref q0_store_yes, .ref q0_store_no, v0_store_equationCount, .int r0.2.2.2.1, v0_store_equationsBefore, v0_store_clausesBefore, v0_store_levelCount])), (q0_store_yes, .inl (cL, n0_store_yes, .inr (.inl r0.2.2.2.2.1))), (q0_store_no, .inl (cL, n0_store_no, .inr (.inl r0.2.2.2.2.2)))] sz) (XCW D [(q0, .inr (7, [v0_n, .long f0_variables, .ref q0_store, v0_tape, v0_base, v0_blamed, v0_gateList, v0_taking, v0_search, .int (bI f0_rowsFresh), .int (bI f0_gatesFresh), v0_latestFault, v0_latestNodes, v0_latestModel])), (q0_store, .inr (4, [v0_store_equations, .ref q0_store_yes, .ref q0_store_no, v0_store_equationCount, .int f0_store_clauseCount, v0_store_equationsBefore, v0_store_clausesBefore, v0_store_levelCount])), (q0_store_yes, .inl (cL, n0_store_yes, .inr (.inl h0_store_yes))), (q0_store_no, .inl (cL, n0_store_no, .inr (.inl h0_store_no)))] r0.1 [(q0, .inr (7, [v0_n, .long f0_variables, .ref q0_store, v0_tape, v0_base, v0_blamed, v0_gateList, v0_taking, v0_search, .int (bI r0.2.1), .int (bI r0.2.2.1), v0_latestFault, v0_latestNodes, v0_latestModel])), (q0_store, .inr (4, [v0_store_equations, .ref q0_store_yes, .ref q0_store_no, v0_store_equationCount, .int r0.2.2.2.1, v0_store_equationsBefore, v0_store_clausesBefore, v0_store_levelCount])), (q0_store_yes, .inl (cL, n0_store_yes, .inr (.inl r0.2.2.2.2.1))), (q0_store_no, .inl (cL, n0_store_no, .inr (.inl r0.2.2.2.2.2)))] sz) 1 6 (va_A [(q0, .inr (7, [v0_n, .long f0_variables, .ref q0_store, v0_tape, v0_base, v0_blamed, v0_gateList, v0_taking, v0_search, .int (bI f0_rowsFresh), .int (bI f0_gatesFresh), v0_latestFault, v0_latestNodes, v0_latestModel])), (q0_store, .inr (4, [v0_store_equations, .ref q0_store_yes, .ref q0_store_no, v0_store_equationCount, .int f0_store_clauseCount, v0_store_equationsBefore, v0_store_clausesBefore, v0_store_levelCount])), (q0_store_yes, .inl (cL, n0_store_yes, .inr (.inl h0_store_yes))), (q0_store_no, .inl (cL, n0_store_no, .inr (.inl h0_store_no)))] sz) := by
  refine vx_ofW (cc := cX7_clause) (maxL := 5) (ret := (some .int)) (by decide) rfl ?_
  intro p e s m args below meth c s₁ B hml hnt hv
  obtain ⟨hargs, hsz, hP, hEV, hD0, hX⟩ := hv
  have hx := B.exec
  have hb := B.bytes
  have hr := B.returns
  have hts := atoms_spec (ws := wsX7_clause) B.pre
  have hown : s.vm.findClass RX7 = some m.cls := findClass_of_methodNamed B.named
  have hlocks := B.notSynchronized
  have hK := hEV.K
  have lk_0 := hts _ lk_0_X7_clause
  have lk_1 := hts _ lk_1_X7_clause
  have lk_2 := hts _ lk_2_X7_clause
  have lk_3 := hts _ lk_3_X7_clause
  have lk_4 := hts _ lk_4_X7_clause
  have lk_5 := hts _ lk_5_X7_clause
  subst hsz
  unfold QiX PoW
  have hD := hD0.self (sz := s.heap.size)
  generalize hAe : va_A [(q0, .inr (7, [v0_n, .long f0_variables, .ref q0_store, v0_tape, v0_base, v0_blamed, v0_gateList, v0_taking, v0_search, .int (bI f0_rowsFresh), .int (bI f0_gatesFresh), v0_latestFault, v0_latestNodes, v0_latestModel])), (q0_store, .inr (4, [v0_store_equations, .ref q0_store_yes, .ref q0_store_no, v0_store_equationCount, .int f0_store_clauseCount, v0_store_equationsBefore, v0_store_clausesBefore, v0_store_levelCount])), (q0_store_yes, .inl (cL, n0_store_yes, .inr (.inl h0_store_yes))), (q0_store_no, .inl (cL, n0_store_no, .inr (.inl h0_store_no)))] s.heap.size = A at hD hX ⊢
  have hA : ∀ q : Nat, s.heap.size ≤ q → A q := fun q h => by rw [← hAe]; exact Or.inr h
  have hent : entryFrame m args 5 = entryFrame m ([.ref q0, .long x1, .long x3] : List Value).toArray 5 := by rw [hargs]
  rw [hent]
  refine kx_Q (fun Q hQ => ?_)
  refine kx_H (fun H hH => ?_)
  have hP : va_P D vwCl [(q0, .inr (7, [v0_n, .long f0_variables, .ref q0_store, v0_tape, v0_base, v0_blamed, v0_gateList, v0_taking, v0_search, .int (bI f0_rowsFresh), .int (bI f0_gatesFresh), v0_latestFault, v0_latestNodes, v0_latestModel])), (q0_store, .inr (4, [v0_store_equations, .ref q0_store_yes, .ref q0_store_no, v0_store_equationCount, .int f0_store_clauseCount, v0_store_equationsBefore, v0_store_clausesBefore, v0_store_levelCount])), (q0_store_yes, .inl (cL, n0_store_yes, .inr (.inl h0_store_yes))), (q0_store_no, .inl (cL, n0_store_no, .inr (.inl h0_store_no)))] H := by rw [hH]; exact hP
  have hS : va_S A s.heap H [] := by rw [hH]; exact va_S.rf
  have hl := lv_entry ([.ref q0, .long x1, .long x3]) (n := 5) (Nat.le_of_ble_eq_true rfl)
  rw [lg_entry_eq]
  generalize (lg_sl ([.ref q0, .long x1, .long x3]) ++ List.replicate (5 - (lg_sl ([.ref q0, .long x1, .long x3])).length) Slot.unset).toArray = ls at hl ⊢
  have hl : lv_has ls 5 [(0, .ref q0), (1, .long x1), (3, .long x3)] := hl
  have h := hr0
  unfold D_X7_clause at h
  refine lv_aload_n hx hb dX7_clause_0 rfl (lv_at hl 0 rfl) ?_
  refine lv_lload_n hx hb dX7_clause_1 rfl (lv_at hl 1 rfl) ?_
  refine lv_lload_n hx hb dX7_clause_2 rfl (lv_at hl 2 rfl) ?_
  obtain ⟨u_1, hu_2, h⟩ := co_b h
  refine kx_i (ws' := fun _ => [(q0, .inr (7, [v0_n, .long f0_variables, .ref q0_store, v0_tape, v0_base, v0_blamed, v0_gateList, v0_taking, v0_search, .int (bI f0_rowsFresh), .int (bI f0_gatesFresh), v0_latestFault, v0_latestNodes, v0_latestModel])), (q0_store, .inr (4, [v0_store_equations, .ref q0_store_yes, .ref q0_store_no, v0_store_equationCount, .int f0_store_clauseCount, v0_store_equationsBefore, v0_store_clausesBefore, v0_store_levelCount])), (q0_store_yes, .inl (cL, n0_store_yes, .inr (.inl h0_store_yes))), (q0_store_no, .inl (cL, n0_store_no, .inr (.inl h0_store_no)))]) hP hD hS hA [0] [1, 2, 3] [3, 0, 1, 2] rfl rfl (by decide) (by decide) (fun _ => rfl) (by decide) (va_runV (As := [.long x1, .long x3]) (rest := []) ⟨hx, hb, hml, hown, hts⟩ (cm_X7_areTwoSets l D cI cL (q0 := q0) (f0_variables := f0_variables) (v0_n := v0_n) (v0_store := .ref q0_store) (v0_tape := v0_tape) (v0_base := v0_base) (v0_blamed := v0_blamed) (v0_gateList := v0_gateList) (v0_taking := v0_taking) (v0_search := v0_search) (v0_rowsFresh := .int (bI f0_rowsFresh)) (v0_gatesFresh := .int (bI f0_gatesFresh)) (v0_latestFault := v0_latestFault) (v0_latestNodes := v0_latestNodes) (v0_latestModel := v0_latestModel) (x1 := x1) (x3 := x3) (r0 := u_1) (hr0 := hu_2) (sz := H.size)) (cwV 2 hts gX7_clause_X7_areTwoSets rfl rfl rfl (by decide +kernel) ⟨Nat.le_of_ble_eq_true rfl, Nat.le_of_ble_eq_true rfl⟩) (kx_preV hEV hP hD [0] rfl (by decide) (k0 := 0) (ci := 7) rfl rfl rfl) rfl rfl hl.1 rfl (lv_room (Nat.le_of_ble_eq_true rfl)) dX7_clause_3 ⟨Nat.le_of_ble_eq_true rfl, Nat.le_of_ble_eq_true rfl⟩) (fun _ H locs _ hP hD hS => ?_)
  refine lv_if_ne (tgt := 19) hx hb dX7_clause_6 (by decide) (fun c_3 => ?_) (fun c_3 => ?_)
  · have k_4 : u_1 = true := (kx_nz c_3)
    have h := co_t k_4 h
    refine lv_aload_n hx hb dX7_clause_19 rfl (lv_at hl 0 rfl) ?_
    refine va_get (D := D) (ci := 7) (v := .ref q0_store) (C := RX7) (T := TX7) (N := 14) hx hb hts in_X7_clause_X7 hown hK hP 0 rfl rfl 2 (by decide) lk_0 (fun _ h9 => h9) rfl dX7_clause_20 ?_
    refine va_get (D := D) (ci := 4) (v := .int f0_store_clauseCount) (C := RX4) (T := TX4) (N := 8) hx hb hts in_X7_clause_X4 hown hK hP 1 rfl rfl 4 (by decide) lk_1 (fun _ h9 => h9) rfl dX7_clause_23 ?_
    refine lv_bipush (v := (60 : Int32)) hx hb dX7_clause_26 (by decide) ?_
    refine lv_icmp_lt (tgt := 41) hx hb dX7_clause_28 (by decide) (fun c_5 => ?_) (fun c_5 => ?_)
    · have k_6 : f0_store_clauseCount < (60 : Int32) := c_5
      have h := co_t k_6 h
      refine lv_aload_n hx hb dX7_clause_41 rfl (lv_at hl 0 rfl) ?_
      obtain ⟨u_7, hu_8, h⟩ := co_b h
      refine kx_v (ws' := fun _ => [(q0, .inr (7, [v0_n, .long f0_variables, .ref q0_store, v0_tape, v0_base, v0_blamed, v0_gateList, v0_taking, v0_search, .int (bI u_7.1), .int (bI u_7.2), v0_latestFault, v0_latestNodes, v0_latestModel])), (q0_store, .inr (4, [v0_store_equations, .ref q0_store_yes, .ref q0_store_no, v0_store_equationCount, .int f0_store_clauseCount, v0_store_equationsBefore, v0_store_clausesBefore, v0_store_levelCount])), (q0_store_yes, .inl (cL, n0_store_yes, .inr (.inl h0_store_yes))), (q0_store_no, .inl (cL, n0_store_no, .inr (.inl h0_store_no)))]) hP hD hS hA [0] [1, 2, 3] [3, 0, 1, 2] rfl rfl (by decide) (by decide) (fun _ => rfl) (by decide) (va_runV (As := []) (rest := []) ⟨hx, hb, hml, hown, hts⟩ (cm_X7_forget l D cI cL (q0 := q0) (f0_rowsFresh := f0_rowsFresh) (f0_gatesFresh := f0_gatesFresh) (v0_n := v0_n) (v0_variables := .long f0_variables) (v0_store := .ref q0_store) (v0_tape := v0_tape) (v0_base := v0_base) (v0_blamed := v0_blamed) (v0_gateList := v0_gateList) (v0_taking := v0_taking) (v0_search := v0_search) (v0_latestFault := v0_latestFault) (v0_latestNodes := v0_latestNodes) (v0_latestModel := v0_latestModel) (r0 := u_7) (hr0 := hu_8) (sz := H.size)) (cwV 0 hts gX7_clause_X7_forget rfl rfl rfl (by decide +kernel) ⟨Nat.le_of_ble_eq_true rfl, Nat.le_of_ble_eq_true rfl⟩) (kx_preV hEV hP hD [0] rfl (by decide) (k0 := 0) (ci := 7) rfl rfl rfl) rfl rfl hl.1 rfl (lv_room (Nat.le_of_ble_eq_true rfl)) dX7_clause_42 ⟨Nat.le_of_ble_eq_true rfl, Nat.le_of_ble_eq_true rfl⟩) (fun _ H locs _ hP hD hS => ?_)
      refine lv_aload_n hx hb dX7_clause_45 rfl (lv_at hl 0 rfl) ?_
      refine va_get (D := D) (ci := 7) (v := .ref q0_store) (C := RX7) (T := TX7) (N := 14) hx hb hts in_X7_clause_X7 hown hK hP 0 rfl rfl 2 (by decide) lk_0 (fun _ h9 => h9) rfl dX7_clause_46 ?_
      refine lv_lload_n hx hb dX7_clause_49 rfl (lv_at hl 1 rfl) ?_
      refine lv_lload_n hx hb dX7_clause_50 rfl (lv_at hl 2 rfl) ?_
      obtain ⟨u_9, hu_10, h⟩ := co_b h
      refine kx_i (ws' := fun _ => [(q0, .inr (7, [v0_n, .long f0_variables, .ref q0_store, v0_tape, v0_base, v0_blamed, v0_gateList, v0_taking, v0_search, .int (bI u_7.1), .int (bI u_7.2), v0_latestFault, v0_latestNodes, v0_latestModel])), (q0_store, .inr (4, [v0_store_equations, .ref q0_store_yes, .ref q0_store_no, v0_store_equationCount, .int u_9.2.1, v0_store_equationsBefore, v0_store_clausesBefore, v0_store_levelCount])), (q0_store_yes, .inl (cL, n0_store_yes, .inr (.inl u_9.2.2.1))), (q0_store_no, .inl (cL, n0_store_no, .inr (.inl u_9.2.2.2)))]) hP hD hS hA [1, 2, 3] [0] [0, 1, 2, 3] rfl rfl (by decide) (by decide) (fun _ => rfl) (by decide) (va_runV (As := [.long x1, .long x3]) (rest := []) ⟨hx, hb, hml, hown, hts⟩ (cm_X4_addClause l D cI cL (q0 := q0_store) (q0_yes := q0_store_yes) (q0_no := q0_store_no) (n0_yes := n0_store_yes) (n0_no := n0_store_no) (f0_clauseCount := f0_store_clauseCount) (h0_yes := h0_store_yes) (h0_no := h0_store_no) (v0_equations := v0_store_equations) (v0_equationCount := v0_store_equationCount) (v0_equationsBefore := v0_store_equationsBefore) (v0_clausesBefore := v0_store_clausesBefore) (v0_levelCount := v0_store_levelCount) (x1 := x1) (x3 := x3) (r0 := u_9) (hr0 := hu_10) (sz := H.size)) (cwV 2 hts gX7_clause_X4_addClause rfl rfl rfl (by decide +kernel) ⟨Nat.le_of_ble_eq_true rfl, Nat.le_of_ble_eq_true rfl⟩) (kx_preV hEV hP hD [1, 2, 3] rfl (by decide) (k0 := 1) (ci := 4) rfl rfl rfl) rfl rfl hl.1 rfl (lv_room (Nat.le_of_ble_eq_true rfl)) dX7_clause_51 ⟨Nat.le_of_ble_eq_true rfl, Nat.le_of_ble_eq_true rfl⟩) (fun _ H locs _ hP hD hS => ?_)
      refine lv_pop hx hb dX7_clause_54 rfl ?_
      refine lv_aload_n hx hb dX7_clause_55 rfl (lv_at hl 0 rfl) ?_
      refine va_get (D := D) (ci := 7) (v := .ref q0_store) (C := RX7) (T := TX7) (N := 14) hx hb hts in_X7_clause_X7 hown hK hP 0 rfl rfl 2 (by decide) lk_0 (fun _ h9 => h9) rfl dX7_clause_56 ?_
      refine va_get (D := D) (ci := 4) (v := .int u_9.2.1) (C := RX4) (T := TX4) (N := 8) hx hb hts in_X7_clause_X4 hown hK hP 1 rfl rfl 4 (by decide) lk_1 (fun _ h9 => h9) rfl dX7_clause_59 ?_
      refine lv_iconst (v := (1 : Int32)) hx hb dX7_clause_62 (by decide) ?_
      refine lv_isub hx hb dX7_clause_63 ?_
      have h := Option.some.inj h
      subst h
      subst hQ
      refine vx_ret ?_
      refine W.widen (k := 1) (n := 6) (by decide) (by decide) ?_
      exact W.iret (v := u_9.2.1 - (1 : Int32)) hx hb hr (fun t ht hW => ⟨⟨u_9.2.1 - (1 : Int32), (), rfl, rfl, by rw [ht]; exact hP, hD⟩, hS.F ht⟩) hS.2.2 dX7_clause_64
    · have k_6 : ¬ (f0_store_clauseCount < (60 : Int32)) := c_5
      have h := co_f k_6 h
      have h := Option.some.inj h
      subst h
      subst hQ
      obtain ⟨sa9, hsa9⟩ := hX.2.2.2.2.2.2.2.2.2.2.2.2.2.1
      exact vx_throwS (cls := "java/lang/IllegalStateException") (names := ["java/lang/RuntimeException", "java/lang/Exception"]) hx hb hltr hown (by decide +kernel) (by decide +kernel) lk_2 lk_3 hsa9 (vx_hat (B := [.castable "java/lang/IllegalStateException" "java/lang/IllegalStateException", .declares dcR, .declares dcE, .declares dcT]) (fun w9 h9 => hts w9 (tw_X7_clause_100 w9 h9)) thb_X7_100 (vx_c (va_Nw.use rfl hX.2.2.2.1) (vx_c (va_Nw.use rfl hX.2.2.2.2.2.2.2.1) (vx_c (va_Nw.use rfl hX.2.2.2.2.2.2.2.2.1) (vx_c (va_Nw.use rfl hX.2.2.2.2.2.2.2.2.2.1) vx_n))))) thg_X7_100 hX.1 hX.2.1 hS (hl.1.trans hml.symm) dX7_clause_31 dX7_clause_34 dX7_clause_35 dX7_clause_37 dX7_clause_40 (fun x9 h9 => (hnt x9 h9).elim) (by decide) (Nat.le_of_ble_eq_true rfl) (by decide) (by decide) hlocks (ky_x (k := 1) hAe hP hD hS rfl rfl) hS.2.2 (by decide) (by decide)
  · have k_4 : ¬ (u_1 = true) := (kx_z c_3)
    have h := co_f k_4 h
    have h := Option.some.inj h
    subst h
    subst hQ
    obtain ⟨sa9, hsa9⟩ := hX.2.2.2.2.2.2.2.2.2.2.2.2.1
    exact vx_throwS (cls := "java/lang/IllegalArgumentException") (names := ["java/lang/RuntimeException", "java/lang/Exception"]) hx hb hltr hown (by decide +kernel) (by decide +kernel) lk_4 lk_5 hsa9 (vx_hat (B := [.castable "java/lang/IllegalArgumentException" "java/lang/IllegalArgumentException", .declares dcR, .declares dcE, .declares dcT]) (fun w9 h9 => hts w9 (tw_X7_clause_90 w9 h9)) thb_X7_90 (vx_c (va_Nw.use rfl hX.2.2.1) (vx_c (va_Nw.use rfl hX.2.2.2.2.2.2.2.1) (vx_c (va_Nw.use rfl hX.2.2.2.2.2.2.2.2.1) (vx_c (va_Nw.use rfl hX.2.2.2.2.2.2.2.2.2.1) vx_n))))) thg_X7_90 hX.1 hX.2.1 hS (hl.1.trans hml.symm) dX7_clause_9 dX7_clause_12 dX7_clause_13 dX7_clause_15 dX7_clause_18 (fun x9 h9 => (hnt x9 h9).elim) (by decide) (Nat.le_of_ble_eq_true rfl) (by decide) (by decide) hlocks (ky_x (k := 0) hAe hP hD hS rfl rfl) hS.2.2 (by decide) (by decide)
theorem in_X7_feed_X6 : ∀ w ∈ wsX60, w ∈ wsX7_feed := by decide +kernel
theorem in_X7_feed_X7 : ∀ w ∈ wsX70, w ∈ wsX7_feed := by decide +kernel
theorem lk_0_X7_feed : Cond.classLink RX7 86 "java/lang/IllegalArgumentException" ∈ wsX7_feed := by decide +kernel
theorem lk_1_X7_feed : Cond.initialized "java/lang/IllegalArgumentException" ∈ wsX7_feed := by decide +kernel
theorem lk_2_X7_feed : Cond.fieldLink RX7 36 "ParityClauses" "tape" "LParityClauses$Tape;" ∈ wsX7_feed := by decide +kernel
theorem lk_3_X7_feed : Cond.fieldLink RX7 125 "ParityClauses$Tape" "length" "I" ∈ wsX7_feed := by decide +kernel
theorem lk_4_X7_feed : Cond.classLink RX7 96 "java/lang/IllegalStateException" ∈ wsX7_feed := by decide +kernel
theorem lk_5_X7_feed : Cond.initialized "java/lang/IllegalStateException" ∈ wsX7_feed := by decide +kernel
theorem tw_X7_feed_90 : ∀ w ∈ (vx_atS RX7 90 "java/lang/IllegalArgumentException" ["java/lang/RuntimeException", "java/lang/Exception"]).filter goodWord, w ∈ wsX7_feed := by decide +kernel
theorem tw_X7_feed_100 : ∀ w ∈ (vx_atS RX7 100 "java/lang/IllegalStateException" ["java/lang/RuntimeException", "java/lang/Exception"]).filter goodWord, w ∈ wsX7_feed := by decide +kernel
abbrev rm_X7_feed : Room := { frames := 6, cells := 1, slots := 6, locals := 90 }
set_option maxHeartbeats 4000000 in
set_option maxRecDepth 100000 in
theorem cm_X7_feed (l : Launch) (hltr : l.stackTraces = false) (D : va_G) (cI cL : ClassId) (q0 q0_tape q0_tape_bytes : Nat) (n0_tape_bytes : Nat) (f0_tape_length : Int32) (h0_tape_bytes : Nat → Int32) (v0_n v0_variables v0_store v0_base v0_blamed v0_gateList v0_taking v0_search v0_rowsFresh v0_gatesFresh v0_latestFault v0_latestNodes v0_latestModel v0_tape_fault v0_tape_place v0_tape_isEquation v0_tape_first v0_tape_second v0_tape_rightIsOne : Value) (x1 : Int64) (x3 : Int32) (r0 : (Int32 ⊕ Nat) × Int32 × (Nat → Int32)) (hr0 : D_X7_feed f0_tape_length n0_tape_bytes h0_tape_bytes x1 x3 = some r0) (sz : Nat) : vx_Met l yX7_feed wsX7_feed rm_X7_feed (PcX D cI cL [.ref q0, .long x1, .int x3] [(q0, .inr (7, [v0_n, v0_variables, v0_store, .ref q0_tape, v0_base, v0_blamed, v0_gateList, v0_taking, v0_search, v0_rowsFresh, v0_gatesFresh, v0_latestFault, v0_latestNodes, v0_latestModel])), (q0_tape, .inr (6, [.ref q0_tape_bytes, .int f0_tape_length, v0_tape_fault, v0_tape_place, v0_tape_isEquation, v0_tape_first, v0_tape_second, v0_tape_rightIsOne])), (q0_tape_bytes, .inl (cI, n0_tape_bytes, .inl h0_tape_bytes))] sz) (QiX D [(q0, .inr (7, [v0_n, v0_variables, v0_store, .ref q0_tape, v0_base, v0_blamed, v0_gateList, v0_taking, v0_search, v0_rowsFresh, v0_gatesFresh, v0_latestFault, v0_latestNodes, v0_latestModel])), (q0_tape, .inr (6, [.ref q0_tape_bytes, .int f0_tape_length, v0_tape_fault, v0_tape_place, v0_tape_isEquation, v0_tape_first, v0_tape_second, v0_tape_rightIsOne])), (q0_tape_bytes, .inl (cI, n0_tape_bytes, .inl h0_tape_bytes))] r0.1 [(q0, .inr (7, [v0_n, v0_variables, v0_store, .ref q0_tape, v0_base, v0_blamed, v0_gateList, v0_taking, v0_search, v0_rowsFresh, v0_gatesFresh, v0_latestFault, v0_latestNodes, v0_latestModel])), (q0_tape, .inr (6, [.ref q0_tape_bytes, .int r0.2.1, v0_tape_fault, v0_tape_place, v0_tape_isEquation, v0_tape_first, v0_tape_second, v0_tape_rightIsOne])), (q0_tape_bytes, .inl (cI, n0_tape_bytes, .inl r0.2.2))] sz) (XCW D [(q0, .inr (7, [v0_n, v0_variables, v0_store, .ref q0_tape, v0_base, v0_blamed, v0_gateList, v0_taking, v0_search, v0_rowsFresh, v0_gatesFresh, v0_latestFault, v0_latestNodes, v0_latestModel])), (q0_tape, .inr (6, [.ref q0_tape_bytes, .int f0_tape_length, v0_tape_fault, v0_tape_place, v0_tape_isEquation, v0_tape_first, v0_tape_second, v0_tape_rightIsOne])), (q0_tape_bytes, .inl (cI, n0_tape_bytes, .inl h0_tape_bytes))] r0.1 [(q0, .inr (7, [v0_n, v0_variables, v0_store, .ref q0_tape, v0_base, v0_blamed, v0_gateList, v0_taking, v0_search, v0_rowsFresh, v0_gatesFresh, v0_latestFault, v0_latestNodes, v0_latestModel])), (q0_tape, .inr (6, [.ref q0_tape_bytes, .int r0.2.1, v0_tape_fault, v0_tape_place, v0_tape_isEquation, v0_tape_first, v0_tape_second, v0_tape_rightIsOne])), (q0_tape_bytes, .inl (cI, n0_tape_bytes, .inl r0.2.2))] sz) 1 6 (va_A [(q0, .inr (7, [v0_n, v0_variables, v0_store, .ref q0_tape, v0_base, v0_blamed, v0_gateList, v0_taking, v0_search, v0_rowsFresh, v0_gatesFresh, v0_latestFault, v0_latestNodes, v0_latestModel])), (q0_tape, .inr (6, [.ref q0_tape_bytes, .int f0_tape_length, v0_tape_fault, v0_tape_place, v0_tape_isEquation, v0_tape_first, v0_tape_second, v0_tape_rightIsOne])), (q0_tape_bytes, .inl (cI, n0_tape_bytes, .inl h0_tape_bytes))] sz) := by
  refine vx_ofW (cc := cX7_feed) (maxL := 5) (ret := (some .int)) (by decide) rfl ?_
  intro p e s m args below meth c s₁ B hml hnt hv
  obtain ⟨hargs, hsz, hP, hEV, hD0, hX⟩ := hv
  have hx := B.exec
  have hb := B.bytes
  have hr := B.returns
  have hts := atoms_spec (ws := wsX7_feed) B.pre
  have hown : s.vm.findClass RX7 = some m.cls := findClass_of_methodNamed B.named
  have hlocks := B.notSynchronized
  have hK := hEV.K
  have lk_0 := hts _ lk_0_X7_feed
  have lk_1 := hts _ lk_1_X7_feed
  have lk_2 := hts _ lk_2_X7_feed
  have lk_3 := hts _ lk_3_X7_feed
  have lk_4 := hts _ lk_4_X7_feed
  have lk_5 := hts _ lk_5_X7_feed
  subst hsz
  unfold QiX PoW
  have hD := hD0.self (sz := s.heap.size)
  generalize hAe : va_A [(q0, .inr (7, [v0_n, v0_variables, v0_store, .ref q0_tape, v0_base, v0_blamed, v0_gateList, v0_taking, v0_search, v0_rowsFresh, v0_gatesFresh, v0_latestFault, v0_latestNodes, v0_latestModel])), (q0_tape, .inr (6, [.ref q0_tape_bytes, .int f0_tape_length, v0_tape_fault, v0_tape_place, v0_tape_isEquation, v0_tape_first, v0_tape_second, v0_tape_rightIsOne])), (q0_tape_bytes, .inl (cI, n0_tape_bytes, .inl h0_tape_bytes))] s.heap.size = A at hD hX ⊢
  have hA : ∀ q : Nat, s.heap.size ≤ q → A q := fun q h => by rw [← hAe]; exact Or.inr h
  have hent : entryFrame m args 5 = entryFrame m ([.ref q0, .long x1, .int x3] : List Value).toArray 5 := by rw [hargs]
  rw [hent]
  refine kx_Q (fun Q hQ => ?_)
  refine kx_H (fun H hH => ?_)
  have hP : va_P D vwCl [(q0, .inr (7, [v0_n, v0_variables, v0_store, .ref q0_tape, v0_base, v0_blamed, v0_gateList, v0_taking, v0_search, v0_rowsFresh, v0_gatesFresh, v0_latestFault, v0_latestNodes, v0_latestModel])), (q0_tape, .inr (6, [.ref q0_tape_bytes, .int f0_tape_length, v0_tape_fault, v0_tape_place, v0_tape_isEquation, v0_tape_first, v0_tape_second, v0_tape_rightIsOne])), (q0_tape_bytes, .inl (cI, n0_tape_bytes, .inl h0_tape_bytes))] H := by rw [hH]; exact hP
  have hS : va_S A s.heap H [] := by rw [hH]; exact va_S.rf
  have hl := lv_entry ([.ref q0, .long x1, .int x3]) (n := 5) (Nat.le_of_ble_eq_true rfl)
  rw [lg_entry_eq]
  generalize (lg_sl ([.ref q0, .long x1, .int x3]) ++ List.replicate (5 - (lg_sl ([.ref q0, .long x1, .int x3])).length) Slot.unset).toArray = ls at hl ⊢
  have hl : lv_has ls 5 [(0, .ref q0), (1, .long x1), (3, .int x3)] := hl
  have hloop : ∀ n9 : Nat, (∀ (x4 : Int32) (f0_tape_length : Int32) (h0_tape_bytes : Nat → Int32), iter (st_X7_feed n0_tape_bytes x1 x3) n9 (x4, f0_tape_length, h0_tape_bytes) = some r0 → ∀ (H : Heap) (locs : List Loc) (ls : Array Slot), va_P D vwCl [(q0, .inr (7, [v0_n, v0_variables, v0_store, .ref q0_tape, v0_base, v0_blamed, v0_gateList, v0_taking, v0_search, v0_rowsFresh, v0_gatesFresh, v0_latestFault, v0_latestNodes, v0_latestModel])), (q0_tape, .inr (6, [.ref q0_tape_bytes, .int f0_tape_length, v0_tape_fault, v0_tape_place, v0_tape_isEquation, v0_tape_first, v0_tape_second, v0_tape_rightIsOne])), (q0_tape_bytes, .inl (cI, n0_tape_bytes, .inl h0_tape_bytes))] H → va_D A [(q0, .inr (7, [v0_n, v0_variables, v0_store, .ref q0_tape, v0_base, v0_blamed, v0_gateList, v0_taking, v0_search, v0_rowsFresh, v0_gatesFresh, v0_latestFault, v0_latestNodes, v0_latestModel])), (q0_tape, .inr (6, [.ref q0_tape_bytes, .int f0_tape_length, v0_tape_fault, v0_tape_place, v0_tape_isEquation, v0_tape_first, v0_tape_second, v0_tape_rightIsOne])), (q0_tape_bytes, .inl (cI, n0_tape_bytes, .inl h0_tape_bytes))] → va_S A s.heap H locs → lv_has ls 5 [(0, .ref q0), (1, .long x1), (4, .int x4)] → W p l e (headSpec wsX7_feed rm_X7_feed).room s m args below meth c H locs 0 0 Q (F0 m 51 ls [])) := by
    intro n9
    induction n9 with
    | zero => exact (fun _ _ _ h => nomatch h)
    | succ n9 ih =>
      intro x4 f0_tape_length h0_tape_bytes h H locs ls hP hD hS hl
      have h : run1 (iter (st_X7_feed n0_tape_bytes x1 x3) n9) (b_X7_feed_51 n0_tape_bytes x1 x3 x4 f0_tape_length h0_tape_bytes) = some r0 := h
      unfold b_X7_feed_51 at h
      refine lv_iload hx hb dX7_feed_51 (lv_at hl 2 rfl) ?_
      refine lv_if_lt (tgt := 81) hx hb dX7_feed_53 (by decide) (fun c_7 => ?_) (fun c_7 => ?_)
      · have k_8 : x4 < 0 := c_7
        have h := cw_t k_8 h
        refine lv_aload_n hx hb dX7_feed_81 rfl (lv_at hl 0 rfl) ?_
        refine va_get (D := D) (ci := 7) (v := .ref q0_tape) (C := RX7) (T := TX7) (N := 14) hx hb hts in_X7_feed_X7 hown hK hP 0 rfl rfl 3 (by decide) lk_2 (fun _ h9 => h9) rfl dX7_feed_82 ?_
        refine va_get (D := D) (ci := 6) (v := .int f0_tape_length) (C := RX6) (T := TX6) (N := 8) hx hb hts in_X7_feed_X6 hown hK hP 1 rfl rfl 1 (by decide) lk_3 (fun _ h9 => h9) rfl dX7_feed_85 ?_
        have h := Option.some.inj h
        subst h
        subst hQ
        refine vx_ret ?_
        refine W.widen (k := 1) (n := 6) (by decide) (by decide) ?_
        exact W.iret (v := f0_tape_length) hx hb hr (fun t ht hW => ⟨⟨f0_tape_length, (), rfl, rfl, by rw [ht]; exact hP, hD⟩, hS.F ht⟩) hS.2.2 dX7_feed_88
      · have k_8 : ¬ (x4 < 0) := c_7
        have h := cw_f k_8 h
        refine lv_aload_n hx hb dX7_feed_56 rfl (lv_at hl 0 rfl) ?_
        refine va_get (D := D) (ci := 7) (v := .ref q0_tape) (C := RX7) (T := TX7) (N := 14) hx hb hts in_X7_feed_X7 hown hK hP 0 rfl rfl 3 (by decide) lk_2 (fun _ h9 => h9) rfl dX7_feed_57 ?_
        refine lv_lload_n hx hb dX7_feed_60 rfl (lv_at hl 1 rfl) ?_
        refine lv_bipush (v := (8 : Int32)) hx hb dX7_feed_61 (by decide) ?_
        refine lv_iload hx hb dX7_feed_63 (lv_at hl 2 rfl) ?_
        refine lv_imul hx hb dX7_feed_65 ?_
        refine lv_lushr (v := jushr x1 ((8 : Int32) * x4)) hx hb dX7_feed_66 rfl ?_
        refine lv_l2i (v := (jushr x1 ((8 : Int32) * x4)).toInt32) hx hb dX7_feed_67 rfl ?_
        refine lv_sipush (v := (255 : Int32)) hx hb dX7_feed_68 (by decide) ?_
        refine lv_iand hx hb dX7_feed_71 ?_
        obtain ⟨u_9, hu_10, h⟩ := cw_b h
        refine kx_v (ws' := fun _ => [(q0, .inr (7, [v0_n, v0_variables, v0_store, .ref q0_tape, v0_base, v0_blamed, v0_gateList, v0_taking, v0_search, v0_rowsFresh, v0_gatesFresh, v0_latestFault, v0_latestNodes, v0_latestModel])), (q0_tape, .inr (6, [.ref q0_tape_bytes, .int u_9.1, v0_tape_fault, v0_tape_place, v0_tape_isEquation, v0_tape_first, v0_tape_second, v0_tape_rightIsOne])), (q0_tape_bytes, .inl (cI, n0_tape_bytes, .inl u_9.2))]) hP hD hS hA [1, 2] [0] [0, 1, 2] rfl rfl (by decide) (by decide) (fun _ => rfl) (by decide) (va_runV (As := [.int (((jushr x1 ((8 : Int32) * x4)).toInt32) &&& (255 : Int32))]) (rest := []) ⟨hx, hb, hml, hown, hts⟩ (cm_X6_put l D cI cL (q0 := q0_tape) (q0_bytes := q0_tape_bytes) (n0_bytes := n0_tape_bytes) (f0_length := f0_tape_length) (h0_bytes := h0_tape_bytes) (v0_fault := v0_tape_fault) (v0_place := v0_tape_place) (v0_isEquation := v0_tape_isEquation) (v0_first := v0_tape_first) (v0_second := v0_tape_second) (v0_rightIsOne := v0_tape_rightIsOne) (x1 := ((jushr x1 ((8 : Int32) * x4)).toInt32) &&& (255 : Int32)) (r0 := u_9) (hr0 := hu_10) (sz := H.size)) (cwV 1 hts gX7_feed_X6_put rfl rfl rfl (by decide +kernel) ⟨Nat.le_of_ble_eq_true rfl, Nat.le_of_ble_eq_true rfl⟩) (kx_preV hEV hP hD [1, 2] rfl (by decide) (k0 := 1) (ci := 6) rfl rfl rfl) rfl rfl hl.1 rfl (lv_room (Nat.le_of_ble_eq_true rfl)) dX7_feed_72 ⟨Nat.le_of_ble_eq_true rfl, Nat.le_of_ble_eq_true rfl⟩) (fun _ H locs _ hP hD hS => ?_)
        refine lv_iinc (v := x4 + (-1 : Int32)) (lv' := [(4, .int (x4 + (-1 : Int32))), (0, .ref q0), (1, .long x1)]) hx hb dX7_feed_75 hl (k := 2) rfl rfl (by decide) rfl (fun ls hl => ?_)
        refine lv_goto (tgt := 51) hx hb dX7_feed_78 (by decide) ?_
        exact ih _ _ _ h _ _ _ hP hD hS (lv_sub hl [1, 2, 0] rfl)
  have h := hr0
  unfold D_X7_feed at h
  refine lv_iload_n hx hb dX7_feed_0 rfl (lv_at hl 2 rfl) ?_
  refine lv_iconst (v := (1 : Int32)) hx hb dX7_feed_1 (by decide) ?_
  refine lv_icmp_lt (tgt := 11) hx hb dX7_feed_2 (by decide) (fun c_1 => ?_) (fun c_1 => ?_)
  · have k_2 : x3 < (1 : Int32) := c_1
    have h := co_t k_2 h
    have h := Option.some.inj h
    subst h
    subst hQ
    obtain ⟨sa9, hsa9⟩ := hX.2.2.2.2.2.2.2.2.2.2.2.2.2.2.1
    exact vx_throwS (cls := "java/lang/IllegalArgumentException") (names := ["java/lang/RuntimeException", "java/lang/Exception"]) hx hb hltr hown (by decide +kernel) (by decide +kernel) lk_0 lk_1 hsa9 (vx_hat (B := [.castable "java/lang/IllegalArgumentException" "java/lang/IllegalArgumentException", .declares dcR, .declares dcE, .declares dcT]) (fun w9 h9 => hts w9 (tw_X7_feed_90 w9 h9)) thb_X7_90 (vx_c (va_Nw.use rfl hX.2.2.1) (vx_c (va_Nw.use rfl hX.2.2.2.2.2.2.2.1) (vx_c (va_Nw.use rfl hX.2.2.2.2.2.2.2.2.1) (vx_c (va_Nw.use rfl hX.2.2.2.2.2.2.2.2.2.1) vx_n))))) thg_X7_90 hX.1 hX.2.1 hS (hl.1.trans hml.symm) dX7_feed_11 dX7_feed_14 dX7_feed_15 dX7_feed_17 dX7_feed_20 (fun x9 h9 => (hnt x9 h9).elim) (by decide) (Nat.le_of_ble_eq_true rfl) (by decide) (by decide) hlocks (ky_x (k := 0) hAe hP hD hS rfl rfl) hS.2.2 (by decide) (by decide)
  · have k_2 : ¬ (x3 < (1 : Int32)) := c_1
    have h := co_f k_2 h
    refine lv_iload_n hx hb dX7_feed_5 rfl (lv_at hl 2 rfl) ?_
    refine lv_bipush (v := (8 : Int32)) hx hb dX7_feed_6 (by decide) ?_
    refine lv_icmp_le (tgt := 21) hx hb dX7_feed_8 (by decide) (fun c_3 => ?_) (fun c_3 => ?_)
    · have k_4 : x3 ≤ (8 : Int32) := c_3
      have h := co_t k_4 h
      refine lv_aload_n hx hb dX7_feed_21 rfl (lv_at hl 0 rfl) ?_
      refine va_get (D := D) (ci := 7) (v := .ref q0_tape) (C := RX7) (T := TX7) (N := 14) hx hb hts in_X7_feed_X7 hown hK hP 0 rfl rfl 3 (by decide) lk_2 (fun _ h9 => h9) rfl dX7_feed_22 ?_
      refine va_get (D := D) (ci := 6) (v := .int f0_tape_length) (C := RX6) (T := TX6) (N := 8) hx hb hts in_X7_feed_X6 hown hK hP 1 rfl rfl 1 (by decide) lk_3 (fun _ h9 => h9) rfl dX7_feed_25 ?_
      refine lv_iload_n hx hb dX7_feed_28 rfl (lv_at hl 2 rfl) ?_
      refine lv_iadd hx hb dX7_feed_29 ?_
      refine lv_sipush (v := (500 : Int32)) hx hb dX7_feed_30 (by decide) ?_
      refine lv_icmp_le (tgt := 46) hx hb dX7_feed_33 (by decide) (fun c_5 => ?_) (fun c_5 => ?_)
      · have k_6 : (f0_tape_length + x3) ≤ (500 : Int32) := c_5
        have h := co_t k_6 h
        refine lv_iload_n hx hb dX7_feed_46 rfl (lv_at hl 2 rfl) ?_
        refine lv_iconst (v := (1 : Int32)) hx hb dX7_feed_47 (by decide) ?_
        refine lv_isub hx hb dX7_feed_48 ?_
        refine lv_istore (lv' := [(4, .int (x3 - (1 : Int32))), (0, .ref q0), (1, .long x1), (3, .int x3)]) hx hb dX7_feed_49 hl (by decide) rfl (fun ls hl => ?_)
        obtain ⟨n9, hn9⟩ := runw_some h
        exact (hloop n9) _ _ _ hn9 _ _ _ hP hD hS (lv_sub hl [1, 2, 0] rfl)
      · have k_6 : ¬ ((f0_tape_length + x3) ≤ (500 : Int32)) := c_5
        have h := co_f k_6 h
        have h := Option.some.inj h
        subst h
        subst hQ
        obtain ⟨sa9, hsa9⟩ := hX.2.2.2.2.2.2.2.2.2.2.2.2.2.2.2.1
        exact vx_throwS (cls := "java/lang/IllegalStateException") (names := ["java/lang/RuntimeException", "java/lang/Exception"]) hx hb hltr hown (by decide +kernel) (by decide +kernel) lk_4 lk_5 hsa9 (vx_hat (B := [.castable "java/lang/IllegalStateException" "java/lang/IllegalStateException", .declares dcR, .declares dcE, .declares dcT]) (fun w9 h9 => hts w9 (tw_X7_feed_100 w9 h9)) thb_X7_100 (vx_c (va_Nw.use rfl hX.2.2.2.1) (vx_c (va_Nw.use rfl hX.2.2.2.2.2.2.2.1) (vx_c (va_Nw.use rfl hX.2.2.2.2.2.2.2.2.1) (vx_c (va_Nw.use rfl hX.2.2.2.2.2.2.2.2.2.1) vx_n))))) thg_X7_100 hX.1 hX.2.1 hS (hl.1.trans hml.symm) dX7_feed_36 dX7_feed_39 dX7_feed_40 dX7_feed_42 dX7_feed_45 (fun x9 h9 => (hnt x9 h9).elim) (by decide) (Nat.le_of_ble_eq_true rfl) (by decide) (by decide) hlocks (ky_x (k := 1) hAe hP hD hS rfl rfl) hS.2.2 (by decide) (by decide)
    · have k_4 : ¬ (x3 ≤ (8 : Int32)) := c_3
      have h := co_f k_4 h
      have h := Option.some.inj h
      subst h
      subst hQ
      obtain ⟨sa9, hsa9⟩ := hX.2.2.2.2.2.2.2.2.2.2.2.2.2.2.1
      exact vx_throwS (cls := "java/lang/IllegalArgumentException") (names := ["java/lang/RuntimeException", "java/lang/Exception"]) hx hb hltr hown (by decide +kernel) (by decide +kernel) lk_0 lk_1 hsa9 (vx_hat (B := [.castable "java/lang/IllegalArgumentException" "java/lang/IllegalArgumentException", .declares dcR, .declares dcE, .declares dcT]) (fun w9 h9 => hts w9 (tw_X7_feed_90 w9 h9)) thb_X7_90 (vx_c (va_Nw.use rfl hX.2.2.1) (vx_c (va_Nw.use rfl hX.2.2.2.2.2.2.2.1) (vx_c (va_Nw.use rfl hX.2.2.2.2.2.2.2.2.1) (vx_c (va_Nw.use rfl hX.2.2.2.2.2.2.2.2.2.1) vx_n))))) thg_X7_90 hX.1 hX.2.1 hS (hl.1.trans hml.symm) dX7_feed_11 dX7_feed_14 dX7_feed_15 dX7_feed_17 dX7_feed_20 (fun x9 h9 => (hnt x9 h9).elim) (by decide) (Nat.le_of_ble_eq_true rfl) (by decide) (by decide) hlocks (ky_x (k := 0) hAe hP hD hS rfl rfl) hS.2.2 (by decide) (by decide)
theorem in_X7_push_X4 : ∀ w ∈ wsX40, w ∈ wsX7_push := by decide +kernel
theorem in_X7_push_X7 : ∀ w ∈ wsX70, w ∈ wsX7_push := by decide +kernel
theorem lk_0_X7_push : Cond.fieldLink RX7 29 "ParityClauses" "store" "LParityClauses$Store;" ∈ wsX7_push := by decide +kernel
theorem lk_1_X7_push : Cond.fieldLink RX7 147 "ParityClauses$Store" "levelCount" "I" ∈ wsX7_push := by decide +kernel
theorem lk_2_X7_push : Cond.classLink RX7 96 "java/lang/IllegalStateException" ∈ wsX7_push := by decide +kernel
theorem lk_3_X7_push : Cond.initialized "java/lang/IllegalStateException" ∈ wsX7_push := by decide +kernel
theorem tw_X7_push_100 : ∀ w ∈ (vx_atS RX7 100 "java/lang/IllegalStateException" ["java/lang/RuntimeException", "java/lang/Exception"]).filter goodWord, w ∈ wsX7_push := by decide +kernel
abbrev rm_X7_push : Room := { frames := 6, cells := 1, slots := 6, locals := 90 }
set_option maxHeartbeats 4000000 in
set_option maxRecDepth 100000 in
theorem cm_X7_push (l : Launch) (hltr : l.stackTraces = false) (D : va_G) (cI cL : ClassId) (q0 q0_store q0_store_equationsBefore q0_store_clausesBefore : Nat) (n0_store_equationsBefore n0_store_clausesBefore : Nat) (f0_store_equationCount : Int32) (f0_store_clauseCount : Int32) (f0_store_levelCount : Int32) (h0_store_equationsBefore : Nat → Int32) (h0_store_clausesBefore : Nat → Int32) (v0_n v0_variables v0_tape v0_base v0_blamed v0_gateList v0_taking v0_search v0_rowsFresh v0_gatesFresh v0_latestFault v0_latestNodes v0_latestModel v0_store_equations v0_store_yes v0_store_no : Value) (r0 : (Int32 ⊕ Nat) × Int32 × (Nat → Int32) × (Nat → Int32)) (hr0 : D_X7_push f0_store_equationCount f0_store_clauseCount f0_store_levelCount n0_store_equationsBefore h0_store_equationsBefore n0_store_clausesBefore h0_store_clausesBefore = some r0) (sz : Nat) : vx_Met l yX7_push wsX7_push rm_X7_push (PcX D cI cL [.ref q0] [(q0, .inr (7, [v0_n, v0_variables, .ref q0_store, v0_tape, v0_base, v0_blamed, v0_gateList, v0_taking, v0_search, v0_rowsFresh, v0_gatesFresh, v0_latestFault, v0_latestNodes, v0_latestModel])), (q0_store, .inr (4, [v0_store_equations, v0_store_yes, v0_store_no, .int f0_store_equationCount, .int f0_store_clauseCount, .ref q0_store_equationsBefore, .ref q0_store_clausesBefore, .int f0_store_levelCount])), (q0_store_equationsBefore, .inl (cI, n0_store_equationsBefore, .inl h0_store_equationsBefore)), (q0_store_clausesBefore, .inl (cI, n0_store_clausesBefore, .inl h0_store_clausesBefore))] sz) (QiX D [(q0, .inr (7, [v0_n, v0_variables, .ref q0_store, v0_tape, v0_base, v0_blamed, v0_gateList, v0_taking, v0_search, v0_rowsFresh, v0_gatesFresh, v0_latestFault, v0_latestNodes, v0_latestModel])), (q0_store, .inr (4, [v0_store_equations, v0_store_yes, v0_store_no, .int f0_store_equationCount, .int f0_store_clauseCount, .ref q0_store_equationsBefore, .ref q0_store_clausesBefore, .int f0_store_levelCount])), (q0_store_equationsBefore, .inl (cI, n0_store_equationsBefore, .inl h0_store_equationsBefore)), (q0_store_clausesBefore, .inl (cI, n0_store_clausesBefore, .inl h0_store_clausesBefore))] r0.1 [(q0, .inr (7, [v0_n, v0_variables, .ref q0_store, v0_tape, v0_base, v0_blamed, v0_gateList, v0_taking, v0_search, v0_rowsFresh, v0_gatesFresh, v0_latestFault, v0_latestNodes, v0_latestModel])), (q0_store, .inr (4, [v0_store_equations, v0_store_yes, v0_store_no, .int f0_store_equationCount, .int f0_store_clauseCount, .ref q0_store_equationsBefore, .ref q0_store_clausesBefore, .int r0.2.1])), (q0_store_equationsBefore, .inl (cI, n0_store_equationsBefore, .inl r0.2.2.1)), (q0_store_clausesBefore, .inl (cI, n0_store_clausesBefore, .inl r0.2.2.2))] sz) (XCW D [(q0, .inr (7, [v0_n, v0_variables, .ref q0_store, v0_tape, v0_base, v0_blamed, v0_gateList, v0_taking, v0_search, v0_rowsFresh, v0_gatesFresh, v0_latestFault, v0_latestNodes, v0_latestModel])), (q0_store, .inr (4, [v0_store_equations, v0_store_yes, v0_store_no, .int f0_store_equationCount, .int f0_store_clauseCount, .ref q0_store_equationsBefore, .ref q0_store_clausesBefore, .int f0_store_levelCount])), (q0_store_equationsBefore, .inl (cI, n0_store_equationsBefore, .inl h0_store_equationsBefore)), (q0_store_clausesBefore, .inl (cI, n0_store_clausesBefore, .inl h0_store_clausesBefore))] r0.1 [(q0, .inr (7, [v0_n, v0_variables, .ref q0_store, v0_tape, v0_base, v0_blamed, v0_gateList, v0_taking, v0_search, v0_rowsFresh, v0_gatesFresh, v0_latestFault, v0_latestNodes, v0_latestModel])), (q0_store, .inr (4, [v0_store_equations, v0_store_yes, v0_store_no, .int f0_store_equationCount, .int f0_store_clauseCount, .ref q0_store_equationsBefore, .ref q0_store_clausesBefore, .int r0.2.1])), (q0_store_equationsBefore, .inl (cI, n0_store_equationsBefore, .inl r0.2.2.1)), (q0_store_clausesBefore, .inl (cI, n0_store_clausesBefore, .inl r0.2.2.2))] sz) 1 6 (va_A [(q0, .inr (7, [v0_n, v0_variables, .ref q0_store, v0_tape, v0_base, v0_blamed, v0_gateList, v0_taking, v0_search, v0_rowsFresh, v0_gatesFresh, v0_latestFault, v0_latestNodes, v0_latestModel])), (q0_store, .inr (4, [v0_store_equations, v0_store_yes, v0_store_no, .int f0_store_equationCount, .int f0_store_clauseCount, .ref q0_store_equationsBefore, .ref q0_store_clausesBefore, .int f0_store_levelCount])), (q0_store_equationsBefore, .inl (cI, n0_store_equationsBefore, .inl h0_store_equationsBefore)), (q0_store_clausesBefore, .inl (cI, n0_store_clausesBefore, .inl h0_store_clausesBefore))] sz) := by
  refine vx_ofW (cc := cX7_push) (maxL := 1) (ret := (some .int)) (by decide) rfl ?_
  intro p e s m args below meth c s₁ B hml hnt hv
  obtain ⟨hargs, hsz, hP, hEV, hD0, hX⟩ := hv
  have hx := B.exec
  have hb := B.bytes
  have hr := B.returns
  have hts := atoms_spec (ws := wsX7_push) B.pre
  have hown : s.vm.findClass RX7 = some m.cls := findClass_of_methodNamed B.named
  have hlocks := B.notSynchronized
  have hK := hEV.K
  have lk_0 := hts _ lk_0_X7_push
  have lk_1 := hts _ lk_1_X7_push
  have lk_2 := hts _ lk_2_X7_push
  have lk_3 := hts _ lk_3_X7_push
  subst hsz
  unfold QiX PoW
  have hD := hD0.self (sz := s.heap.size)
  generalize hAe : va_A [(q0, .inr (7, [v0_n, v0_variables, .ref q0_store, v0_tape, v0_base, v0_blamed, v0_gateList, v0_taking, v0_search, v0_rowsFresh, v0_gatesFresh, v0_latestFault, v0_latestNodes, v0_latestModel])), (q0_store, .inr (4, [v0_store_equations, v0_store_yes, v0_store_no, .int f0_store_equationCount, .int f0_store_clauseCount, .ref q0_store_equationsBefore, .ref q0_store_clausesBefore, .int f0_store_levelCount])), (q0_store_equationsBefore, .inl (cI, n0_store_equationsBefore, .inl h0_store_equationsBefore)), (q0_store_clausesBefore, .inl (cI, n0_store_clausesBefore, .inl h0_store_clausesBefore))] s.heap.size = A at hD hX ⊢
  have hA : ∀ q : Nat, s.heap.size ≤ q → A q := fun q h => by rw [← hAe]; exact Or.inr h
  have hent : entryFrame m args 1 = entryFrame m ([.ref q0] : List Value).toArray 1 := by rw [hargs]
  rw [hent]
  refine kx_Q (fun Q hQ => ?_)
  refine kx_H (fun H hH => ?_)
  have hP : va_P D vwCl [(q0, .inr (7, [v0_n, v0_variables, .ref q0_store, v0_tape, v0_base, v0_blamed, v0_gateList, v0_taking, v0_search, v0_rowsFresh, v0_gatesFresh, v0_latestFault, v0_latestNodes, v0_latestModel])), (q0_store, .inr (4, [v0_store_equations, v0_store_yes, v0_store_no, .int f0_store_equationCount, .int f0_store_clauseCount, .ref q0_store_equationsBefore, .ref q0_store_clausesBefore, .int f0_store_levelCount])), (q0_store_equationsBefore, .inl (cI, n0_store_equationsBefore, .inl h0_store_equationsBefore)), (q0_store_clausesBefore, .inl (cI, n0_store_clausesBefore, .inl h0_store_clausesBefore))] H := by rw [hH]; exact hP
  have hS : va_S A s.heap H [] := by rw [hH]; exact va_S.rf
  have hl := lv_entry ([.ref q0]) (n := 1) (Nat.le_of_ble_eq_true rfl)
  rw [lg_entry_eq]
  generalize (lg_sl ([.ref q0]) ++ List.replicate (1 - (lg_sl ([.ref q0])).length) Slot.unset).toArray = ls at hl ⊢
  have hl : lv_has ls 1 [(0, .ref q0)] := hl
  have h := hr0
  unfold D_X7_push at h
  refine lv_aload_n hx hb dX7_push_0 rfl (lv_at hl 0 rfl) ?_
  refine va_get (D := D) (ci := 7) (v := .ref q0_store) (C := RX7) (T := TX7) (N := 14) hx hb hts in_X7_push_X7 hown hK hP 0 rfl rfl 2 (by decide) lk_0 (fun _ h9 => h9) rfl dX7_push_1 ?_
  refine va_get (D := D) (ci := 4) (v := .int f0_store_levelCount) (C := RX4) (T := TX4) (N := 8) hx hb hts in_X7_push_X4 hown hK hP 1 rfl rfl 7 (by decide) lk_1 (fun _ h9 => h9) rfl dX7_push_4 ?_
  refine lv_bipush (v := (20 : Int32)) hx hb dX7_push_7 (by decide) ?_
  refine lv_icmp_lt (tgt := 22) hx hb dX7_push_9 (by decide) (fun c_1 => ?_) (fun c_1 => ?_)
  · have k_2 : f0_store_levelCount < (20 : Int32) := c_1
    have h := co_t k_2 h
    refine lv_aload_n hx hb dX7_push_22 rfl (lv_at hl 0 rfl) ?_
    refine va_get (D := D) (ci := 7) (v := .ref q0_store) (C := RX7) (T := TX7) (N := 14) hx hb hts in_X7_push_X7 hown hK hP 0 rfl rfl 2 (by decide) lk_0 (fun _ h9 => h9) rfl dX7_push_23 ?_
    obtain ⟨u_3, hu_4, h⟩ := co_b h
    refine kx_v (ws' := fun _ => [(q0, .inr (7, [v0_n, v0_variables, .ref q0_store, v0_tape, v0_base, v0_blamed, v0_gateList, v0_taking, v0_search, v0_rowsFresh, v0_gatesFresh, v0_latestFault, v0_latestNodes, v0_latestModel])), (q0_store, .inr (4, [v0_store_equations, v0_store_yes, v0_store_no, .int f0_store_equationCount, .int f0_store_clauseCount, .ref q0_store_equationsBefore, .ref q0_store_clausesBefore, .int u_3.1])), (q0_store_equationsBefore, .inl (cI, n0_store_equationsBefore, .inl u_3.2.1)), (q0_store_clausesBefore, .inl (cI, n0_store_clausesBefore, .inl u_3.2.2))]) hP hD hS hA [1, 2, 3] [0] [0, 1, 2, 3] rfl rfl (by decide) (by decide) (fun _ => rfl) (by decide) (va_runV (As := []) (rest := []) ⟨hx, hb, hml, hown, hts⟩ (cm_X4_addLevel l D cI cL (q0 := q0_store) (q0_equationsBefore := q0_store_equationsBefore) (q0_clausesBefore := q0_store_clausesBefore) (n0_equationsBefore := n0_store_equationsBefore) (n0_clausesBefore := n0_store_clausesBefore) (f0_equationCount := f0_store_equationCount) (f0_clauseCount := f0_store_clauseCount) (f0_levelCount := f0_store_levelCount) (h0_equationsBefore := h0_store_equationsBefore) (h0_clausesBefore := h0_store_clausesBefore) (v0_equations := v0_store_equations) (v0_yes := v0_store_yes) (v0_no := v0_store_no) (r0 := u_3) (hr0 := hu_4) (sz := H.size)) (cwV 0 hts gX7_push_X4_addLevel rfl rfl rfl (by decide +kernel) ⟨Nat.le_of_ble_eq_true rfl, Nat.le_of_ble_eq_true rfl⟩) (kx_preV hEV hP hD [1, 2, 3] rfl (by decide) (k0 := 1) (ci := 4) rfl rfl rfl) rfl rfl hl.1 rfl (lv_room (Nat.le_of_ble_eq_true rfl)) dX7_push_26 ⟨Nat.le_of_ble_eq_true rfl, Nat.le_of_ble_eq_true rfl⟩) (fun _ H locs _ hP hD hS => ?_)
    refine lv_aload_n hx hb dX7_push_29 rfl (lv_at hl 0 rfl) ?_
    refine va_get (D := D) (ci := 7) (v := .ref q0_store) (C := RX7) (T := TX7) (N := 14) hx hb hts in_X7_push_X7 hown hK hP 0 rfl rfl 2 (by decide) lk_0 (fun _ h9 => h9) rfl dX7_push_30 ?_
    refine va_get (D := D) (ci := 4) (v := .int u_3.1) (C := RX4) (T := TX4) (N := 8) hx hb hts in_X7_push_X4 hown hK hP 1 rfl rfl 7 (by decide) lk_1 (fun _ h9 => h9) rfl dX7_push_33 ?_
    have h := Option.some.inj h
    subst h
    subst hQ
    refine vx_ret ?_
    refine W.widen (k := 1) (n := 6) (by decide) (by decide) ?_
    exact W.iret (v := u_3.1) hx hb hr (fun t ht hW => ⟨⟨u_3.1, (), rfl, rfl, by rw [ht]; exact hP, hD⟩, hS.F ht⟩) hS.2.2 dX7_push_36
  · have k_2 : ¬ (f0_store_levelCount < (20 : Int32)) := c_1
    have h := co_f k_2 h
    have h := Option.some.inj h
    subst h
    subst hQ
    obtain ⟨sa9, hsa9⟩ := hX.2.2.2.2.2.2.2.2.2.2.2.2.2.2.2.2.1
    exact vx_throwS (cls := "java/lang/IllegalStateException") (names := ["java/lang/RuntimeException", "java/lang/Exception"]) hx hb hltr hown (by decide +kernel) (by decide +kernel) lk_2 lk_3 hsa9 (vx_hat (B := [.castable "java/lang/IllegalStateException" "java/lang/IllegalStateException", .declares dcR, .declares dcE, .declares dcT]) (fun w9 h9 => hts w9 (tw_X7_push_100 w9 h9)) thb_X7_100 (vx_c (va_Nw.use rfl hX.2.2.2.1) (vx_c (va_Nw.use rfl hX.2.2.2.2.2.2.2.1) (vx_c (va_Nw.use rfl hX.2.2.2.2.2.2.2.2.1) (vx_c (va_Nw.use rfl hX.2.2.2.2.2.2.2.2.2.1) vx_n))))) thg_X7_100 hX.1 hX.2.1 hS (hl.1.trans hml.symm) dX7_push_12 dX7_push_15 dX7_push_16 dX7_push_18 dX7_push_21 (fun x9 h9 => (hnt x9 h9).elim) (by decide) (Nat.le_of_ble_eq_true rfl) (by decide) (by decide) hlocks (ky_x (k := 1) hAe hP hD hS rfl rfl) hS.2.2 (by decide) (by decide)
theorem in_X7_pop_X4 : ∀ w ∈ wsX40, w ∈ wsX7_pop := by decide +kernel
theorem in_X7_pop_X7 : ∀ w ∈ wsX70, w ∈ wsX7_pop := by decide +kernel
theorem lk_0_X7_pop : Cond.classLink RX7 86 "java/lang/IllegalArgumentException" ∈ wsX7_pop := by decide +kernel
theorem lk_1_X7_pop : Cond.initialized "java/lang/IllegalArgumentException" ∈ wsX7_pop := by decide +kernel
theorem lk_2_X7_pop : Cond.fieldLink RX7 29 "ParityClauses" "store" "LParityClauses$Store;" ∈ wsX7_pop := by decide +kernel
theorem lk_3_X7_pop : Cond.fieldLink RX7 147 "ParityClauses$Store" "levelCount" "I" ∈ wsX7_pop := by decide +kernel
theorem lk_4_X7_pop : Cond.fieldLink RX7 93 "ParityClauses$Store" "equationCount" "I" ∈ wsX7_pop := by decide +kernel
theorem lk_5_X7_pop : Cond.fieldLink RX7 115 "ParityClauses$Store" "clauseCount" "I" ∈ wsX7_pop := by decide +kernel
theorem tw_X7_pop_90 : ∀ w ∈ (vx_atS RX7 90 "java/lang/IllegalArgumentException" ["java/lang/RuntimeException", "java/lang/Exception"]).filter goodWord, w ∈ wsX7_pop := by decide +kernel
abbrev rm_X7_pop : Room := { frames := 6, cells := 1, slots := 6, locals := 90 }
set_option maxHeartbeats 4000000 in
set_option maxRecDepth 100000 in
theorem cm_X7_pop (l : Launch) (hltr : l.stackTraces = false) (D : va_G) (cI cL : ClassId) (q0 q0_store q0_store_equationsBefore q0_store_clausesBefore : Nat) (n0_store_equationsBefore n0_store_clausesBefore : Nat) (f0_rowsFresh : Bool) (f0_gatesFresh : Bool) (f0_store_equationCount : Int32) (f0_store_clauseCount : Int32) (f0_store_levelCount : Int32) (h0_store_equationsBefore : Nat → Int32) (h0_store_clausesBefore : Nat → Int32) (v0_n v0_variables v0_tape v0_base v0_blamed v0_gateList v0_taking v0_search v0_latestFault v0_latestNodes v0_latestModel v0_store_equations v0_store_yes v0_store_no : Value) (x1 : Int32) (r0 : (Int32 ⊕ Nat) × Bool × Bool × Int32 × Int32 × Int32) (hr0 : D_X7_pop f0_rowsFresh f0_gatesFresh f0_store_equationCount f0_store_clauseCount f0_store_levelCount n0_store_equationsBefore h0_store_equationsBefore n0_store_clausesBefore h0_store_clausesBefore x1 = some r0) (sz : Nat) : vx_Met l yX7_pop wsX7_pop rm_X7_pop (PcX D cI cL [.ref q0, .int x1] [(q0, .inr (7, [v0_n, v0_variables, .ref q0_store, v0_tape, v0_base, v0_blamed, v0_gateList, v0_taking, v0_search, .int (bI f0_rowsFresh), .int (bI f0_gatesFresh), v0_latestFault, v0_latestNodes, v0_latestModel])), (q0_store, .inr (4, [v0_store_equations, v0_store_yes, v0_store_no, .int f0_store_equationCount, .int f0_store_clauseCount, .ref q0_store_equationsBefore, .ref q0_store_clausesBefore, .int f0_store_levelCount])), (q0_store_equationsBefore, .inl (cI, n0_store_equationsBefore, .inl h0_store_equationsBefore)), (q0_store_clausesBefore, .inl (cI, n0_store_clausesBefore, .inl h0_store_clausesBefore))] sz) (QiX D [(q0, .inr (7, [v0_n, v0_variables, .ref q0_store, v0_tape, v0_base, v0_blamed, v0_gateList, v0_taking, v0_search, .int (bI f0_rowsFresh), .int (bI f0_gatesFresh), v0_latestFault, v0_latestNodes, v0_latestModel])), (q0_store, .inr (4, [v0_store_equations, v0_store_yes, v0_store_no, .int f0_store_equationCount, .int f0_store_clauseCount, .ref q0_store_equationsBefore, .ref q0_store_clausesBefore, .int f0_store_levelCount])), (q0_store_equationsBefore, .inl (cI, n0_store_equationsBefore, .inl h0_store_equationsBefore)), (q0_store_clausesBefore, .inl (cI, n0_store_clausesBefore, .inl h0_store_clausesBefore))] r0.1 [(q0, .inr (7, [v0_n, v0_variables, .ref q0_store, v0_tape, v0_base, v0_blamed, v0_gateList, v0_taking, v0_search, .int (bI r0.2.1), .int (bI r0.2.2.1), v0_latestFault, v0_latestNodes, v0_latestModel])), (q0_store, .inr (4, [v0_store_equations, v0_store_yes, v0_store_no, .int r0.2.2.2.1, .int r0.2.2.2.2.1, .ref q0_store_equationsBefore, .ref q0_store_clausesBefore, .int r0.2.2.2.2.2])), (q0_store_equationsBefore, .inl (cI, n0_store_equationsBefore, .inl h0_store_equationsBefore)), (q0_store_clausesBefore, .inl (cI, n0_store_clausesBefore, .inl h0_store_clausesBefore))] sz) (XCW D [(q0, .inr (7, [v0_n, v0_variables, .ref q0_store, v0_tape, v0_base, v0_blamed, v0_gateList, v0_taking, v0_search, .int (bI f0_rowsFresh), .int (bI f0_gatesFresh), v0_latestFault, v0_latestNodes, v0_latestModel])), (q0_store, .inr (4, [v0_store_equations, v0_store_yes, v0_store_no, .int f0_store_equationCount, .int f0_store_clauseCount, .ref q0_store_equationsBefore, .ref q0_store_clausesBefore, .int f0_store_levelCount])), (q0_store_equationsBefore, .inl (cI, n0_store_equationsBefore, .inl h0_store_equationsBefore)), (q0_store_clausesBefore, .inl (cI, n0_store_clausesBefore, .inl h0_store_clausesBefore))] r0.1 [(q0, .inr (7, [v0_n, v0_variables, .ref q0_store, v0_tape, v0_base, v0_blamed, v0_gateList, v0_taking, v0_search, .int (bI r0.2.1), .int (bI r0.2.2.1), v0_latestFault, v0_latestNodes, v0_latestModel])), (q0_store, .inr (4, [v0_store_equations, v0_store_yes, v0_store_no, .int r0.2.2.2.1, .int r0.2.2.2.2.1, .ref q0_store_equationsBefore, .ref q0_store_clausesBefore, .int r0.2.2.2.2.2])), (q0_store_equationsBefore, .inl (cI, n0_store_equationsBefore, .inl h0_store_equationsBefore)), (q0_store_clausesBefore, .inl (cI, n0_store_clausesBefore, .inl h0_store_clausesBefore))] sz) 1 6 (va_A [(q0, .inr (7, [v0_n, v0_variables, .ref q0_store, v0_tape, v0_base, v0_blamed, v0_gateList, v0_taking, v0_search, .int (bI f0_rowsFresh), .int (bI f0_gatesFresh), v0_latestFault, v0_latestNodes, v0_latestModel])), (q0_store, .inr (4, [v0_store_equations, v0_store_yes, v0_store_no, .int f0_store_equationCount, .int f0_store_clauseCount, .ref q0_store_equationsBefore, .ref q0_store_clausesBefore, .int f0_store_levelCount])), (q0_store_equationsBefore, .inl (cI, n0_store_equationsBefore, .inl h0_store_equationsBefore)), (q0_store_clausesBefore, .inl (cI, n0_store_clausesBefore, .inl h0_store_clausesBefore))] sz) := by
  refine vx_ofW (cc := cX7_pop) (maxL := 2) (ret := (some .int)) (by decide) rfl ?_
  intro p e s m args below meth c s₁ B hml hnt hv
  obtain ⟨hargs, hsz, hP, hEV, hD0, hX⟩ := hv
  have hx := B.exec
  have hb := B.bytes
  have hr := B.returns
  have hts := atoms_spec (ws := wsX7_pop) B.pre
  have hown : s.vm.findClass RX7 = some m.cls := findClass_of_methodNamed B.named
  have hlocks := B.notSynchronized
  have hK := hEV.K
  have lk_0 := hts _ lk_0_X7_pop
  have lk_1 := hts _ lk_1_X7_pop
  have lk_2 := hts _ lk_2_X7_pop
  have lk_3 := hts _ lk_3_X7_pop
  have lk_4 := hts _ lk_4_X7_pop
  have lk_5 := hts _ lk_5_X7_pop
  subst hsz
  unfold QiX PoW
  have hD := hD0.self (sz := s.heap.size)
  generalize hAe : va_A [(q0, .inr (7, [v0_n, v0_variables, .ref q0_store, v0_tape, v0_base, v0_blamed, v0_gateList, v0_taking, v0_search, .int (bI f0_rowsFresh), .int (bI f0_gatesFresh), v0_latestFault, v0_latestNodes, v0_latestModel])), (q0_store, .inr (4, [v0_store_equations, v0_store_yes, v0_store_no, .int f0_store_equationCount, .int f0_store_clauseCount, .ref q0_store_equationsBefore, .ref q0_store_clausesBefore, .int f0_store_levelCount])), (q0_store_equationsBefore, .inl (cI, n0_store_equationsBefore, .inl h0_store_equationsBefore)), (q0_store_clausesBefore, .inl (cI, n0_store_clausesBefore, .inl h0_store_clausesBefore))] s.heap.size = A at hD hX ⊢
  have hA : ∀ q : Nat, s.heap.size ≤ q → A q := fun q h => by rw [← hAe]; exact Or.inr h
  have hent : entryFrame m args 2 = entryFrame m ([.ref q0, .int x1] : List Value).toArray 2 := by rw [hargs]
  rw [hent]
  refine kx_Q (fun Q hQ => ?_)
  refine kx_H (fun H hH => ?_)
  have hP : va_P D vwCl [(q0, .inr (7, [v0_n, v0_variables, .ref q0_store, v0_tape, v0_base, v0_blamed, v0_gateList, v0_taking, v0_search, .int (bI f0_rowsFresh), .int (bI f0_gatesFresh), v0_latestFault, v0_latestNodes, v0_latestModel])), (q0_store, .inr (4, [v0_store_equations, v0_store_yes, v0_store_no, .int f0_store_equationCount, .int f0_store_clauseCount, .ref q0_store_equationsBefore, .ref q0_store_clausesBefore, .int f0_store_levelCount])), (q0_store_equationsBefore, .inl (cI, n0_store_equationsBefore, .inl h0_store_equationsBefore)), (q0_store_clausesBefore, .inl (cI, n0_store_clausesBefore, .inl h0_store_clausesBefore))] H := by rw [hH]; exact hP
  have hS : va_S A s.heap H [] := by rw [hH]; exact va_S.rf
  have hl := lv_entry ([.ref q0, .int x1]) (n := 2) (Nat.le_of_ble_eq_true rfl)
  rw [lg_entry_eq]
  generalize (lg_sl ([.ref q0, .int x1]) ++ List.replicate (2 - (lg_sl ([.ref q0, .int x1])).length) Slot.unset).toArray = ls at hl ⊢
  have hl : lv_has ls 2 [(0, .ref q0), (1, .int x1)] := hl
  have h := hr0
  unfold D_X7_pop at h
  refine lv_iload_n hx hb dX7_pop_0 rfl (lv_at hl 1 rfl) ?_
  refine lv_if_lt (tgt := 15) hx hb dX7_pop_1 (by decide) (fun c_1 => ?_) (fun c_1 => ?_)
  · have k_2 : x1 < 0 := c_1
    have h := co_t k_2 h
    have h := Option.some.inj h
    subst h
    subst hQ
    obtain ⟨sa9, hsa9⟩ := hX.2.2.2.2.2.2.2.2.2.2.2.2.2.2.2.2.2.1
    exact vx_throwS (cls := "java/lang/IllegalArgumentException") (names := ["java/lang/RuntimeException", "java/lang/Exception"]) hx hb hltr hown (by decide +kernel) (by decide +kernel) lk_0 lk_1 hsa9 (vx_hat (B := [.castable "java/lang/IllegalArgumentException" "java/lang/IllegalArgumentException", .declares dcR, .declares dcE, .declares dcT]) (fun w9 h9 => hts w9 (tw_X7_pop_90 w9 h9)) thb_X7_90 (vx_c (va_Nw.use rfl hX.2.2.1) (vx_c (va_Nw.use rfl hX.2.2.2.2.2.2.2.1) (vx_c (va_Nw.use rfl hX.2.2.2.2.2.2.2.2.1) (vx_c (va_Nw.use rfl hX.2.2.2.2.2.2.2.2.2.1) vx_n))))) thg_X7_90 hX.1 hX.2.1 hS (hl.1.trans hml.symm) dX7_pop_15 dX7_pop_18 dX7_pop_19 dX7_pop_21 dX7_pop_24 (fun x9 h9 => (hnt x9 h9).elim) (by decide) (Nat.le_of_ble_eq_true rfl) (by decide) (by decide) hlocks (ky_x (k := 0) hAe hP hD hS rfl rfl) hS.2.2 (by decide) (by decide)
  · have k_2 : ¬ (x1 < 0) := c_1
    have h := co_f k_2 h
    refine lv_iload_n hx hb dX7_pop_4 rfl (lv_at hl 1 rfl) ?_
    refine lv_aload_n hx hb dX7_pop_5 rfl (lv_at hl 0 rfl) ?_
    refine va_get (D := D) (ci := 7) (v := .ref q0_store) (C := RX7) (T := TX7) (N := 14) hx hb hts in_X7_pop_X7 hown hK hP 0 rfl rfl 2 (by decide) lk_2 (fun _ h9 => h9) rfl dX7_pop_6 ?_
    refine va_get (D := D) (ci := 4) (v := .int f0_store_levelCount) (C := RX4) (T := TX4) (N := 8) hx hb hts in_X7_pop_X4 hown hK hP 1 rfl rfl 7 (by decide) lk_3 (fun _ h9 => h9) rfl dX7_pop_9 ?_
    refine lv_icmp_le (tgt := 25) hx hb dX7_pop_12 (by decide) (fun c_3 => ?_) (fun c_3 => ?_)
    · have k_4 : x1 ≤ f0_store_levelCount := c_3
      have h := co_t k_4 h
      refine lv_aload_n hx hb dX7_pop_25 rfl (lv_at hl 0 rfl) ?_
      refine va_get (D := D) (ci := 7) (v := .ref q0_store) (C := RX7) (T := TX7) (N := 14) hx hb hts in_X7_pop_X7 hown hK hP 0 rfl rfl 2 (by decide) lk_2 (fun _ h9 => h9) rfl dX7_pop_26 ?_
      refine lv_aload_n hx hb dX7_pop_29 rfl (lv_at hl 0 rfl) ?_
      refine va_get (D := D) (ci := 7) (v := .ref q0_store) (C := RX7) (T := TX7) (N := 14) hx hb hts in_X7_pop_X7 hown hK hP 0 rfl rfl 2 (by decide) lk_2 (fun _ h9 => h9) rfl dX7_pop_30 ?_
      refine va_get (D := D) (ci := 4) (v := .int f0_store_levelCount) (C := RX4) (T := TX4) (N := 8) hx hb hts in_X7_pop_X4 hown hK hP 1 rfl rfl 7 (by decide) lk_3 (fun _ h9 => h9) rfl dX7_pop_33 ?_
      refine lv_iload_n hx hb dX7_pop_36 rfl (lv_at hl 1 rfl) ?_
      refine lv_isub hx hb dX7_pop_37 ?_
      obtain ⟨u_5, hu_6, h⟩ := co_b h
      refine kx_v (ws' := fun _ => [(q0, .inr (7, [v0_n, v0_variables, .ref q0_store, v0_tape, v0_base, v0_blamed, v0_gateList, v0_taking, v0_search, .int (bI f0_rowsFresh), .int (bI f0_gatesFresh), v0_latestFault, v0_latestNodes, v0_latestModel])), (q0_store, .inr (4, [v0_store_equations, v0_store_yes, v0_store_no, .int u_5.1, .int u_5.2.1, .ref q0_store_equationsBefore, .ref q0_store_clausesBefore, .int u_5.2.2])), (q0_store_equationsBefore, .inl (cI, n0_store_equationsBefore, .inl h0_store_equationsBefore)), (q0_store_clausesBefore, .inl (cI, n0_store_clausesBefore, .inl h0_store_clausesBefore))]) hP hD hS hA [1, 2, 3] [0] [0, 1, 2, 3] rfl rfl (by decide) (by decide) (fun _ => rfl) (by decide) (va_runV (As := [.int (f0_store_levelCount - x1)]) (rest := []) ⟨hx, hb, hml, hown, hts⟩ (cm_X4_takeBackTo l D cI cL (q0 := q0_store) (q0_equationsBefore := q0_store_equationsBefore) (q0_clausesBefore := q0_store_clausesBefore) (n0_equationsBefore := n0_store_equationsBefore) (n0_clausesBefore := n0_store_clausesBefore) (f0_equationCount := f0_store_equationCount) (f0_clauseCount := f0_store_clauseCount) (f0_levelCount := f0_store_levelCount) (h0_equationsBefore := h0_store_equationsBefore) (h0_clausesBefore := h0_store_clausesBefore) (v0_equations := v0_store_equations) (v0_yes := v0_store_yes) (v0_no := v0_store_no) (x1 := f0_store_levelCount - x1) (r0 := u_5) (hr0 := hu_6) (sz := H.size)) (cwV 1 hts gX7_pop_X4_takeBackTo rfl rfl rfl (by decide +kernel) ⟨Nat.le_of_ble_eq_true rfl, Nat.le_of_ble_eq_true rfl⟩) (kx_preV hEV hP hD [1, 2, 3] rfl (by decide) (k0 := 1) (ci := 4) rfl rfl rfl) rfl rfl hl.1 rfl (lv_room (Nat.le_of_ble_eq_true rfl)) dX7_pop_38 ⟨Nat.le_of_ble_eq_true rfl, Nat.le_of_ble_eq_true rfl⟩) (fun _ H locs _ hP hD hS => ?_)
      refine lv_aload_n hx hb dX7_pop_41 rfl (lv_at hl 0 rfl) ?_
      obtain ⟨u_7, hu_8, h⟩ := co_b h
      refine kx_v (ws' := fun _ => [(q0, .inr (7, [v0_n, v0_variables, .ref q0_store, v0_tape, v0_base, v0_blamed, v0_gateList, v0_taking, v0_search, .int (bI u_7.1), .int (bI u_7.2), v0_latestFault, v0_latestNodes, v0_latestModel])), (q0_store, .inr (4, [v0_store_equations, v0_store_yes, v0_store_no, .int u_5.1, .int u_5.2.1, .ref q0_store_equationsBefore, .ref q0_store_clausesBefore, .int u_5.2.2])), (q0_store_equationsBefore, .inl (cI, n0_store_equationsBefore, .inl h0_store_equationsBefore)), (q0_store_clausesBefore, .inl (cI, n0_store_clausesBefore, .inl h0_store_clausesBefore))]) hP hD hS hA [0] [1, 2, 3] [3, 0, 1, 2] rfl rfl (by decide) (by decide) (fun _ => rfl) (by decide) (va_runV (As := []) (rest := []) ⟨hx, hb, hml, hown, hts⟩ (cm_X7_forget l D cI cL (q0 := q0) (f0_rowsFresh := f0_rowsFresh) (f0_gatesFresh := f0_gatesFresh) (v0_n := v0_n) (v0_variables := v0_variables) (v0_store := .ref q0_store) (v0_tape := v0_tape) (v0_base := v0_base) (v0_blamed := v0_blamed) (v0_gateList := v0_gateList) (v0_taking := v0_taking) (v0_search := v0_search) (v0_latestFault := v0_latestFault) (v0_latestNodes := v0_latestNodes) (v0_latestModel := v0_latestModel) (r0 := u_7) (hr0 := hu_8) (sz := H.size)) (cwV 0 hts gX7_pop_X7_forget rfl rfl rfl (by decide +kernel) ⟨Nat.le_of_ble_eq_true rfl, Nat.le_of_ble_eq_true rfl⟩) (kx_preV hEV hP hD [0] rfl (by decide) (k0 := 0) (ci := 7) rfl rfl rfl) rfl rfl hl.1 rfl (lv_room (Nat.le_of_ble_eq_true rfl)) dX7_pop_42 ⟨Nat.le_of_ble_eq_true rfl, Nat.le_of_ble_eq_true rfl⟩) (fun _ H locs _ hP hD hS => ?_)
      refine lv_aload_n hx hb dX7_pop_45 rfl (lv_at hl 0 rfl) ?_
      refine va_get (D := D) (ci := 7) (v := .ref q0_store) (C := RX7) (T := TX7) (N := 14) hx hb hts in_X7_pop_X7 hown hK hP 0 rfl rfl 2 (by decide) lk_2 (fun _ h9 => h9) rfl dX7_pop_46 ?_
      refine va_get (D := D) (ci := 4) (v := .int u_5.1) (C := RX4) (T := TX4) (N := 8) hx hb hts in_X7_pop_X4 hown hK hP 1 rfl rfl 3 (by decide) lk_4 (fun _ h9 => h9) rfl dX7_pop_49 ?_
      refine lv_aload_n hx hb dX7_pop_52 rfl (lv_at hl 0 rfl) ?_
      refine va_get (D := D) (ci := 7) (v := .ref q0_store) (C := RX7) (T := TX7) (N := 14) hx hb hts in_X7_pop_X7 hown hK hP 0 rfl rfl 2 (by decide) lk_2 (fun _ h9 => h9) rfl dX7_pop_53 ?_
      refine va_get (D := D) (ci := 4) (v := .int u_5.2.1) (C := RX4) (T := TX4) (N := 8) hx hb hts in_X7_pop_X4 hown hK hP 1 rfl rfl 4 (by decide) lk_5 (fun _ h9 => h9) rfl dX7_pop_56 ?_
      refine lv_iadd hx hb dX7_pop_59 ?_
      have h := Option.some.inj h
      subst h
      subst hQ
      refine vx_ret ?_
      refine W.widen (k := 1) (n := 6) (by decide) (by decide) ?_
      exact W.iret (v := u_5.1 + u_5.2.1) hx hb hr (fun t ht hW => ⟨⟨u_5.1 + u_5.2.1, (), rfl, rfl, by rw [ht]; exact hP, hD⟩, hS.F ht⟩) hS.2.2 dX7_pop_60
    · have k_4 : ¬ (x1 ≤ f0_store_levelCount) := c_3
      have h := co_f k_4 h
      have h := Option.some.inj h
      subst h
      subst hQ
      obtain ⟨sa9, hsa9⟩ := hX.2.2.2.2.2.2.2.2.2.2.2.2.2.2.2.2.2.1
      exact vx_throwS (cls := "java/lang/IllegalArgumentException") (names := ["java/lang/RuntimeException", "java/lang/Exception"]) hx hb hltr hown (by decide +kernel) (by decide +kernel) lk_0 lk_1 hsa9 (vx_hat (B := [.castable "java/lang/IllegalArgumentException" "java/lang/IllegalArgumentException", .declares dcR, .declares dcE, .declares dcT]) (fun w9 h9 => hts w9 (tw_X7_pop_90 w9 h9)) thb_X7_90 (vx_c (va_Nw.use rfl hX.2.2.1) (vx_c (va_Nw.use rfl hX.2.2.2.2.2.2.2.1) (vx_c (va_Nw.use rfl hX.2.2.2.2.2.2.2.2.1) (vx_c (va_Nw.use rfl hX.2.2.2.2.2.2.2.2.2.1) vx_n))))) thg_X7_90 hX.1 hX.2.1 hS (hl.1.trans hml.symm) dX7_pop_15 dX7_pop_18 dX7_pop_19 dX7_pop_21 dX7_pop_24 (fun x9 h9 => (hnt x9 h9).elim) (by decide) (Nat.le_of_ble_eq_true rfl) (by decide) (by decide) hlocks (ky_x (k := 0) hAe hP hD hS rfl rfl) hS.2.2 (by decide) (by decide)
theorem in_X7_told_X4 : ∀ w ∈ wsX40, w ∈ wsX7_told := by decide +kernel
theorem in_X7_told_X7 : ∀ w ∈ wsX70, w ∈ wsX7_told := by decide +kernel
theorem lk_0_X7_told : Cond.classLink RX7 86 "java/lang/IllegalArgumentException" ∈ wsX7_told := by decide +kernel
theorem lk_1_X7_told : Cond.initialized "java/lang/IllegalArgumentException" ∈ wsX7_told := by decide +kernel
theorem lk_2_X7_told : Cond.classLink RX7 162 "java/lang/IndexOutOfBoundsException" ∈ wsX7_told := by decide +kernel
theorem lk_3_X7_told : Cond.initialized "java/lang/IndexOutOfBoundsException" ∈ wsX7_told := by decide +kernel
theorem lk_4_X7_told : Cond.fieldLink RX7 29 "ParityClauses" "store" "LParityClauses$Store;" ∈ wsX7_told := by decide +kernel
theorem lk_5_X7_told : Cond.fieldLink RX7 115 "ParityClauses$Store" "clauseCount" "I" ∈ wsX7_told := by decide +kernel
theorem lk_6_X7_told : Cond.fieldLink RX7 167 "ParityClauses$Store" "equations" "[J" ∈ wsX7_told := by decide +kernel
theorem lk_7_X7_told : Cond.constantLong RX7 171 (-4611686018427387905) ∈ wsX7_told := by decide +kernel
theorem lk_8_X7_told : Cond.constantLong RX7 104 (4611686018427387904) ∈ wsX7_told := by decide +kernel
theorem lk_9_X7_told : Cond.fieldLink RX7 173 "ParityClauses$Store" "yes" "[J" ∈ wsX7_told := by decide +kernel
theorem lk_10_X7_told : Cond.fieldLink RX7 176 "ParityClauses$Store" "no" "[J" ∈ wsX7_told := by decide +kernel
theorem lk_11_X7_told : Cond.fieldLink RX7 93 "ParityClauses$Store" "equationCount" "I" ∈ wsX7_told := by decide +kernel
theorem tw_X7_told_90 : ∀ w ∈ (vx_atS RX7 90 "java/lang/IllegalArgumentException" ["java/lang/RuntimeException", "java/lang/Exception"]).filter goodWord, w ∈ wsX7_told := by decide +kernel
theorem tw_X7_told_166 : ∀ w ∈ (vx_atS RX7 166 "java/lang/IndexOutOfBoundsException" ["java/lang/RuntimeException", "java/lang/Exception"]).filter goodWord, w ∈ wsX7_told := by decide +kernel
abbrev rm_X7_told : Room := { frames := 6, cells := 1, slots := 6, locals := 90 }
set_option maxHeartbeats 4000000 in
set_option maxRecDepth 100000 in
theorem cm_X7_told (l : Launch) (hltr : l.stackTraces = false) (D : va_G) (cI cL : ClassId) (q0 q0_store q0_store_equations q0_store_yes q0_store_no : Nat) (n0_store_equations n0_store_yes n0_store_no : Nat) (f0_store_equationCount : Int32) (f0_store_clauseCount : Int32) (h0_store_equations : Nat → Int64) (h0_store_yes : Nat → Int64) (h0_store_no : Nat → Int64) (v0_n v0_variables v0_tape v0_base v0_blamed v0_gateList v0_taking v0_search v0_rowsFresh v0_gatesFresh v0_latestFault v0_latestNodes v0_latestModel v0_store_equationsBefore v0_store_clausesBefore v0_store_levelCount : Value) (x1 : Int32) (x2 : Int32) (r0 : (Int64 ⊕ Nat)) (hr0 : D_X7_told f0_store_equationCount f0_store_clauseCount n0_store_equations h0_store_equations n0_store_yes h0_store_yes n0_store_no h0_store_no x1 x2 = some r0) (sz : Nat) : vx_Met l yX7_told wsX7_told rm_X7_told (PcX D cI cL [.ref q0, .int x1, .int x2] [(q0, .inr (7, [v0_n, v0_variables, .ref q0_store, v0_tape, v0_base, v0_blamed, v0_gateList, v0_taking, v0_search, v0_rowsFresh, v0_gatesFresh, v0_latestFault, v0_latestNodes, v0_latestModel])), (q0_store, .inr (4, [.ref q0_store_equations, .ref q0_store_yes, .ref q0_store_no, .int f0_store_equationCount, .int f0_store_clauseCount, v0_store_equationsBefore, v0_store_clausesBefore, v0_store_levelCount])), (q0_store_equations, .inl (cL, n0_store_equations, .inr (.inl h0_store_equations))), (q0_store_yes, .inl (cL, n0_store_yes, .inr (.inl h0_store_yes))), (q0_store_no, .inl (cL, n0_store_no, .inr (.inl h0_store_no)))] sz) (QlX D [(q0, .inr (7, [v0_n, v0_variables, .ref q0_store, v0_tape, v0_base, v0_blamed, v0_gateList, v0_taking, v0_search, v0_rowsFresh, v0_gatesFresh, v0_latestFault, v0_latestNodes, v0_latestModel])), (q0_store, .inr (4, [.ref q0_store_equations, .ref q0_store_yes, .ref q0_store_no, .int f0_store_equationCount, .int f0_store_clauseCount, v0_store_equationsBefore, v0_store_clausesBefore, v0_store_levelCount])), (q0_store_equations, .inl (cL, n0_store_equations, .inr (.inl h0_store_equations))), (q0_store_yes, .inl (cL, n0_store_yes, .inr (.inl h0_store_yes))), (q0_store_no, .inl (cL, n0_store_no, .inr (.inl h0_store_no)))] r0 [(q0, .inr (7, [v0_n, v0_variables, .ref q0_store, v0_tape, v0_base, v0_blamed, v0_gateList, v0_taking, v0_search, v0_rowsFresh, v0_gatesFresh, v0_latestFault, v0_latestNodes, v0_latestModel])), (q0_store, .inr (4, [.ref q0_store_equations, .ref q0_store_yes, .ref q0_store_no, .int f0_store_equationCount, .int f0_store_clauseCount, v0_store_equationsBefore, v0_store_clausesBefore, v0_store_levelCount])), (q0_store_equations, .inl (cL, n0_store_equations, .inr (.inl h0_store_equations))), (q0_store_yes, .inl (cL, n0_store_yes, .inr (.inl h0_store_yes))), (q0_store_no, .inl (cL, n0_store_no, .inr (.inl h0_store_no)))] sz) (XCW D [(q0, .inr (7, [v0_n, v0_variables, .ref q0_store, v0_tape, v0_base, v0_blamed, v0_gateList, v0_taking, v0_search, v0_rowsFresh, v0_gatesFresh, v0_latestFault, v0_latestNodes, v0_latestModel])), (q0_store, .inr (4, [.ref q0_store_equations, .ref q0_store_yes, .ref q0_store_no, .int f0_store_equationCount, .int f0_store_clauseCount, v0_store_equationsBefore, v0_store_clausesBefore, v0_store_levelCount])), (q0_store_equations, .inl (cL, n0_store_equations, .inr (.inl h0_store_equations))), (q0_store_yes, .inl (cL, n0_store_yes, .inr (.inl h0_store_yes))), (q0_store_no, .inl (cL, n0_store_no, .inr (.inl h0_store_no)))] r0 [(q0, .inr (7, [v0_n, v0_variables, .ref q0_store, v0_tape, v0_base, v0_blamed, v0_gateList, v0_taking, v0_search, v0_rowsFresh, v0_gatesFresh, v0_latestFault, v0_latestNodes, v0_latestModel])), (q0_store, .inr (4, [.ref q0_store_equations, .ref q0_store_yes, .ref q0_store_no, .int f0_store_equationCount, .int f0_store_clauseCount, v0_store_equationsBefore, v0_store_clausesBefore, v0_store_levelCount])), (q0_store_equations, .inl (cL, n0_store_equations, .inr (.inl h0_store_equations))), (q0_store_yes, .inl (cL, n0_store_yes, .inr (.inl h0_store_yes))), (q0_store_no, .inl (cL, n0_store_no, .inr (.inl h0_store_no)))] sz) 1 6 (va_A [(q0, .inr (7, [v0_n, v0_variables, .ref q0_store, v0_tape, v0_base, v0_blamed, v0_gateList, v0_taking, v0_search, v0_rowsFresh, v0_gatesFresh, v0_latestFault, v0_latestNodes, v0_latestModel])), (q0_store, .inr (4, [.ref q0_store_equations, .ref q0_store_yes, .ref q0_store_no, .int f0_store_equationCount, .int f0_store_clauseCount, v0_store_equationsBefore, v0_store_clausesBefore, v0_store_levelCount])), (q0_store_equations, .inl (cL, n0_store_equations, .inr (.inl h0_store_equations))), (q0_store_yes, .inl (cL, n0_store_yes, .inr (.inl h0_store_yes))), (q0_store_no, .inl (cL, n0_store_no, .inr (.inl h0_store_no)))] sz) := by
  refine vx_ofW (cc := cX7_told) (maxL := 3) (ret := (some .long)) (by decide) rfl ?_
  intro p e s m args below meth c s₁ B hml hnt hv
  obtain ⟨hargs, hsz, hP, hEV, hD0, hX⟩ := hv
  have hx := B.exec
  have hb := B.bytes
  have hr := B.returns
  have hts := atoms_spec (ws := wsX7_told) B.pre
  have hown : s.vm.findClass RX7 = some m.cls := findClass_of_methodNamed B.named
  have hlocks := B.notSynchronized
  have hK := hEV.K
  have lk_0 := hts _ lk_0_X7_told
  have lk_1 := hts _ lk_1_X7_told
  have lk_2 := hts _ lk_2_X7_told
  have lk_3 := hts _ lk_3_X7_told
  have lk_4 := hts _ lk_4_X7_told
  have lk_5 := hts _ lk_5_X7_told
  have lk_6 := hts _ lk_6_X7_told
  have lk_7 := hts _ lk_7_X7_told
  have lk_8 := hts _ lk_8_X7_told
  have lk_9 := hts _ lk_9_X7_told
  have lk_10 := hts _ lk_10_X7_told
  have lk_11 := hts _ lk_11_X7_told
  subst hsz
  unfold QlX PoW
  have hD := hD0.self (sz := s.heap.size)
  generalize hAe : va_A [(q0, .inr (7, [v0_n, v0_variables, .ref q0_store, v0_tape, v0_base, v0_blamed, v0_gateList, v0_taking, v0_search, v0_rowsFresh, v0_gatesFresh, v0_latestFault, v0_latestNodes, v0_latestModel])), (q0_store, .inr (4, [.ref q0_store_equations, .ref q0_store_yes, .ref q0_store_no, .int f0_store_equationCount, .int f0_store_clauseCount, v0_store_equationsBefore, v0_store_clausesBefore, v0_store_levelCount])), (q0_store_equations, .inl (cL, n0_store_equations, .inr (.inl h0_store_equations))), (q0_store_yes, .inl (cL, n0_store_yes, .inr (.inl h0_store_yes))), (q0_store_no, .inl (cL, n0_store_no, .inr (.inl h0_store_no)))] s.heap.size = A at hD hX ⊢
  have hA : ∀ q : Nat, s.heap.size ≤ q → A q := fun q h => by rw [← hAe]; exact Or.inr h
  have hent : entryFrame m args 3 = entryFrame m ([.ref q0, .int x1, .int x2] : List Value).toArray 3 := by rw [hargs]
  rw [hent]
  refine kx_Q (fun Q hQ => ?_)
  refine kx_H (fun H hH => ?_)
  have hP : va_P D vwCl [(q0, .inr (7, [v0_n, v0_variables, .ref q0_store, v0_tape, v0_base, v0_blamed, v0_gateList, v0_taking, v0_search, v0_rowsFresh, v0_gatesFresh, v0_latestFault, v0_latestNodes, v0_latestModel])), (q0_store, .inr (4, [.ref q0_store_equations, .ref q0_store_yes, .ref q0_store_no, .int f0_store_equationCount, .int f0_store_clauseCount, v0_store_equationsBefore, v0_store_clausesBefore, v0_store_levelCount])), (q0_store_equations, .inl (cL, n0_store_equations, .inr (.inl h0_store_equations))), (q0_store_yes, .inl (cL, n0_store_yes, .inr (.inl h0_store_yes))), (q0_store_no, .inl (cL, n0_store_no, .inr (.inl h0_store_no)))] H := by rw [hH]; exact hP
  have hS : va_S A s.heap H [] := by rw [hH]; exact va_S.rf
  have hl := lv_entry ([.ref q0, .int x1, .int x2]) (n := 3) (Nat.le_of_ble_eq_true rfl)
  rw [lg_entry_eq]
  generalize (lg_sl ([.ref q0, .int x1, .int x2]) ++ List.replicate (3 - (lg_sl ([.ref q0, .int x1, .int x2])).length) Slot.unset).toArray = ls at hl ⊢
  have hl : lv_has ls 3 [(0, .ref q0), (1, .int x1), (2, .int x2)] := hl
  have h := hr0
  unfold D_X7_told at h
  refine lv_iload_n hx hb dX7_told_0 rfl (lv_at hl 2 rfl) ?_
  refine lv_if_lt (tgt := 9) hx hb dX7_told_1 (by decide) (fun c_1 => ?_) (fun c_1 => ?_)
  · have k_2 : x2 < 0 := c_1
    have h := co_t k_2 h
    have h := Option.some.inj h
    subst h
    subst hQ
    obtain ⟨sa9, hsa9⟩ := hX.2.2.2.2.2.2.2.2.2.2.2.2.2.2.2.2.2.2.1
    exact vx_throwS (cls := "java/lang/IllegalArgumentException") (names := ["java/lang/RuntimeException", "java/lang/Exception"]) hx hb hltr hown (by decide +kernel) (by decide +kernel) lk_0 lk_1 hsa9 (vx_hat (B := [.castable "java/lang/IllegalArgumentException" "java/lang/IllegalArgumentException", .declares dcR, .declares dcE, .declares dcT]) (fun w9 h9 => hts w9 (tw_X7_told_90 w9 h9)) thb_X7_90 (vx_c (va_Nw.use rfl hX.2.2.1) (vx_c (va_Nw.use rfl hX.2.2.2.2.2.2.2.1) (vx_c (va_Nw.use rfl hX.2.2.2.2.2.2.2.2.1) (vx_c (va_Nw.use rfl hX.2.2.2.2.2.2.2.2.2.1) vx_n))))) thg_X7_90 hX.1 hX.2.1 hS (hl.1.trans hml.symm) dX7_told_9 dX7_told_12 dX7_told_13 dX7_told_15 dX7_told_18 (fun x9 h9 => (hnt x9 h9).elim) (by decide) (Nat.le_of_ble_eq_true rfl) (by decide) (by decide) hlocks (ky_x (k := 0) hAe hP hD hS rfl rfl) hS.2.2 (by decide) (by decide)
  · have k_2 : ¬ (x2 < 0) := c_1
    have h := co_f k_2 h
    refine lv_iload_n hx hb dX7_told_4 rfl (lv_at hl 2 rfl) ?_
    refine lv_iconst (v := (3 : Int32)) hx hb dX7_told_5 (by decide) ?_
    refine lv_icmp_le (tgt := 19) hx hb dX7_told_6 (by decide) (fun c_3 => ?_) (fun c_3 => ?_)
    · have k_4 : x2 ≤ (3 : Int32) := c_3
      have h := co_t k_4 h
      refine lv_iload_n hx hb dX7_told_19 rfl (lv_at hl 1 rfl) ?_
      refine lv_if_lt (tgt := 49) hx hb dX7_told_20 (by decide) (fun c_5 => ?_) (fun c_5 => ?_)
      · have k_6 : x1 < 0 := c_5
        have h := co_t k_6 h
        have h := Option.some.inj h
        subst h
        subst hQ
        obtain ⟨sa9, hsa9⟩ := hX.2.2.2.2.2.2.2.2.2.2.2.2.2.2.2.2.2.2.2.1
        exact vx_throwS (cls := "java/lang/IndexOutOfBoundsException") (names := ["java/lang/RuntimeException", "java/lang/Exception"]) hx hb hltr hown (by decide +kernel) (by decide +kernel) lk_2 lk_3 hsa9 (vx_hat (B := [.castable "java/lang/IndexOutOfBoundsException" "java/lang/IndexOutOfBoundsException", .declares dcR, .declares dcE, .declares dcT]) (fun w9 h9 => hts w9 (tw_X7_told_166 w9 h9)) thb_X7_166 (vx_c (va_Nw.use rfl hX.2.2.2.2.1) (vx_c (va_Nw.use rfl hX.2.2.2.2.2.2.2.1) (vx_c (va_Nw.use rfl hX.2.2.2.2.2.2.2.2.1) (vx_c (va_Nw.use rfl hX.2.2.2.2.2.2.2.2.2.1) vx_n))))) thg_X7_166 hX.1 hX.2.1 hS (hl.1.trans hml.symm) dX7_told_49 dX7_told_52 dX7_told_53 dX7_told_55 dX7_told_58 (fun x9 h9 => (hnt x9 h9).elim) (by decide) (Nat.le_of_ble_eq_true rfl) (by decide) (by decide) hlocks (ky_x (k := 2) hAe hP hD hS rfl rfl) hS.2.2 (by decide) (by decide)
      · have k_6 : ¬ (x1 < 0) := c_5
        have h := co_f k_6 h
        refine lv_iload_n hx hb dX7_told_23 rfl (lv_at hl 1 rfl) ?_
        refine lv_iload_n hx hb dX7_told_24 rfl (lv_at hl 2 rfl) ?_
        refine lv_iconst (v := (2 : Int32)) hx hb dX7_told_25 (by decide) ?_
        refine lv_icmp_ge (tgt := 39) hx hb dX7_told_26 (by decide) (fun c_7 => ?_) (fun c_7 => ?_)
        · have k_8 : (2 : Int32) ≤ x2 := c_7
          have h := co_t k_8 h
          refine lv_aload_n hx hb dX7_told_39 rfl (lv_at hl 0 rfl) ?_
          refine va_get (D := D) (ci := 7) (v := .ref q0_store) (C := RX7) (T := TX7) (N := 14) hx hb hts in_X7_told_X7 hown hK hP 0 rfl rfl 2 (by decide) lk_4 (fun _ h9 => h9) rfl dX7_told_40 ?_
          refine va_get (D := D) (ci := 4) (v := .int f0_store_clauseCount) (C := RX4) (T := TX4) (N := 8) hx hb hts in_X7_told_X4 hown hK hP 1 rfl rfl 4 (by decide) lk_5 (fun _ h9 => h9) rfl dX7_told_43 ?_
          refine lv_icmp_lt (tgt := 59) hx hb dX7_told_46 (by decide) (fun c_9 => ?_) (fun c_9 => ?_)
          · have k_10 : x1 < f0_store_clauseCount := c_9
            have h := co_t k_10 h
            refine lv_iload_n hx hb dX7_told_59 rfl (lv_at hl 2 rfl) ?_
            by_cases c_11 : x2.toInt = (0 : Int)
            · have h := co_t c_11 h
              refine lv_tableIn (tgt := 88) (off := 28) hx hb dX7_told_60 (by rw [c_11]; decide) (by rw [c_11]; decide) (by rw [c_11]; rfl) (by decide) ?_
              refine lv_aload_n hx hb dX7_told_88 rfl (lv_at hl 0 rfl) ?_
              refine va_get (D := D) (ci := 7) (v := .ref q0_store) (C := RX7) (T := TX7) (N := 14) hx hb hts in_X7_told_X7 hown hK hP 0 rfl rfl 2 (by decide) lk_4 (fun _ h9 => h9) rfl dX7_told_89 ?_
              refine va_get (D := D) (ci := 4) (v := .ref q0_store_equations) (C := RX4) (T := TX4) (N := 8) hx hb hts in_X7_told_X4 hown hK hP 1 rfl rfl 0 (by decide) lk_6 (fun _ h9 => h9) rfl dX7_told_92 ?_
              refine lv_iload_n hx hb dX7_told_95 rfl (lv_at hl 1 rfl) ?_
              obtain ⟨b_12, h⟩ := co_i h
              refine va_lald hx hb hK hP 2 1 rfl rfl b_12 dX7_told_96 ?_
              refine lv_ldc2 hx hb hown lk_7 dX7_told_97 ?_
              refine lv_land hx hb dX7_told_100 ?_
              have h := Option.some.inj h
              subst h
              subst hQ
              refine vx_ret ?_
              refine W.widen (k := 1) (n := 6) (by decide) (by decide) ?_
              exact W.lret (v := (h0_store_equations x1.toNatClampNeg) &&& (-4611686018427387905 : Int64)) hx hb hr (fun t ht hW => ⟨⟨(h0_store_equations x1.toNatClampNeg) &&& (-4611686018427387905 : Int64), (), rfl, rfl, by rw [ht]; exact hP, hD⟩, hS.F ht⟩) hS.2.2 dX7_told_101
            · have h := co_f c_11 h
              by_cases c_13 : x2.toInt = (1 : Int)
              · have h := co_t c_13 h
                refine lv_tableIn (tgt := 102) (off := 42) hx hb dX7_told_60 (by rw [c_13]; decide) (by rw [c_13]; decide) (by rw [c_13]; rfl) (by decide) ?_
                refine lv_aload_n hx hb dX7_told_102 rfl (lv_at hl 0 rfl) ?_
                refine va_get (D := D) (ci := 7) (v := .ref q0_store) (C := RX7) (T := TX7) (N := 14) hx hb hts in_X7_told_X7 hown hK hP 0 rfl rfl 2 (by decide) lk_4 (fun _ h9 => h9) rfl dX7_told_103 ?_
                refine va_get (D := D) (ci := 4) (v := .ref q0_store_equations) (C := RX4) (T := TX4) (N := 8) hx hb hts in_X7_told_X4 hown hK hP 1 rfl rfl 0 (by decide) lk_6 (fun _ h9 => h9) rfl dX7_told_106 ?_
                refine lv_iload_n hx hb dX7_told_109 rfl (lv_at hl 1 rfl) ?_
                obtain ⟨b_14, h⟩ := co_i h
                refine va_lald hx hb hK hP 2 1 rfl rfl b_14 dX7_told_110 ?_
                refine lv_ldc2 hx hb hown lk_8 dX7_told_111 ?_
                refine lv_land hx hb dX7_told_114 ?_
                refine lv_lconst (v := (0 : Int64)) hx hb dX7_told_115 (by decide) ?_
                refine W.lcmp hx hb dX7_told_116 ?_
                refine lv_if_eq (tgt := 124) hx hb dX7_told_117 (by decide) (fun c_15 => ?_) (fun c_15 => ?_)
                · have k_16 : ((h0_store_equations x1.toNatClampNeg) &&& (4611686018427387904 : Int64)) = (0 : Int64) := ((lg_cmp_eq _ _).mp c_15)
                  have h := co_t k_16 h
                  refine lv_lconst (v := (0 : Int64)) hx hb dX7_told_124 (by decide) ?_
                  have h := Option.some.inj h
                  subst h
                  subst hQ
                  refine vx_ret ?_
                  refine W.widen (k := 1) (n := 6) (by decide) (by decide) ?_
                  exact W.lret (v := (0 : Int64)) hx hb hr (fun t ht hW => ⟨⟨(0 : Int64), (), rfl, rfl, by rw [ht]; exact hP, hD⟩, hS.F ht⟩) hS.2.2 dX7_told_125
                · have k_16 : ¬ (((h0_store_equations x1.toNatClampNeg) &&& (4611686018427387904 : Int64)) = (0 : Int64)) := (fun z9 => c_15 ((lg_cmp_eq _ _).mpr z9))
                  have h := co_f k_16 h
                  refine lv_lconst (v := (1 : Int64)) hx hb dX7_told_120 (by decide) ?_
                  refine lv_goto (tgt := 125) hx hb dX7_told_121 (by decide) ?_
                  have h := Option.some.inj h
                  subst h
                  subst hQ
                  refine vx_ret ?_
                  refine W.widen (k := 1) (n := 6) (by decide) (by decide) ?_
                  exact W.lret (v := (1 : Int64)) hx hb hr (fun t ht hW => ⟨⟨(1 : Int64), (), rfl, rfl, by rw [ht]; exact hP, hD⟩, hS.F ht⟩) hS.2.2 dX7_told_125
              · have h := co_f c_13 h
                by_cases c_17 : x2.toInt = (2 : Int)
                · have h := co_t c_17 h
                  refine lv_tableIn (tgt := 126) (off := 66) hx hb dX7_told_60 (by rw [c_17]; decide) (by rw [c_17]; decide) (by rw [c_17]; rfl) (by decide) ?_
                  refine lv_aload_n hx hb dX7_told_126 rfl (lv_at hl 0 rfl) ?_
                  refine va_get (D := D) (ci := 7) (v := .ref q0_store) (C := RX7) (T := TX7) (N := 14) hx hb hts in_X7_told_X7 hown hK hP 0 rfl rfl 2 (by decide) lk_4 (fun _ h9 => h9) rfl dX7_told_127 ?_
                  refine va_get (D := D) (ci := 4) (v := .ref q0_store_yes) (C := RX4) (T := TX4) (N := 8) hx hb hts in_X7_told_X4 hown hK hP 1 rfl rfl 1 (by decide) lk_9 (fun _ h9 => h9) rfl dX7_told_130 ?_
                  refine lv_iload_n hx hb dX7_told_133 rfl (lv_at hl 1 rfl) ?_
                  obtain ⟨b_18, h⟩ := co_i h
                  refine va_lald hx hb hK hP 3 1 rfl rfl b_18 dX7_told_134 ?_
                  have h := Option.some.inj h
                  subst h
                  subst hQ
                  refine vx_ret ?_
                  refine W.widen (k := 1) (n := 6) (by decide) (by decide) ?_
                  exact W.lret (v := h0_store_yes x1.toNatClampNeg) hx hb hr (fun t ht hW => ⟨⟨h0_store_yes x1.toNatClampNeg, (), rfl, rfl, by rw [ht]; exact hP, hD⟩, hS.F ht⟩) hS.2.2 dX7_told_135
                · have h := co_f c_17 h
                  refine lv_tableOut (tgt := 136) hx hb dX7_told_60 (by omega) (by decide) ?_
                  refine lv_aload_n hx hb dX7_told_136 rfl (lv_at hl 0 rfl) ?_
                  refine va_get (D := D) (ci := 7) (v := .ref q0_store) (C := RX7) (T := TX7) (N := 14) hx hb hts in_X7_told_X7 hown hK hP 0 rfl rfl 2 (by decide) lk_4 (fun _ h9 => h9) rfl dX7_told_137 ?_
                  refine va_get (D := D) (ci := 4) (v := .ref q0_store_no) (C := RX4) (T := TX4) (N := 8) hx hb hts in_X7_told_X4 hown hK hP 1 rfl rfl 2 (by decide) lk_10 (fun _ h9 => h9) rfl dX7_told_140 ?_
                  refine lv_iload_n hx hb dX7_told_143 rfl (lv_at hl 1 rfl) ?_
                  obtain ⟨b_19, h⟩ := co_i h
                  refine va_lald hx hb hK hP 4 1 rfl rfl b_19 dX7_told_144 ?_
                  have h := Option.some.inj h
                  subst h
                  subst hQ
                  refine vx_ret ?_
                  refine W.widen (k := 1) (n := 6) (by decide) (by decide) ?_
                  exact W.lret (v := h0_store_no x1.toNatClampNeg) hx hb hr (fun t ht hW => ⟨⟨h0_store_no x1.toNatClampNeg, (), rfl, rfl, by rw [ht]; exact hP, hD⟩, hS.F ht⟩) hS.2.2 dX7_told_145
          · have k_10 : ¬ (x1 < f0_store_clauseCount) := c_9
            have h := co_f k_10 h
            have h := Option.some.inj h
            subst h
            subst hQ
            obtain ⟨sa9, hsa9⟩ := hX.2.2.2.2.2.2.2.2.2.2.2.2.2.2.2.2.2.2.2.1
            exact vx_throwS (cls := "java/lang/IndexOutOfBoundsException") (names := ["java/lang/RuntimeException", "java/lang/Exception"]) hx hb hltr hown (by decide +kernel) (by decide +kernel) lk_2 lk_3 hsa9 (vx_hat (B := [.castable "java/lang/IndexOutOfBoundsException" "java/lang/IndexOutOfBoundsException", .declares dcR, .declares dcE, .declares dcT]) (fun w9 h9 => hts w9 (tw_X7_told_166 w9 h9)) thb_X7_166 (vx_c (va_Nw.use rfl hX.2.2.2.2.1) (vx_c (va_Nw.use rfl hX.2.2.2.2.2.2.2.1) (vx_c (va_Nw.use rfl hX.2.2.2.2.2.2.2.2.1) (vx_c (va_Nw.use rfl hX.2.2.2.2.2.2.2.2.2.1) vx_n))))) thg_X7_166 hX.1 hX.2.1 hS (hl.1.trans hml.symm) dX7_told_49 dX7_told_52 dX7_told_53 dX7_told_55 dX7_told_58 (fun x9 h9 => (hnt x9 h9).elim) (by decide) (Nat.le_of_ble_eq_true rfl) (by decide) (by decide) hlocks (ky_x (k := 2) hAe hP hD hS rfl rfl) hS.2.2 (by decide) (by decide)
        · have k_8 : ¬ ((2 : Int32) ≤ x2) := c_7
          have h := co_f k_8 h
          refine lv_aload_n hx hb dX7_told_29 rfl (lv_at hl 0 rfl) ?_
          refine va_get (D := D) (ci := 7) (v := .ref q0_store) (C := RX7) (T := TX7) (N := 14) hx hb hts in_X7_told_X7 hown hK hP 0 rfl rfl 2 (by decide) lk_4 (fun _ h9 => h9) rfl dX7_told_30 ?_
          refine va_get (D := D) (ci := 4) (v := .int f0_store_equationCount) (C := RX4) (T := TX4) (N := 8) hx hb hts in_X7_told_X4 hown hK hP 1 rfl rfl 3 (by decide) lk_11 (fun _ h9 => h9) rfl dX7_told_33 ?_
          refine lv_goto (tgt := 46) hx hb dX7_told_36 (by decide) ?_
          refine lv_icmp_lt (tgt := 59) hx hb dX7_told_46 (by decide) (fun c_20 => ?_) (fun c_20 => ?_)
          · have k_21 : x1 < f0_store_equationCount := c_20
            have h := co_t k_21 h
            refine lv_iload_n hx hb dX7_told_59 rfl (lv_at hl 2 rfl) ?_
            by_cases c_22 : x2.toInt = (0 : Int)
            · have h := co_t c_22 h
              refine lv_tableIn (tgt := 88) (off := 28) hx hb dX7_told_60 (by rw [c_22]; decide) (by rw [c_22]; decide) (by rw [c_22]; rfl) (by decide) ?_
              refine lv_aload_n hx hb dX7_told_88 rfl (lv_at hl 0 rfl) ?_
              refine va_get (D := D) (ci := 7) (v := .ref q0_store) (C := RX7) (T := TX7) (N := 14) hx hb hts in_X7_told_X7 hown hK hP 0 rfl rfl 2 (by decide) lk_4 (fun _ h9 => h9) rfl dX7_told_89 ?_
              refine va_get (D := D) (ci := 4) (v := .ref q0_store_equations) (C := RX4) (T := TX4) (N := 8) hx hb hts in_X7_told_X4 hown hK hP 1 rfl rfl 0 (by decide) lk_6 (fun _ h9 => h9) rfl dX7_told_92 ?_
              refine lv_iload_n hx hb dX7_told_95 rfl (lv_at hl 1 rfl) ?_
              obtain ⟨b_23, h⟩ := co_i h
              refine va_lald hx hb hK hP 2 1 rfl rfl b_23 dX7_told_96 ?_
              refine lv_ldc2 hx hb hown lk_7 dX7_told_97 ?_
              refine lv_land hx hb dX7_told_100 ?_
              have h := Option.some.inj h
              subst h
              subst hQ
              refine vx_ret ?_
              refine W.widen (k := 1) (n := 6) (by decide) (by decide) ?_
              exact W.lret (v := (h0_store_equations x1.toNatClampNeg) &&& (-4611686018427387905 : Int64)) hx hb hr (fun t ht hW => ⟨⟨(h0_store_equations x1.toNatClampNeg) &&& (-4611686018427387905 : Int64), (), rfl, rfl, by rw [ht]; exact hP, hD⟩, hS.F ht⟩) hS.2.2 dX7_told_101
            · have h := co_f c_22 h
              by_cases c_24 : x2.toInt = (1 : Int)
              · have h := co_t c_24 h
                refine lv_tableIn (tgt := 102) (off := 42) hx hb dX7_told_60 (by rw [c_24]; decide) (by rw [c_24]; decide) (by rw [c_24]; rfl) (by decide) ?_
                refine lv_aload_n hx hb dX7_told_102 rfl (lv_at hl 0 rfl) ?_
                refine va_get (D := D) (ci := 7) (v := .ref q0_store) (C := RX7) (T := TX7) (N := 14) hx hb hts in_X7_told_X7 hown hK hP 0 rfl rfl 2 (by decide) lk_4 (fun _ h9 => h9) rfl dX7_told_103 ?_
                refine va_get (D := D) (ci := 4) (v := .ref q0_store_equations) (C := RX4) (T := TX4) (N := 8) hx hb hts in_X7_told_X4 hown hK hP 1 rfl rfl 0 (by decide) lk_6 (fun _ h9 => h9) rfl dX7_told_106 ?_
                refine lv_iload_n hx hb dX7_told_109 rfl (lv_at hl 1 rfl) ?_
                obtain ⟨b_25, h⟩ := co_i h
                refine va_lald hx hb hK hP 2 1 rfl rfl b_25 dX7_told_110 ?_
                refine lv_ldc2 hx hb hown lk_8 dX7_told_111 ?_
                refine lv_land hx hb dX7_told_114 ?_
                refine lv_lconst (v := (0 : Int64)) hx hb dX7_told_115 (by decide) ?_
                refine W.lcmp hx hb dX7_told_116 ?_
                refine lv_if_eq (tgt := 124) hx hb dX7_told_117 (by decide) (fun c_26 => ?_) (fun c_26 => ?_)
                · have k_27 : ((h0_store_equations x1.toNatClampNeg) &&& (4611686018427387904 : Int64)) = (0 : Int64) := ((lg_cmp_eq _ _).mp c_26)
                  have h := co_t k_27 h
                  refine lv_lconst (v := (0 : Int64)) hx hb dX7_told_124 (by decide) ?_
                  have h := Option.some.inj h
                  subst h
                  subst hQ
                  refine vx_ret ?_
                  refine W.widen (k := 1) (n := 6) (by decide) (by decide) ?_
                  exact W.lret (v := (0 : Int64)) hx hb hr (fun t ht hW => ⟨⟨(0 : Int64), (), rfl, rfl, by rw [ht]; exact hP, hD⟩, hS.F ht⟩) hS.2.2 dX7_told_125
                · have k_27 : ¬ (((h0_store_equations x1.toNatClampNeg) &&& (4611686018427387904 : Int64)) = (0 : Int64)) := (fun z9 => c_26 ((lg_cmp_eq _ _).mpr z9))
                  have h := co_f k_27 h
                  refine lv_lconst (v := (1 : Int64)) hx hb dX7_told_120 (by decide) ?_
                  refine lv_goto (tgt := 125) hx hb dX7_told_121 (by decide) ?_
                  have h := Option.some.inj h
                  subst h
                  subst hQ
                  refine vx_ret ?_
                  refine W.widen (k := 1) (n := 6) (by decide) (by decide) ?_
                  exact W.lret (v := (1 : Int64)) hx hb hr (fun t ht hW => ⟨⟨(1 : Int64), (), rfl, rfl, by rw [ht]; exact hP, hD⟩, hS.F ht⟩) hS.2.2 dX7_told_125
              · have h := co_f c_24 h
                by_cases c_28 : x2.toInt = (2 : Int)
                · have h := co_t c_28 h
                  refine lv_tableIn (tgt := 126) (off := 66) hx hb dX7_told_60 (by rw [c_28]; decide) (by rw [c_28]; decide) (by rw [c_28]; rfl) (by decide) ?_
                  refine lv_aload_n hx hb dX7_told_126 rfl (lv_at hl 0 rfl) ?_
                  refine va_get (D := D) (ci := 7) (v := .ref q0_store) (C := RX7) (T := TX7) (N := 14) hx hb hts in_X7_told_X7 hown hK hP 0 rfl rfl 2 (by decide) lk_4 (fun _ h9 => h9) rfl dX7_told_127 ?_
                  refine va_get (D := D) (ci := 4) (v := .ref q0_store_yes) (C := RX4) (T := TX4) (N := 8) hx hb hts in_X7_told_X4 hown hK hP 1 rfl rfl 1 (by decide) lk_9 (fun _ h9 => h9) rfl dX7_told_130 ?_
                  refine lv_iload_n hx hb dX7_told_133 rfl (lv_at hl 1 rfl) ?_
                  obtain ⟨b_29, h⟩ := co_i h
                  refine va_lald hx hb hK hP 3 1 rfl rfl b_29 dX7_told_134 ?_
                  have h := Option.some.inj h
                  subst h
                  subst hQ
                  refine vx_ret ?_
                  refine W.widen (k := 1) (n := 6) (by decide) (by decide) ?_
                  exact W.lret (v := h0_store_yes x1.toNatClampNeg) hx hb hr (fun t ht hW => ⟨⟨h0_store_yes x1.toNatClampNeg, (), rfl, rfl, by rw [ht]; exact hP, hD⟩, hS.F ht⟩) hS.2.2 dX7_told_135
                · have h := co_f c_28 h
                  refine lv_tableOut (tgt := 136) hx hb dX7_told_60 (by omega) (by decide) ?_
                  refine lv_aload_n hx hb dX7_told_136 rfl (lv_at hl 0 rfl) ?_
                  refine va_get (D := D) (ci := 7) (v := .ref q0_store) (C := RX7) (T := TX7) (N := 14) hx hb hts in_X7_told_X7 hown hK hP 0 rfl rfl 2 (by decide) lk_4 (fun _ h9 => h9) rfl dX7_told_137 ?_
                  refine va_get (D := D) (ci := 4) (v := .ref q0_store_no) (C := RX4) (T := TX4) (N := 8) hx hb hts in_X7_told_X4 hown hK hP 1 rfl rfl 2 (by decide) lk_10 (fun _ h9 => h9) rfl dX7_told_140 ?_
                  refine lv_iload_n hx hb dX7_told_143 rfl (lv_at hl 1 rfl) ?_
                  obtain ⟨b_30, h⟩ := co_i h
                  refine va_lald hx hb hK hP 4 1 rfl rfl b_30 dX7_told_144 ?_
                  have h := Option.some.inj h
                  subst h
                  subst hQ
                  refine vx_ret ?_
                  refine W.widen (k := 1) (n := 6) (by decide) (by decide) ?_
                  exact W.lret (v := h0_store_no x1.toNatClampNeg) hx hb hr (fun t ht hW => ⟨⟨h0_store_no x1.toNatClampNeg, (), rfl, rfl, by rw [ht]; exact hP, hD⟩, hS.F ht⟩) hS.2.2 dX7_told_145
          · have k_21 : ¬ (x1 < f0_store_equationCount) := c_20
            have h := co_f k_21 h
            have h := Option.some.inj h
            subst h
            subst hQ
            obtain ⟨sa9, hsa9⟩ := hX.2.2.2.2.2.2.2.2.2.2.2.2.2.2.2.2.2.2.2.1
            exact vx_throwS (cls := "java/lang/IndexOutOfBoundsException") (names := ["java/lang/RuntimeException", "java/lang/Exception"]) hx hb hltr hown (by decide +kernel) (by decide +kernel) lk_2 lk_3 hsa9 (vx_hat (B := [.castable "java/lang/IndexOutOfBoundsException" "java/lang/IndexOutOfBoundsException", .declares dcR, .declares dcE, .declares dcT]) (fun w9 h9 => hts w9 (tw_X7_told_166 w9 h9)) thb_X7_166 (vx_c (va_Nw.use rfl hX.2.2.2.2.1) (vx_c (va_Nw.use rfl hX.2.2.2.2.2.2.2.1) (vx_c (va_Nw.use rfl hX.2.2.2.2.2.2.2.2.1) (vx_c (va_Nw.use rfl hX.2.2.2.2.2.2.2.2.2.1) vx_n))))) thg_X7_166 hX.1 hX.2.1 hS (hl.1.trans hml.symm) dX7_told_49 dX7_told_52 dX7_told_53 dX7_told_55 dX7_told_58 (fun x9 h9 => (hnt x9 h9).elim) (by decide) (Nat.le_of_ble_eq_true rfl) (by decide) (by decide) hlocks (ky_x (k := 2) hAe hP hD hS rfl rfl) hS.2.2 (by decide) (by decide)
    · have k_4 : ¬ (x2 ≤ (3 : Int32)) := c_3
      have h := co_f k_4 h
      have h := Option.some.inj h
      subst h
      subst hQ
      obtain ⟨sa9, hsa9⟩ := hX.2.2.2.2.2.2.2.2.2.2.2.2.2.2.2.2.2.2.1
      exact vx_throwS (cls := "java/lang/IllegalArgumentException") (names := ["java/lang/RuntimeException", "java/lang/Exception"]) hx hb hltr hown (by decide +kernel) (by decide +kernel) lk_0 lk_1 hsa9 (vx_hat (B := [.castable "java/lang/IllegalArgumentException" "java/lang/IllegalArgumentException", .declares dcR, .declares dcE, .declares dcT]) (fun w9 h9 => hts w9 (tw_X7_told_90 w9 h9)) thb_X7_90 (vx_c (va_Nw.use rfl hX.2.2.1) (vx_c (va_Nw.use rfl hX.2.2.2.2.2.2.2.1) (vx_c (va_Nw.use rfl hX.2.2.2.2.2.2.2.2.1) (vx_c (va_Nw.use rfl hX.2.2.2.2.2.2.2.2.2.1) vx_n))))) thg_X7_90 hX.1 hX.2.1 hS (hl.1.trans hml.symm) dX7_told_9 dX7_told_12 dX7_told_13 dX7_told_15 dX7_told_18 (fun x9 h9 => (hnt x9 h9).elim) (by decide) (Nat.le_of_ble_eq_true rfl) (by decide) (by decide) hlocks (ky_x (k := 0) hAe hP hD hS rfl rfl) hS.2.2 (by decide) (by decide)
