theorem in_X7_blame_X2 : ∀ w ∈ wsX20, w ∈ wsX7_blame := by decide +kernel
theorem in_X7_blame_X7 : ∀ w ∈ wsX70, w ∈ wsX7_blame := by decide +kernel
theorem lk_0_X7_blame : Cond.fieldLink RX7 45 "ParityClauses" "base" "LParityClauses$Rows;" ∈ wsX7_blame := by decide +kernel
theorem lk_1_X7_blame : Cond.fieldLink RX7 182 "ParityClauses$Rows" "impossible" "Z" ∈ wsX7_blame := by decide +kernel
theorem lk_2_X7_blame : Cond.fieldLink RX7 52 "ParityClauses" "blamed" "LParityClauses$Blame;" ∈ wsX7_blame := by decide +kernel
theorem lk_3_X7_blame : Cond.fieldLink RX7 29 "ParityClauses" "store" "LParityClauses$Store;" ∈ wsX7_blame := by decide +kernel
abbrev rm_X7_blame : Room := { frames := 4, cells := 0, slots := 0, locals := 89 }
set_option maxHeartbeats 4000000 in
set_option maxRecDepth 100000 in
theorem cm_X7_blame (l : Launch) (D : va_G) (cI cL : ClassId) (q0 q0_store q0_store_equations q0_base q0_base_byHead q0_blamed q0_blamed_byHead q0_blamed_madeOf : Nat) (n0_store_equations n0_base_byHead n0_blamed_byHead n0_blamed_madeOf : Nat) (f0_rowsFresh : Bool) (f0_store_equationCount : Int32) (h0_store_equations : Nat → Int64) (f0_base_n : Int32) (f0_base_impossible : Bool) (h0_base_byHead : Nat → Int64) (f0_blamed_n : Int32) (h0_blamed_byHead : Nat → Int64) (h0_blamed_madeOf : Nat → Int64) (v0_n v0_variables v0_tape v0_gateList v0_taking v0_search v0_gatesFresh v0_latestFault v0_latestNodes v0_latestModel v0_store_yes v0_store_no v0_store_clauseCount v0_store_equationsBefore v0_store_clausesBefore v0_store_levelCount : Value) (r0 : Int64 × Bool × Bool × (Nat → Int64) × (Nat → Int64) × (Nat → Int64)) (hr0 : D_X7_blame f0_rowsFresh f0_store_equationCount n0_store_equations h0_store_equations f0_base_n f0_base_impossible n0_base_byHead h0_base_byHead f0_blamed_n n0_blamed_byHead h0_blamed_byHead n0_blamed_madeOf h0_blamed_madeOf = some r0) (sz : Nat) : Met l yX7_blame wsX7_blame rm_X7_blame (PcW D cI cL [.ref q0] [(q0, .inr (7, [v0_n, v0_variables, .ref q0_store, v0_tape, .ref q0_base, .ref q0_blamed, v0_gateList, v0_taking, v0_search, .int (bI f0_rowsFresh), v0_gatesFresh, v0_latestFault, v0_latestNodes, v0_latestModel])), (q0_store, .inr (4, [.ref q0_store_equations, v0_store_yes, v0_store_no, .int f0_store_equationCount, v0_store_clauseCount, v0_store_equationsBefore, v0_store_clausesBefore, v0_store_levelCount])), (q0_store_equations, .inl (cL, n0_store_equations, .inr (.inl h0_store_equations))), (q0_base, .inr (2, [.int f0_base_n, .ref q0_base_byHead, .int (bI f0_base_impossible)])), (q0_base_byHead, .inl (cL, n0_base_byHead, .inr (.inl h0_base_byHead))), (q0_blamed, .inr (0, [.int f0_blamed_n, .ref q0_blamed_byHead, .ref q0_blamed_madeOf])), (q0_blamed_byHead, .inl (cL, n0_blamed_byHead, .inr (.inl h0_blamed_byHead))), (q0_blamed_madeOf, .inl (cL, n0_blamed_madeOf, .inr (.inl h0_blamed_madeOf)))] sz) (QlW D [(q0, .inr (7, [v0_n, v0_variables, .ref q0_store, v0_tape, .ref q0_base, .ref q0_blamed, v0_gateList, v0_taking, v0_search, .int (bI f0_rowsFresh), v0_gatesFresh, v0_latestFault, v0_latestNodes, v0_latestModel])), (q0_store, .inr (4, [.ref q0_store_equations, v0_store_yes, v0_store_no, .int f0_store_equationCount, v0_store_clauseCount, v0_store_equationsBefore, v0_store_clausesBefore, v0_store_levelCount])), (q0_store_equations, .inl (cL, n0_store_equations, .inr (.inl h0_store_equations))), (q0_base, .inr (2, [.int f0_base_n, .ref q0_base_byHead, .int (bI f0_base_impossible)])), (q0_base_byHead, .inl (cL, n0_base_byHead, .inr (.inl h0_base_byHead))), (q0_blamed, .inr (0, [.int f0_blamed_n, .ref q0_blamed_byHead, .ref q0_blamed_madeOf])), (q0_blamed_byHead, .inl (cL, n0_blamed_byHead, .inr (.inl h0_blamed_byHead))), (q0_blamed_madeOf, .inl (cL, n0_blamed_madeOf, .inr (.inl h0_blamed_madeOf)))] r0.1 (fun _ : Unit => [(q0, .inr (7, [v0_n, v0_variables, .ref q0_store, v0_tape, .ref q0_base, .ref q0_blamed, v0_gateList, v0_taking, v0_search, .int (bI r0.2.1), v0_gatesFresh, v0_latestFault, v0_latestNodes, v0_latestModel])), (q0_store, .inr (4, [.ref q0_store_equations, v0_store_yes, v0_store_no, .int f0_store_equationCount, v0_store_clauseCount, v0_store_equationsBefore, v0_store_clausesBefore, v0_store_levelCount])), (q0_store_equations, .inl (cL, n0_store_equations, .inr (.inl h0_store_equations))), (q0_base, .inr (2, [.int f0_base_n, .ref q0_base_byHead, .int (bI r0.2.2.1)])), (q0_base_byHead, .inl (cL, n0_base_byHead, .inr (.inl r0.2.2.2.1))), (q0_blamed, .inr (0, [.int f0_blamed_n, .ref q0_blamed_byHead, .ref q0_blamed_madeOf])), (q0_blamed_byHead, .inl (cL, n0_blamed_byHead, .inr (.inl r0.2.2.2.2.1))), (q0_blamed_madeOf, .inl (cL, n0_blamed_madeOf, .inr (.inl r0.2.2.2.2.2)))]) tU sz) 0 0 (va_A [(q0, .inr (7, [v0_n, v0_variables, .ref q0_store, v0_tape, .ref q0_base, .ref q0_blamed, v0_gateList, v0_taking, v0_search, .int (bI f0_rowsFresh), v0_gatesFresh, v0_latestFault, v0_latestNodes, v0_latestModel])), (q0_store, .inr (4, [.ref q0_store_equations, v0_store_yes, v0_store_no, .int f0_store_equationCount, v0_store_clauseCount, v0_store_equationsBefore, v0_store_clausesBefore, v0_store_levelCount])), (q0_store_equations, .inl (cL, n0_store_equations, .inr (.inl h0_store_equations))), (q0_base, .inr (2, [.int f0_base_n, .ref q0_base_byHead, .int (bI f0_base_impossible)])), (q0_base_byHead, .inl (cL, n0_base_byHead, .inr (.inl h0_base_byHead))), (q0_blamed, .inr (0, [.int f0_blamed_n, .ref q0_blamed_byHead, .ref q0_blamed_madeOf])), (q0_blamed_byHead, .inl (cL, n0_blamed_byHead, .inr (.inl h0_blamed_byHead))), (q0_blamed_madeOf, .inl (cL, n0_blamed_madeOf, .inr (.inl h0_blamed_madeOf)))] sz) := by
  refine Met.ofW (cc := cX7_blame) (maxL := 1) (ret := (some .long)) (by decide) rfl ?_
  intro p e s m args below meth c s₁ B hml hv
  obtain ⟨hargs, hsz, hP, hEV, hD0⟩ := hv
  have hx := B.exec
  have hb := B.bytes
  have hr := B.returns
  have hts := atoms_spec (ws := wsX7_blame) B.pre
  have hown : s.vm.findClass RX7 = some m.cls := findClass_of_methodNamed B.named
  have hlocks := B.notSynchronized
  have hK := hEV.K
  have lk_0 := hts _ lk_0_X7_blame
  have lk_1 := hts _ lk_1_X7_blame
  have lk_2 := hts _ lk_2_X7_blame
  have lk_3 := hts _ lk_3_X7_blame
  subst hsz
  unfold QlW PoW
  have hD := hD0.self (sz := s.heap.size)
  generalize hAe : va_A [(q0, .inr (7, [v0_n, v0_variables, .ref q0_store, v0_tape, .ref q0_base, .ref q0_blamed, v0_gateList, v0_taking, v0_search, .int (bI f0_rowsFresh), v0_gatesFresh, v0_latestFault, v0_latestNodes, v0_latestModel])), (q0_store, .inr (4, [.ref q0_store_equations, v0_store_yes, v0_store_no, .int f0_store_equationCount, v0_store_clauseCount, v0_store_equationsBefore, v0_store_clausesBefore, v0_store_levelCount])), (q0_store_equations, .inl (cL, n0_store_equations, .inr (.inl h0_store_equations))), (q0_base, .inr (2, [.int f0_base_n, .ref q0_base_byHead, .int (bI f0_base_impossible)])), (q0_base_byHead, .inl (cL, n0_base_byHead, .inr (.inl h0_base_byHead))), (q0_blamed, .inr (0, [.int f0_blamed_n, .ref q0_blamed_byHead, .ref q0_blamed_madeOf])), (q0_blamed_byHead, .inl (cL, n0_blamed_byHead, .inr (.inl h0_blamed_byHead))), (q0_blamed_madeOf, .inl (cL, n0_blamed_madeOf, .inr (.inl h0_blamed_madeOf)))] s.heap.size = A at hD ⊢
  have hA : ∀ q : Nat, s.heap.size ≤ q → A q := fun q h => by rw [← hAe]; exact Or.inr h
  have hent : entryFrame m args 1 = entryFrame m ([.ref q0] : List Value).toArray 1 := by rw [hargs]
  rw [hent]
  refine kx_Q (fun Q hQ => ?_)
  refine kx_H (fun H hH => ?_)
  have hP : va_P D vwCl [(q0, .inr (7, [v0_n, v0_variables, .ref q0_store, v0_tape, .ref q0_base, .ref q0_blamed, v0_gateList, v0_taking, v0_search, .int (bI f0_rowsFresh), v0_gatesFresh, v0_latestFault, v0_latestNodes, v0_latestModel])), (q0_store, .inr (4, [.ref q0_store_equations, v0_store_yes, v0_store_no, .int f0_store_equationCount, v0_store_clauseCount, v0_store_equationsBefore, v0_store_clausesBefore, v0_store_levelCount])), (q0_store_equations, .inl (cL, n0_store_equations, .inr (.inl h0_store_equations))), (q0_base, .inr (2, [.int f0_base_n, .ref q0_base_byHead, .int (bI f0_base_impossible)])), (q0_base_byHead, .inl (cL, n0_base_byHead, .inr (.inl h0_base_byHead))), (q0_blamed, .inr (0, [.int f0_blamed_n, .ref q0_blamed_byHead, .ref q0_blamed_madeOf])), (q0_blamed_byHead, .inl (cL, n0_blamed_byHead, .inr (.inl h0_blamed_byHead))), (q0_blamed_madeOf, .inl (cL, n0_blamed_madeOf, .inr (.inl h0_blamed_madeOf)))] H := by rw [hH]; exact hP
  have hS : va_S A s.heap H [] := by rw [hH]; exact va_S.rf
  have hl := lv_entry ([.ref q0]) (n := 1) (Nat.le_of_ble_eq_true rfl)
  rw [lg_entry_eq]
  generalize (lg_sl ([.ref q0]) ++ List.replicate (1 - (lg_sl ([.ref q0])).length) Slot.unset).toArray = ls at hl ⊢
  have hl : lv_has ls 1 [(0, .ref q0)] := hl
  have h := hr0
  unfold D_X7_blame at h
  refine lv_aload_n hx hb dX7_blame_0 rfl (lv_at hl 0 rfl) ?_
  obtain ⟨u_1, hu_2, h⟩ := co_b h
  refine kx_v (ws' := fun _ => [(q0, .inr (7, [v0_n, v0_variables, .ref q0_store, v0_tape, .ref q0_base, .ref q0_blamed, v0_gateList, v0_taking, v0_search, .int (bI u_1.1), v0_gatesFresh, v0_latestFault, v0_latestNodes, v0_latestModel])), (q0_store, .inr (4, [.ref q0_store_equations, v0_store_yes, v0_store_no, .int f0_store_equationCount, v0_store_clauseCount, v0_store_equationsBefore, v0_store_clausesBefore, v0_store_levelCount])), (q0_store_equations, .inl (cL, n0_store_equations, .inr (.inl h0_store_equations))), (q0_base, .inr (2, [.int f0_base_n, .ref q0_base_byHead, .int (bI u_1.2.1)])), (q0_base_byHead, .inl (cL, n0_base_byHead, .inr (.inl u_1.2.2))), (q0_blamed, .inr (0, [.int f0_blamed_n, .ref q0_blamed_byHead, .ref q0_blamed_madeOf])), (q0_blamed_byHead, .inl (cL, n0_blamed_byHead, .inr (.inl h0_blamed_byHead))), (q0_blamed_madeOf, .inl (cL, n0_blamed_madeOf, .inr (.inl h0_blamed_madeOf)))]) hP hD hS hA [0, 1, 2, 3, 4] [5, 6, 7] [3, 4, 5, 6, 7, 0, 1, 2] rfl rfl (by decide) (by decide) (fun _ => rfl) (by decide) (va_runV (As := []) (rest := []) ⟨hx, hb, hml, hown, hts⟩ (cm_X7_freshenRows l D cI cL (q0 := q0) (q0_store := q0_store) (q0_store_equations := q0_store_equations) (q0_base := q0_base) (q0_base_byHead := q0_base_byHead) (n0_store_equations := n0_store_equations) (n0_base_byHead := n0_base_byHead) (f0_rowsFresh := f0_rowsFresh) (f0_store_equationCount := f0_store_equationCount) (h0_store_equations := h0_store_equations) (f0_base_n := f0_base_n) (f0_base_impossible := f0_base_impossible) (h0_base_byHead := h0_base_byHead) (v0_n := v0_n) (v0_variables := v0_variables) (v0_tape := v0_tape) (v0_blamed := .ref q0_blamed) (v0_gateList := v0_gateList) (v0_taking := v0_taking) (v0_search := v0_search) (v0_gatesFresh := v0_gatesFresh) (v0_latestFault := v0_latestFault) (v0_latestNodes := v0_latestNodes) (v0_latestModel := v0_latestModel) (v0_store_yes := v0_store_yes) (v0_store_no := v0_store_no) (v0_store_clauseCount := v0_store_clauseCount) (v0_store_equationsBefore := v0_store_equationsBefore) (v0_store_clausesBefore := v0_store_clausesBefore) (v0_store_levelCount := v0_store_levelCount) (r0 := u_1) (hr0 := hu_2) (sz := H.size)) (cwV 0 hts gX7_blame_X7_freshenRows rfl rfl rfl (by decide +kernel) ⟨Nat.le_of_ble_eq_true rfl, Nat.le_of_ble_eq_true rfl⟩) (kx_preV hEV hP hD [0, 1, 2, 3, 4] rfl (by decide) (k0 := 0) (ci := 7) rfl rfl rfl) rfl rfl hl.1 rfl (lv_room (Nat.le_of_ble_eq_true rfl)) dX7_blame_1 ⟨Nat.le_of_ble_eq_true rfl, Nat.le_of_ble_eq_true rfl⟩) (fun _ H locs _ hP hD hS => ?_)
  refine lv_aload_n hx hb dX7_blame_4 rfl (lv_at hl 0 rfl) ?_
  refine va_get (D := D) (ci := 7) (v := .ref q0_base) (C := RX7) (T := TX7) (N := 14) hx hb hts in_X7_blame_X7 hown hK hP 0 rfl rfl 4 (by decide) lk_0 (fun _ h9 => h9) rfl dX7_blame_5 ?_
  refine va_get (D := D) (ci := 2) (v := .int (bI u_1.2.1)) (C := RX2) (T := TX2) (N := 3) hx hb hts in_X7_blame_X2 hown hK hP 3 rfl rfl 2 (by decide) lk_1 (fun _ h9 => h9) rfl dX7_blame_8 ?_
  refine lv_if_eq (tgt := 28) hx hb dX7_blame_11 (by decide) (fun c_3 => ?_) (fun c_3 => ?_)
  · have k_4 : ¬ (u_1.2.1 = true) := (kx_z c_3)
    have h := co_f k_4 h
    refine lv_lconst (v := (0 : Int64)) hx hb dX7_blame_28 (by decide) ?_
    have h := Option.some.inj h
    subst h
    subst hQ
    exact W.lret (v := (0 : Int64)) hx hb hr (fun t ht hW => ⟨⟨(0 : Int64), (), rfl, ⟨rfl, trivial⟩, by rw [ht]; exact hP, hD⟩, hS.F ht⟩) hS.2.2 dX7_blame_29
  · have k_4 : u_1.2.1 = true := (kx_nz c_3)
    have h := co_t k_4 h
    refine lv_aload_n hx hb dX7_blame_14 rfl (lv_at hl 0 rfl) ?_
    refine va_get (D := D) (ci := 7) (v := .ref q0_blamed) (C := RX7) (T := TX7) (N := 14) hx hb hts in_X7_blame_X7 hown hK hP 0 rfl rfl 5 (by decide) lk_2 (fun _ h9 => h9) rfl dX7_blame_15 ?_
    refine lv_aload_n hx hb dX7_blame_18 rfl (lv_at hl 0 rfl) ?_
    refine va_get (D := D) (ci := 7) (v := .ref q0_store) (C := RX7) (T := TX7) (N := 14) hx hb hts in_X7_blame_X7 hown hK hP 0 rfl rfl 2 (by decide) lk_3 (fun _ h9 => h9) rfl dX7_blame_19 ?_
    obtain ⟨u_5, hu_6, h⟩ := co_b h
    refine kx_l (ws' := fun _ => [(q0, .inr (7, [v0_n, v0_variables, .ref q0_store, v0_tape, .ref q0_base, .ref q0_blamed, v0_gateList, v0_taking, v0_search, .int (bI u_1.1), v0_gatesFresh, v0_latestFault, v0_latestNodes, v0_latestModel])), (q0_store, .inr (4, [.ref q0_store_equations, v0_store_yes, v0_store_no, .int f0_store_equationCount, v0_store_clauseCount, v0_store_equationsBefore, v0_store_clausesBefore, v0_store_levelCount])), (q0_store_equations, .inl (cL, n0_store_equations, .inr (.inl h0_store_equations))), (q0_base, .inr (2, [.int f0_base_n, .ref q0_base_byHead, .int (bI u_1.2.1)])), (q0_base_byHead, .inl (cL, n0_base_byHead, .inr (.inl u_1.2.2))), (q0_blamed, .inr (0, [.int f0_blamed_n, .ref q0_blamed_byHead, .ref q0_blamed_madeOf])), (q0_blamed_byHead, .inl (cL, n0_blamed_byHead, .inr (.inl u_5.2.1))), (q0_blamed_madeOf, .inl (cL, n0_blamed_madeOf, .inr (.inl u_5.2.2)))]) hP hD hS hA [5, 6, 7, 1, 2] [0, 3, 4] [0, 6, 7, 1, 2, 3, 4, 5] rfl rfl (by decide) (by decide) (fun _ => rfl) (by decide) (va_runV (As := [.ref q0_store]) (rest := []) ⟨hx, hb, hml, hown, hts⟩ (cm_X0_leastSum l D cI cL (q0 := q0_blamed) (q0_byHead := q0_blamed_byHead) (q0_madeOf := q0_blamed_madeOf) (q1 := q0_store) (q1_equations := q0_store_equations) (n0_byHead := n0_blamed_byHead) (n0_madeOf := n0_blamed_madeOf) (n1_equations := n0_store_equations) (f0_n := f0_blamed_n) (h0_byHead := h0_blamed_byHead) (h0_madeOf := h0_blamed_madeOf) (f1_equationCount := f0_store_equationCount) (h1_equations := h0_store_equations) (v1_yes := v0_store_yes) (v1_no := v0_store_no) (v1_clauseCount := v0_store_clauseCount) (v1_equationsBefore := v0_store_equationsBefore) (v1_clausesBefore := v0_store_clausesBefore) (v1_levelCount := v0_store_levelCount) (r0 := u_5) (hr0 := hu_6) (sz := H.size)) (cwV 1 hts gX7_blame_X0_leastSum rfl rfl rfl (by decide +kernel) ⟨Nat.le_of_ble_eq_true rfl, Nat.le_of_ble_eq_true rfl⟩) (kx_preV hEV hP hD [5, 6, 7, 1, 2] rfl (by decide) (k0 := 5) (ci := 0) rfl rfl rfl) rfl rfl hl.1 rfl (lv_room (Nat.le_of_ble_eq_true rfl)) dX7_blame_22 ⟨Nat.le_of_ble_eq_true rfl, Nat.le_of_ble_eq_true rfl⟩) (fun _ H locs _ hP hD hS => ?_)
    refine lv_goto (tgt := 29) hx hb dX7_blame_25 (by decide) ?_
    have h := Option.some.inj h
    subst h
    subst hQ
    exact W.lret (v := u_5.1) hx hb hr (fun t ht hW => ⟨⟨u_5.1, (), rfl, ⟨rfl, trivial⟩, by rw [ht]; exact hP, hD⟩, hS.F ht⟩) hS.2.2 dX7_blame_29
theorem in_X7_solutions_X2 : ∀ w ∈ wsX20, w ∈ wsX7_solutions := by decide +kernel
theorem in_X7_solutions_X7 : ∀ w ∈ wsX70, w ∈ wsX7_solutions := by decide +kernel
theorem lk_0_X7_solutions : Cond.fieldLink RX7 45 "ParityClauses" "base" "LParityClauses$Rows;" ∈ wsX7_solutions := by decide +kernel
theorem lk_1_X7_solutions : Cond.fieldLink RX7 182 "ParityClauses$Rows" "impossible" "Z" ∈ wsX7_solutions := by decide +kernel
theorem lk_2_X7_solutions : Cond.fieldLink RX7 18 "ParityClauses" "n" "I" ∈ wsX7_solutions := by decide +kernel
abbrev rm_X7_solutions : Room := { frames := 4, cells := 0, slots := 0, locals := 89 }
set_option maxHeartbeats 4000000 in
set_option maxRecDepth 100000 in
theorem cm_X7_solutions (l : Launch) (D : va_G) (cI cL : ClassId) (q0 q0_store q0_store_equations q0_base q0_base_byHead : Nat) (n0_store_equations n0_base_byHead : Nat) (f0_n : Int32) (f0_rowsFresh : Bool) (f0_store_equationCount : Int32) (h0_store_equations : Nat → Int64) (f0_base_n : Int32) (f0_base_impossible : Bool) (h0_base_byHead : Nat → Int64) (v0_variables v0_tape v0_blamed v0_gateList v0_taking v0_search v0_gatesFresh v0_latestFault v0_latestNodes v0_latestModel v0_store_yes v0_store_no v0_store_clauseCount v0_store_equationsBefore v0_store_clausesBefore v0_store_levelCount : Value) (r0 : Int64 × Bool × Bool × (Nat → Int64)) (hr0 : D_X7_solutions f0_n f0_rowsFresh f0_store_equationCount n0_store_equations h0_store_equations f0_base_n f0_base_impossible n0_base_byHead h0_base_byHead = some r0) (sz : Nat) : Met l yX7_solutions wsX7_solutions rm_X7_solutions (PcW D cI cL [.ref q0] [(q0, .inr (7, [.int f0_n, v0_variables, .ref q0_store, v0_tape, .ref q0_base, v0_blamed, v0_gateList, v0_taking, v0_search, .int (bI f0_rowsFresh), v0_gatesFresh, v0_latestFault, v0_latestNodes, v0_latestModel])), (q0_store, .inr (4, [.ref q0_store_equations, v0_store_yes, v0_store_no, .int f0_store_equationCount, v0_store_clauseCount, v0_store_equationsBefore, v0_store_clausesBefore, v0_store_levelCount])), (q0_store_equations, .inl (cL, n0_store_equations, .inr (.inl h0_store_equations))), (q0_base, .inr (2, [.int f0_base_n, .ref q0_base_byHead, .int (bI f0_base_impossible)])), (q0_base_byHead, .inl (cL, n0_base_byHead, .inr (.inl h0_base_byHead)))] sz) (QlW D [(q0, .inr (7, [.int f0_n, v0_variables, .ref q0_store, v0_tape, .ref q0_base, v0_blamed, v0_gateList, v0_taking, v0_search, .int (bI f0_rowsFresh), v0_gatesFresh, v0_latestFault, v0_latestNodes, v0_latestModel])), (q0_store, .inr (4, [.ref q0_store_equations, v0_store_yes, v0_store_no, .int f0_store_equationCount, v0_store_clauseCount, v0_store_equationsBefore, v0_store_clausesBefore, v0_store_levelCount])), (q0_store_equations, .inl (cL, n0_store_equations, .inr (.inl h0_store_equations))), (q0_base, .inr (2, [.int f0_base_n, .ref q0_base_byHead, .int (bI f0_base_impossible)])), (q0_base_byHead, .inl (cL, n0_base_byHead, .inr (.inl h0_base_byHead)))] r0.1 (fun _ : Unit => [(q0, .inr (7, [.int f0_n, v0_variables, .ref q0_store, v0_tape, .ref q0_base, v0_blamed, v0_gateList, v0_taking, v0_search, .int (bI r0.2.1), v0_gatesFresh, v0_latestFault, v0_latestNodes, v0_latestModel])), (q0_store, .inr (4, [.ref q0_store_equations, v0_store_yes, v0_store_no, .int f0_store_equationCount, v0_store_clauseCount, v0_store_equationsBefore, v0_store_clausesBefore, v0_store_levelCount])), (q0_store_equations, .inl (cL, n0_store_equations, .inr (.inl h0_store_equations))), (q0_base, .inr (2, [.int f0_base_n, .ref q0_base_byHead, .int (bI r0.2.2.1)])), (q0_base_byHead, .inl (cL, n0_base_byHead, .inr (.inl r0.2.2.2)))]) tU sz) 0 0 (va_A [(q0, .inr (7, [.int f0_n, v0_variables, .ref q0_store, v0_tape, .ref q0_base, v0_blamed, v0_gateList, v0_taking, v0_search, .int (bI f0_rowsFresh), v0_gatesFresh, v0_latestFault, v0_latestNodes, v0_latestModel])), (q0_store, .inr (4, [.ref q0_store_equations, v0_store_yes, v0_store_no, .int f0_store_equationCount, v0_store_clauseCount, v0_store_equationsBefore, v0_store_clausesBefore, v0_store_levelCount])), (q0_store_equations, .inl (cL, n0_store_equations, .inr (.inl h0_store_equations))), (q0_base, .inr (2, [.int f0_base_n, .ref q0_base_byHead, .int (bI f0_base_impossible)])), (q0_base_byHead, .inl (cL, n0_base_byHead, .inr (.inl h0_base_byHead)))] sz) := by
  refine Met.ofW (cc := cX7_solutions) (maxL := 1) (ret := (some .long)) (by decide) rfl ?_
  intro p e s m args below meth c s₁ B hml hv
  obtain ⟨hargs, hsz, hP, hEV, hD0⟩ := hv
  have hx := B.exec
  have hb := B.bytes
  have hr := B.returns
  have hts := atoms_spec (ws := wsX7_solutions) B.pre
  have hown : s.vm.findClass RX7 = some m.cls := findClass_of_methodNamed B.named
  have hlocks := B.notSynchronized
  have hK := hEV.K
  have lk_0 := hts _ lk_0_X7_solutions
  have lk_1 := hts _ lk_1_X7_solutions
  have lk_2 := hts _ lk_2_X7_solutions
  subst hsz
  unfold QlW PoW
  have hD := hD0.self (sz := s.heap.size)
  generalize hAe : va_A [(q0, .inr (7, [.int f0_n, v0_variables, .ref q0_store, v0_tape, .ref q0_base, v0_blamed, v0_gateList, v0_taking, v0_search, .int (bI f0_rowsFresh), v0_gatesFresh, v0_latestFault, v0_latestNodes, v0_latestModel])), (q0_store, .inr (4, [.ref q0_store_equations, v0_store_yes, v0_store_no, .int f0_store_equationCount, v0_store_clauseCount, v0_store_equationsBefore, v0_store_clausesBefore, v0_store_levelCount])), (q0_store_equations, .inl (cL, n0_store_equations, .inr (.inl h0_store_equations))), (q0_base, .inr (2, [.int f0_base_n, .ref q0_base_byHead, .int (bI f0_base_impossible)])), (q0_base_byHead, .inl (cL, n0_base_byHead, .inr (.inl h0_base_byHead)))] s.heap.size = A at hD ⊢
  have hA : ∀ q : Nat, s.heap.size ≤ q → A q := fun q h => by rw [← hAe]; exact Or.inr h
  have hent : entryFrame m args 1 = entryFrame m ([.ref q0] : List Value).toArray 1 := by rw [hargs]
  rw [hent]
  refine kx_Q (fun Q hQ => ?_)
  refine kx_H (fun H hH => ?_)
  have hP : va_P D vwCl [(q0, .inr (7, [.int f0_n, v0_variables, .ref q0_store, v0_tape, .ref q0_base, v0_blamed, v0_gateList, v0_taking, v0_search, .int (bI f0_rowsFresh), v0_gatesFresh, v0_latestFault, v0_latestNodes, v0_latestModel])), (q0_store, .inr (4, [.ref q0_store_equations, v0_store_yes, v0_store_no, .int f0_store_equationCount, v0_store_clauseCount, v0_store_equationsBefore, v0_store_clausesBefore, v0_store_levelCount])), (q0_store_equations, .inl (cL, n0_store_equations, .inr (.inl h0_store_equations))), (q0_base, .inr (2, [.int f0_base_n, .ref q0_base_byHead, .int (bI f0_base_impossible)])), (q0_base_byHead, .inl (cL, n0_base_byHead, .inr (.inl h0_base_byHead)))] H := by rw [hH]; exact hP
  have hS : va_S A s.heap H [] := by rw [hH]; exact va_S.rf
  have hl := lv_entry ([.ref q0]) (n := 1) (Nat.le_of_ble_eq_true rfl)
  rw [lg_entry_eq]
  generalize (lg_sl ([.ref q0]) ++ List.replicate (1 - (lg_sl ([.ref q0])).length) Slot.unset).toArray = ls at hl ⊢
  have hl : lv_has ls 1 [(0, .ref q0)] := hl
  have h := hr0
  unfold D_X7_solutions at h
  refine lv_aload_n hx hb dX7_solutions_0 rfl (lv_at hl 0 rfl) ?_
  obtain ⟨u_1, hu_2, h⟩ := co_b h
  refine kx_v (ws' := fun _ => [(q0, .inr (7, [.int f0_n, v0_variables, .ref q0_store, v0_tape, .ref q0_base, v0_blamed, v0_gateList, v0_taking, v0_search, .int (bI u_1.1), v0_gatesFresh, v0_latestFault, v0_latestNodes, v0_latestModel])), (q0_store, .inr (4, [.ref q0_store_equations, v0_store_yes, v0_store_no, .int f0_store_equationCount, v0_store_clauseCount, v0_store_equationsBefore, v0_store_clausesBefore, v0_store_levelCount])), (q0_store_equations, .inl (cL, n0_store_equations, .inr (.inl h0_store_equations))), (q0_base, .inr (2, [.int f0_base_n, .ref q0_base_byHead, .int (bI u_1.2.1)])), (q0_base_byHead, .inl (cL, n0_base_byHead, .inr (.inl u_1.2.2)))]) hP hD hS hA [0, 1, 2, 3, 4] [] [0, 1, 2, 3, 4] rfl rfl (by decide) (by decide) (fun _ => rfl) (by decide) (va_runV (As := []) (rest := []) ⟨hx, hb, hml, hown, hts⟩ (cm_X7_freshenRows l D cI cL (q0 := q0) (q0_store := q0_store) (q0_store_equations := q0_store_equations) (q0_base := q0_base) (q0_base_byHead := q0_base_byHead) (n0_store_equations := n0_store_equations) (n0_base_byHead := n0_base_byHead) (f0_rowsFresh := f0_rowsFresh) (f0_store_equationCount := f0_store_equationCount) (h0_store_equations := h0_store_equations) (f0_base_n := f0_base_n) (f0_base_impossible := f0_base_impossible) (h0_base_byHead := h0_base_byHead) (v0_n := .int f0_n) (v0_variables := v0_variables) (v0_tape := v0_tape) (v0_blamed := v0_blamed) (v0_gateList := v0_gateList) (v0_taking := v0_taking) (v0_search := v0_search) (v0_gatesFresh := v0_gatesFresh) (v0_latestFault := v0_latestFault) (v0_latestNodes := v0_latestNodes) (v0_latestModel := v0_latestModel) (v0_store_yes := v0_store_yes) (v0_store_no := v0_store_no) (v0_store_clauseCount := v0_store_clauseCount) (v0_store_equationsBefore := v0_store_equationsBefore) (v0_store_clausesBefore := v0_store_clausesBefore) (v0_store_levelCount := v0_store_levelCount) (r0 := u_1) (hr0 := hu_2) (sz := H.size)) (cwV 0 hts gX7_solutions_X7_freshenRows rfl rfl rfl (by decide +kernel) ⟨Nat.le_of_ble_eq_true rfl, Nat.le_of_ble_eq_true rfl⟩) (kx_preV hEV hP hD [0, 1, 2, 3, 4] rfl (by decide) (k0 := 0) (ci := 7) rfl rfl rfl) rfl rfl hl.1 rfl (lv_room (Nat.le_of_ble_eq_true rfl)) dX7_solutions_1 ⟨Nat.le_of_ble_eq_true rfl, Nat.le_of_ble_eq_true rfl⟩) (fun _ H locs _ hP hD hS => ?_)
  refine lv_aload_n hx hb dX7_solutions_4 rfl (lv_at hl 0 rfl) ?_
  refine va_get (D := D) (ci := 7) (v := .ref q0_base) (C := RX7) (T := TX7) (N := 14) hx hb hts in_X7_solutions_X7 hown hK hP 0 rfl rfl 4 (by decide) lk_0 (fun _ h9 => h9) rfl dX7_solutions_5 ?_
  refine va_get (D := D) (ci := 2) (v := .int (bI u_1.2.1)) (C := RX2) (T := TX2) (N := 3) hx hb hts in_X7_solutions_X2 hown hK hP 3 rfl rfl 2 (by decide) lk_1 (fun _ h9 => h9) rfl dX7_solutions_8 ?_
  refine lv_if_eq (tgt := 18) hx hb dX7_solutions_11 (by decide) (fun c_3 => ?_) (fun c_3 => ?_)
  · have k_4 : ¬ (u_1.2.1 = true) := (kx_z c_3)
    have h := co_f k_4 h
    refine lv_lconst (v := (1 : Int64)) hx hb dX7_solutions_18 (by decide) ?_
    refine lv_aload_n hx hb dX7_solutions_19 rfl (lv_at hl 0 rfl) ?_
    refine va_get (D := D) (ci := 7) (v := .int f0_n) (C := RX7) (T := TX7) (N := 14) hx hb hts in_X7_solutions_X7 hown hK hP 0 rfl rfl 0 (by decide) lk_2 (fun _ h9 => h9) rfl dX7_solutions_20 ?_
    refine lv_aload_n hx hb dX7_solutions_23 rfl (lv_at hl 0 rfl) ?_
    refine va_get (D := D) (ci := 7) (v := .ref q0_base) (C := RX7) (T := TX7) (N := 14) hx hb hts in_X7_solutions_X7 hown hK hP 0 rfl rfl 4 (by decide) lk_0 (fun _ h9 => h9) rfl dX7_solutions_24 ?_
    obtain ⟨u_5, hu_6, h⟩ := co_b h
    refine kx_i (ws' := fun _ => [(q0, .inr (7, [.int f0_n, v0_variables, .ref q0_store, v0_tape, .ref q0_base, v0_blamed, v0_gateList, v0_taking, v0_search, .int (bI u_1.1), v0_gatesFresh, v0_latestFault, v0_latestNodes, v0_latestModel])), (q0_store, .inr (4, [.ref q0_store_equations, v0_store_yes, v0_store_no, .int f0_store_equationCount, v0_store_clauseCount, v0_store_equationsBefore, v0_store_clausesBefore, v0_store_levelCount])), (q0_store_equations, .inl (cL, n0_store_equations, .inr (.inl h0_store_equations))), (q0_base, .inr (2, [.int f0_base_n, .ref q0_base_byHead, .int (bI u_1.2.1)])), (q0_base_byHead, .inl (cL, n0_base_byHead, .inr (.inl u_1.2.2)))]) hP hD hS hA [3, 4] [0, 1, 2] [0, 1, 2, 3, 4] rfl rfl (by decide) (by decide) (fun _ => rfl) (by decide) (va_runV (As := []) (rest := [.int f0_n, .long (1 : Int64)]) ⟨hx, hb, hml, hown, hts⟩ (cm_X2_size l D cI cL (q0 := q0_base) (q0_byHead := q0_base_byHead) (n0_byHead := n0_base_byHead) (f0_n := f0_base_n) (h0_byHead := u_1.2.2) (v0_impossible := .int (bI u_1.2.1)) (r0 := u_5) (hr0 := hu_6) (sz := H.size)) (cwV 0 hts gX7_solutions_X2_size rfl rfl rfl (by decide +kernel) ⟨Nat.le_of_ble_eq_true rfl, Nat.le_of_ble_eq_true rfl⟩) (kx_preV hEV hP hD [3, 4] rfl (by decide) (k0 := 3) (ci := 2) rfl rfl rfl) rfl rfl hl.1 rfl (lv_room (Nat.le_of_ble_eq_true rfl)) dX7_solutions_27 ⟨Nat.le_of_ble_eq_true rfl, Nat.le_of_ble_eq_true rfl⟩) (fun _ H locs _ hP hD hS => ?_)
    refine lv_isub hx hb dX7_solutions_30 ?_
    refine lv_lshl (v := jshl (1 : Int64) (f0_n - u_5)) hx hb dX7_solutions_31 rfl ?_
    have h := Option.some.inj h
    subst h
    subst hQ
    exact W.lret (v := jshl (1 : Int64) (f0_n - u_5)) hx hb hr (fun t ht hW => ⟨⟨jshl (1 : Int64) (f0_n - u_5), (), rfl, ⟨rfl, trivial⟩, by rw [ht]; exact hP, hD⟩, hS.F ht⟩) hS.2.2 dX7_solutions_32
  · have k_4 : u_1.2.1 = true := (kx_nz c_3)
    have h := co_t k_4 h
    refine lv_lconst (v := (0 : Int64)) hx hb dX7_solutions_14 (by decide) ?_
    refine lv_goto (tgt := 32) hx hb dX7_solutions_15 (by decide) ?_
    have h := Option.some.inj h
    subst h
    subst hQ
    exact W.lret (v := (0 : Int64)) hx hb hr (fun t ht hW => ⟨⟨(0 : Int64), (), rfl, ⟨rfl, trivial⟩, by rw [ht]; exact hP, hD⟩, hS.F ht⟩) hS.2.2 dX7_solutions_32
theorem in_X7_solution_X7 : ∀ w ∈ wsX70, w ∈ wsX7_solution := by decide +kernel
theorem lk_0_X7_solution : Cond.constantLong RX7 77 (-1) ∈ wsX7_solution := by decide +kernel
theorem lk_1_X7_solution : Cond.fieldLink RX7 66 "ParityClauses" "taking" "LParityClauses$Taking;" ∈ wsX7_solution := by decide +kernel
theorem lk_2_X7_solution : Cond.fieldLink RX7 45 "ParityClauses" "base" "LParityClauses$Rows;" ∈ wsX7_solution := by decide +kernel
theorem lk_3_X7_solution : Cond.fieldLink RX7 18 "ParityClauses" "n" "I" ∈ wsX7_solution := by decide +kernel
abbrev rm_X7_solution : Room := { frames := 5, cells := 0, slots := 0, locals := 123 }
set_option maxHeartbeats 4000000 in
set_option maxRecDepth 100000 in
theorem cm_X7_solution (l : Launch) (D : va_G) (cI cL : ClassId) (q0 q0_store q0_store_equations q0_base q0_base_byHead q0_taking q0_taking_rows q0_taking_rows_byHead : Nat) (n0_store_equations n0_base_byHead n0_taking_rows_byHead : Nat) (f0_n : Int32) (f0_rowsFresh : Bool) (f0_store_equationCount : Int32) (h0_store_equations : Nat → Int64) (f0_base_n : Int32) (f0_base_impossible : Bool) (h0_base_byHead : Nat → Int64) (f0_taking_n : Int32) (f0_taking_taken : Int64) (f0_taking_ones : Int64) (f0_taking_rows_n : Int32) (f0_taking_rows_impossible : Bool) (h0_taking_rows_byHead : Nat → Int64) (v0_variables v0_tape v0_blamed v0_gateList v0_search v0_gatesFresh v0_latestFault v0_latestNodes v0_latestModel v0_store_yes v0_store_no v0_store_clauseCount v0_store_equationsBefore v0_store_clausesBefore v0_store_levelCount : Value) (x1 : Int64) (r0 : Int64 × Bool × Bool × (Nat → Int64) × Int64 × Int64 × Bool × (Nat → Int64)) (hr0 : D_X7_solution f0_n f0_rowsFresh f0_store_equationCount n0_store_equations h0_store_equations f0_base_n f0_base_impossible n0_base_byHead h0_base_byHead f0_taking_n f0_taking_taken f0_taking_ones f0_taking_rows_n f0_taking_rows_impossible n0_taking_rows_byHead h0_taking_rows_byHead x1 = some r0) (sz : Nat) : Met l yX7_solution wsX7_solution rm_X7_solution (PcW D cI cL [.ref q0, .long x1] [(q0, .inr (7, [.int f0_n, v0_variables, .ref q0_store, v0_tape, .ref q0_base, v0_blamed, v0_gateList, .ref q0_taking, v0_search, .int (bI f0_rowsFresh), v0_gatesFresh, v0_latestFault, v0_latestNodes, v0_latestModel])), (q0_store, .inr (4, [.ref q0_store_equations, v0_store_yes, v0_store_no, .int f0_store_equationCount, v0_store_clauseCount, v0_store_equationsBefore, v0_store_clausesBefore, v0_store_levelCount])), (q0_store_equations, .inl (cL, n0_store_equations, .inr (.inl h0_store_equations))), (q0_base, .inr (2, [.int f0_base_n, .ref q0_base_byHead, .int (bI f0_base_impossible)])), (q0_base_byHead, .inl (cL, n0_base_byHead, .inr (.inl h0_base_byHead))), (q0_taking, .inr (5, [.int f0_taking_n, .ref q0_taking_rows, .long f0_taking_taken, .long f0_taking_ones])), (q0_taking_rows, .inr (2, [.int f0_taking_rows_n, .ref q0_taking_rows_byHead, .int (bI f0_taking_rows_impossible)])), (q0_taking_rows_byHead, .inl (cL, n0_taking_rows_byHead, .inr (.inl h0_taking_rows_byHead)))] sz) (QlW D [(q0, .inr (7, [.int f0_n, v0_variables, .ref q0_store, v0_tape, .ref q0_base, v0_blamed, v0_gateList, .ref q0_taking, v0_search, .int (bI f0_rowsFresh), v0_gatesFresh, v0_latestFault, v0_latestNodes, v0_latestModel])), (q0_store, .inr (4, [.ref q0_store_equations, v0_store_yes, v0_store_no, .int f0_store_equationCount, v0_store_clauseCount, v0_store_equationsBefore, v0_store_clausesBefore, v0_store_levelCount])), (q0_store_equations, .inl (cL, n0_store_equations, .inr (.inl h0_store_equations))), (q0_base, .inr (2, [.int f0_base_n, .ref q0_base_byHead, .int (bI f0_base_impossible)])), (q0_base_byHead, .inl (cL, n0_base_byHead, .inr (.inl h0_base_byHead))), (q0_taking, .inr (5, [.int f0_taking_n, .ref q0_taking_rows, .long f0_taking_taken, .long f0_taking_ones])), (q0_taking_rows, .inr (2, [.int f0_taking_rows_n, .ref q0_taking_rows_byHead, .int (bI f0_taking_rows_impossible)])), (q0_taking_rows_byHead, .inl (cL, n0_taking_rows_byHead, .inr (.inl h0_taking_rows_byHead)))] r0.1 (fun _ : Unit => [(q0, .inr (7, [.int f0_n, v0_variables, .ref q0_store, v0_tape, .ref q0_base, v0_blamed, v0_gateList, .ref q0_taking, v0_search, .int (bI r0.2.1), v0_gatesFresh, v0_latestFault, v0_latestNodes, v0_latestModel])), (q0_store, .inr (4, [.ref q0_store_equations, v0_store_yes, v0_store_no, .int f0_store_equationCount, v0_store_clauseCount, v0_store_equationsBefore, v0_store_clausesBefore, v0_store_levelCount])), (q0_store_equations, .inl (cL, n0_store_equations, .inr (.inl h0_store_equations))), (q0_base, .inr (2, [.int f0_base_n, .ref q0_base_byHead, .int (bI r0.2.2.1)])), (q0_base_byHead, .inl (cL, n0_base_byHead, .inr (.inl r0.2.2.2.1))), (q0_taking, .inr (5, [.int f0_taking_n, .ref q0_taking_rows, .long r0.2.2.2.2.1, .long r0.2.2.2.2.2.1])), (q0_taking_rows, .inr (2, [.int f0_taking_rows_n, .ref q0_taking_rows_byHead, .int (bI r0.2.2.2.2.2.2.1)])), (q0_taking_rows_byHead, .inl (cL, n0_taking_rows_byHead, .inr (.inl r0.2.2.2.2.2.2.2)))]) tU sz) 0 0 (va_A [(q0, .inr (7, [.int f0_n, v0_variables, .ref q0_store, v0_tape, .ref q0_base, v0_blamed, v0_gateList, .ref q0_taking, v0_search, .int (bI f0_rowsFresh), v0_gatesFresh, v0_latestFault, v0_latestNodes, v0_latestModel])), (q0_store, .inr (4, [.ref q0_store_equations, v0_store_yes, v0_store_no, .int f0_store_equationCount, v0_store_clauseCount, v0_store_equationsBefore, v0_store_clausesBefore, v0_store_levelCount])), (q0_store_equations, .inl (cL, n0_store_equations, .inr (.inl h0_store_equations))), (q0_base, .inr (2, [.int f0_base_n, .ref q0_base_byHead, .int (bI f0_base_impossible)])), (q0_base_byHead, .inl (cL, n0_base_byHead, .inr (.inl h0_base_byHead))), (q0_taking, .inr (5, [.int f0_taking_n, .ref q0_taking_rows, .long f0_taking_taken, .long f0_taking_ones])), (q0_taking_rows, .inr (2, [.int f0_taking_rows_n, .ref q0_taking_rows_byHead, .int (bI f0_taking_rows_impossible)])), (q0_taking_rows_byHead, .inl (cL, n0_taking_rows_byHead, .inr (.inl h0_taking_rows_byHead)))] sz) := by
  refine Met.ofW (cc := cX7_solution) (maxL := 3) (ret := (some .long)) (by decide) rfl ?_
  intro p e s m args below meth c s₁ B hml hv
  obtain ⟨hargs, hsz, hP, hEV, hD0⟩ := hv
  have hx := B.exec
  have hb := B.bytes
  have hr := B.returns
  have hts := atoms_spec (ws := wsX7_solution) B.pre
  have hown : s.vm.findClass RX7 = some m.cls := findClass_of_methodNamed B.named
  have hlocks := B.notSynchronized
  have hK := hEV.K
  have lk_0 := hts _ lk_0_X7_solution
  have lk_1 := hts _ lk_1_X7_solution
  have lk_2 := hts _ lk_2_X7_solution
  have lk_3 := hts _ lk_3_X7_solution
  subst hsz
  unfold QlW PoW
  have hD := hD0.self (sz := s.heap.size)
  generalize hAe : va_A [(q0, .inr (7, [.int f0_n, v0_variables, .ref q0_store, v0_tape, .ref q0_base, v0_blamed, v0_gateList, .ref q0_taking, v0_search, .int (bI f0_rowsFresh), v0_gatesFresh, v0_latestFault, v0_latestNodes, v0_latestModel])), (q0_store, .inr (4, [.ref q0_store_equations, v0_store_yes, v0_store_no, .int f0_store_equationCount, v0_store_clauseCount, v0_store_equationsBefore, v0_store_clausesBefore, v0_store_levelCount])), (q0_store_equations, .inl (cL, n0_store_equations, .inr (.inl h0_store_equations))), (q0_base, .inr (2, [.int f0_base_n, .ref q0_base_byHead, .int (bI f0_base_impossible)])), (q0_base_byHead, .inl (cL, n0_base_byHead, .inr (.inl h0_base_byHead))), (q0_taking, .inr (5, [.int f0_taking_n, .ref q0_taking_rows, .long f0_taking_taken, .long f0_taking_ones])), (q0_taking_rows, .inr (2, [.int f0_taking_rows_n, .ref q0_taking_rows_byHead, .int (bI f0_taking_rows_impossible)])), (q0_taking_rows_byHead, .inl (cL, n0_taking_rows_byHead, .inr (.inl h0_taking_rows_byHead)))] s.heap.size = A at hD ⊢
  have hA : ∀ q : Nat, s.heap.size ≤ q → A q := fun q h => by rw [← hAe]; exact Or.inr h
  have hent : entryFrame m args 3 = entryFrame m ([.ref q0, .long x1] : List Value).toArray 3 := by rw [hargs]
  rw [hent]
  refine kx_Q (fun Q hQ => ?_)
  refine kx_H (fun H hH => ?_)
  have hP : va_P D vwCl [(q0, .inr (7, [.int f0_n, v0_variables, .ref q0_store, v0_tape, .ref q0_base, v0_blamed, v0_gateList, .ref q0_taking, v0_search, .int (bI f0_rowsFresh), v0_gatesFresh, v0_latestFault, v0_latestNodes, v0_latestModel])), (q0_store, .inr (4, [.ref q0_store_equations, v0_store_yes, v0_store_no, .int f0_store_equationCount, v0_store_clauseCount, v0_store_equationsBefore, v0_store_clausesBefore, v0_store_levelCount])), (q0_store_equations, .inl (cL, n0_store_equations, .inr (.inl h0_store_equations))), (q0_base, .inr (2, [.int f0_base_n, .ref q0_base_byHead, .int (bI f0_base_impossible)])), (q0_base_byHead, .inl (cL, n0_base_byHead, .inr (.inl h0_base_byHead))), (q0_taking, .inr (5, [.int f0_taking_n, .ref q0_taking_rows, .long f0_taking_taken, .long f0_taking_ones])), (q0_taking_rows, .inr (2, [.int f0_taking_rows_n, .ref q0_taking_rows_byHead, .int (bI f0_taking_rows_impossible)])), (q0_taking_rows_byHead, .inl (cL, n0_taking_rows_byHead, .inr (.inl h0_taking_rows_byHead)))] H := by rw [hH]; exact hP
  have hS : va_S A s.heap H [] := by rw [hH]; exact va_S.rf
  have hl := lv_entry ([.ref q0, .long x1]) (n := 3) (Nat.le_of_ble_eq_true rfl)
  rw [lg_entry_eq]
  generalize (lg_sl ([.ref q0, .long x1]) ++ List.replicate (3 - (lg_sl ([.ref q0, .long x1])).length) Slot.unset).toArray = ls at hl ⊢
  have hl : lv_has ls 3 [(0, .ref q0), (1, .long x1)] := hl
  have h := hr0
  unfold D_X7_solution at h
  refine lv_lload_n hx hb dX7_solution_0 rfl (lv_at hl 1 rfl) ?_
  refine lv_lconst (v := (0 : Int64)) hx hb dX7_solution_1 (by decide) ?_
  refine W.lcmp hx hb dX7_solution_2 ?_
  refine lv_if_lt (tgt := 15) hx hb dX7_solution_3 (by decide) (fun c_1 => ?_) (fun c_1 => ?_)
  · have k_2 : x1 < (0 : Int64) := ((lg_cmp_lt _ _).mp c_1)
    have h := co_t k_2 h
    refine lv_ldc2 hx hb hown lk_0 dX7_solution_15 ?_
    have h := Option.some.inj h
    subst h
    subst hQ
    exact W.lret (v := (-1 : Int64)) hx hb hr (fun t ht hW => ⟨⟨(-1 : Int64), (), rfl, ⟨rfl, trivial⟩, by rw [ht]; exact hP, hD⟩, hS.F ht⟩) hS.2.2 dX7_solution_18
  · have k_2 : ¬ (x1 < (0 : Int64)) := (fun z9 => c_1 ((lg_cmp_lt _ _).mpr z9))
    have h := co_f k_2 h
    refine lv_lload_n hx hb dX7_solution_6 rfl (lv_at hl 1 rfl) ?_
    refine lv_aload_n hx hb dX7_solution_7 rfl (lv_at hl 0 rfl) ?_
    obtain ⟨u_3, hu_4, h⟩ := co_b h
    refine kx_l (ws' := fun _ => [(q0, .inr (7, [.int f0_n, v0_variables, .ref q0_store, v0_tape, .ref q0_base, v0_blamed, v0_gateList, .ref q0_taking, v0_search, .int (bI u_3.2.1), v0_gatesFresh, v0_latestFault, v0_latestNodes, v0_latestModel])), (q0_store, .inr (4, [.ref q0_store_equations, v0_store_yes, v0_store_no, .int f0_store_equationCount, v0_store_clauseCount, v0_store_equationsBefore, v0_store_clausesBefore, v0_store_levelCount])), (q0_store_equations, .inl (cL, n0_store_equations, .inr (.inl h0_store_equations))), (q0_base, .inr (2, [.int f0_base_n, .ref q0_base_byHead, .int (bI u_3.2.2.1)])), (q0_base_byHead, .inl (cL, n0_base_byHead, .inr (.inl u_3.2.2.2))), (q0_taking, .inr (5, [.int f0_taking_n, .ref q0_taking_rows, .long f0_taking_taken, .long f0_taking_ones])), (q0_taking_rows, .inr (2, [.int f0_taking_rows_n, .ref q0_taking_rows_byHead, .int (bI f0_taking_rows_impossible)])), (q0_taking_rows_byHead, .inl (cL, n0_taking_rows_byHead, .inr (.inl h0_taking_rows_byHead)))]) hP hD hS hA [0, 1, 2, 3, 4] [5, 6, 7] [3, 4, 5, 6, 7, 0, 1, 2] rfl rfl (by decide) (by decide) (fun _ => rfl) (by decide) (va_runV (As := []) (rest := [.long x1]) ⟨hx, hb, hml, hown, hts⟩ (cm_X7_solutions l D cI cL (q0 := q0) (q0_store := q0_store) (q0_store_equations := q0_store_equations) (q0_base := q0_base) (q0_base_byHead := q0_base_byHead) (n0_store_equations := n0_store_equations) (n0_base_byHead := n0_base_byHead) (f0_n := f0_n) (f0_rowsFresh := f0_rowsFresh) (f0_store_equationCount := f0_store_equationCount) (h0_store_equations := h0_store_equations) (f0_base_n := f0_base_n) (f0_base_impossible := f0_base_impossible) (h0_base_byHead := h0_base_byHead) (v0_variables := v0_variables) (v0_tape := v0_tape) (v0_blamed := v0_blamed) (v0_gateList := v0_gateList) (v0_taking := .ref q0_taking) (v0_search := v0_search) (v0_gatesFresh := v0_gatesFresh) (v0_latestFault := v0_latestFault) (v0_latestNodes := v0_latestNodes) (v0_latestModel := v0_latestModel) (v0_store_yes := v0_store_yes) (v0_store_no := v0_store_no) (v0_store_clauseCount := v0_store_clauseCount) (v0_store_equationsBefore := v0_store_equationsBefore) (v0_store_clausesBefore := v0_store_clausesBefore) (v0_store_levelCount := v0_store_levelCount) (r0 := u_3) (hr0 := hu_4) (sz := H.size)) (cwV 0 hts gX7_solution_X7_solutions rfl rfl rfl (by decide +kernel) ⟨Nat.le_of_ble_eq_true rfl, Nat.le_of_ble_eq_true rfl⟩) (kx_preV hEV hP hD [0, 1, 2, 3, 4] rfl (by decide) (k0 := 0) (ci := 7) rfl rfl rfl) rfl rfl hl.1 rfl (lv_room (Nat.le_of_ble_eq_true rfl)) dX7_solution_8 ⟨Nat.le_of_ble_eq_true rfl, Nat.le_of_ble_eq_true rfl⟩) (fun _ H locs _ hP hD hS => ?_)
    refine W.lcmp hx hb dX7_solution_11 ?_
    refine lv_if_lt (tgt := 19) hx hb dX7_solution_12 (by decide) (fun c_5 => ?_) (fun c_5 => ?_)
    · have k_6 : x1 < u_3.1 := ((lg_cmp_lt _ _).mp c_5)
      have h := co_t k_6 h
      refine lv_aload_n hx hb dX7_solution_19 rfl (lv_at hl 0 rfl) ?_
      refine va_get (D := D) (ci := 7) (v := .ref q0_taking) (C := RX7) (T := TX7) (N := 14) hx hb hts in_X7_solution_X7 hown hK hP 0 rfl rfl 7 (by decide) lk_1 (fun _ h9 => h9) rfl dX7_solution_20 ?_
      refine lv_aload_n hx hb dX7_solution_23 rfl (lv_at hl 0 rfl) ?_
      refine va_get (D := D) (ci := 7) (v := .ref q0_base) (C := RX7) (T := TX7) (N := 14) hx hb hts in_X7_solution_X7 hown hK hP 0 rfl rfl 4 (by decide) lk_2 (fun _ h9 => h9) rfl dX7_solution_24 ?_
      obtain ⟨u_7, hu_8, h⟩ := co_b h
      refine kx_v (ws' := fun _ => [(q0, .inr (7, [.int f0_n, v0_variables, .ref q0_store, v0_tape, .ref q0_base, v0_blamed, v0_gateList, .ref q0_taking, v0_search, .int (bI u_3.2.1), v0_gatesFresh, v0_latestFault, v0_latestNodes, v0_latestModel])), (q0_store, .inr (4, [.ref q0_store_equations, v0_store_yes, v0_store_no, .int f0_store_equationCount, v0_store_clauseCount, v0_store_equationsBefore, v0_store_clausesBefore, v0_store_levelCount])), (q0_store_equations, .inl (cL, n0_store_equations, .inr (.inl h0_store_equations))), (q0_base, .inr (2, [.int f0_base_n, .ref q0_base_byHead, .int (bI u_3.2.2.1)])), (q0_base_byHead, .inl (cL, n0_base_byHead, .inr (.inl u_3.2.2.2))), (q0_taking, .inr (5, [.int f0_taking_n, .ref q0_taking_rows, .long u_7.1, .long u_7.2.1])), (q0_taking_rows, .inr (2, [.int f0_taking_rows_n, .ref q0_taking_rows_byHead, .int (bI u_7.2.2.1)])), (q0_taking_rows_byHead, .inl (cL, n0_taking_rows_byHead, .inr (.inl u_7.2.2.2)))]) hP hD hS hA [5, 6, 7, 3, 4] [0, 1, 2] [0, 1, 2, 6, 7, 3, 4, 5] rfl rfl (by decide) (by decide) (fun _ => rfl) (by decide) (va_runV (As := [.ref q0_base]) (rest := []) ⟨hx, hb, hml, hown, hts⟩ (cm_X5_begin l D cI cL (q0 := q0_taking) (q0_rows := q0_taking_rows) (q0_rows_byHead := q0_taking_rows_byHead) (q1 := q0_base) (q1_byHead := q0_base_byHead) (n0_rows_byHead := n0_taking_rows_byHead) (n1_byHead := n0_base_byHead) (f0_taken := f0_taking_taken) (f0_ones := f0_taking_ones) (f0_rows_n := f0_taking_rows_n) (f0_rows_impossible := f0_taking_rows_impossible) (h0_rows_byHead := h0_taking_rows_byHead) (f1_n := f0_base_n) (f1_impossible := u_3.2.2.1) (h1_byHead := u_3.2.2.2) (v0_n := .int f0_taking_n) (r0 := u_7) (hr0 := hu_8) (sz := H.size)) (cwV 1 hts gX7_solution_X5_begin rfl rfl rfl (by decide +kernel) ⟨Nat.le_of_ble_eq_true rfl, Nat.le_of_ble_eq_true rfl⟩) (kx_preV hEV hP hD [5, 6, 7, 3, 4] rfl (by decide) (k0 := 5) (ci := 5) rfl rfl rfl) rfl rfl hl.1 rfl (lv_room (Nat.le_of_ble_eq_true rfl)) dX7_solution_27 ⟨Nat.le_of_ble_eq_true rfl, Nat.le_of_ble_eq_true rfl⟩) (fun _ H locs _ hP hD hS => ?_)
      refine lv_aload_n hx hb dX7_solution_30 rfl (lv_at hl 0 rfl) ?_
      refine va_get (D := D) (ci := 7) (v := .ref q0_taking) (C := RX7) (T := TX7) (N := 14) hx hb hts in_X7_solution_X7 hown hK hP 0 rfl rfl 7 (by decide) lk_1 (fun _ h9 => h9) rfl dX7_solution_31 ?_
      refine lv_lload_n hx hb dX7_solution_34 rfl (lv_at hl 1 rfl) ?_
      refine lv_aload_n hx hb dX7_solution_35 rfl (lv_at hl 0 rfl) ?_
      refine va_get (D := D) (ci := 7) (v := .int f0_n) (C := RX7) (T := TX7) (N := 14) hx hb hts in_X7_solution_X7 hown hK hP 0 rfl rfl 0 (by decide) lk_3 (fun _ h9 => h9) rfl dX7_solution_36 ?_
      refine lv_aload_n hx hb dX7_solution_39 rfl (lv_at hl 0 rfl) ?_
      refine va_get (D := D) (ci := 7) (v := .ref q0_base) (C := RX7) (T := TX7) (N := 14) hx hb hts in_X7_solution_X7 hown hK hP 0 rfl rfl 4 (by decide) lk_2 (fun _ h9 => h9) rfl dX7_solution_40 ?_
      obtain ⟨u_9, hu_10, h⟩ := co_b h
      refine kx_i (ws' := fun _ => [(q0, .inr (7, [.int f0_n, v0_variables, .ref q0_store, v0_tape, .ref q0_base, v0_blamed, v0_gateList, .ref q0_taking, v0_search, .int (bI u_3.2.1), v0_gatesFresh, v0_latestFault, v0_latestNodes, v0_latestModel])), (q0_store, .inr (4, [.ref q0_store_equations, v0_store_yes, v0_store_no, .int f0_store_equationCount, v0_store_clauseCount, v0_store_equationsBefore, v0_store_clausesBefore, v0_store_levelCount])), (q0_store_equations, .inl (cL, n0_store_equations, .inr (.inl h0_store_equations))), (q0_base, .inr (2, [.int f0_base_n, .ref q0_base_byHead, .int (bI u_3.2.2.1)])), (q0_base_byHead, .inl (cL, n0_base_byHead, .inr (.inl u_3.2.2.2))), (q0_taking, .inr (5, [.int f0_taking_n, .ref q0_taking_rows, .long u_7.1, .long u_7.2.1])), (q0_taking_rows, .inr (2, [.int f0_taking_rows_n, .ref q0_taking_rows_byHead, .int (bI u_7.2.2.1)])), (q0_taking_rows_byHead, .inl (cL, n0_taking_rows_byHead, .inr (.inl u_7.2.2.2)))]) hP hD hS hA [3, 4] [0, 1, 2, 5, 6, 7] [0, 1, 2, 6, 7, 3, 4, 5] rfl rfl (by decide) (by decide) (fun _ => rfl) (by decide) (va_runV (As := []) (rest := [.int f0_n, .long x1, .ref q0_taking]) ⟨hx, hb, hml, hown, hts⟩ (cm_X2_size l D cI cL (q0 := q0_base) (q0_byHead := q0_base_byHead) (n0_byHead := n0_base_byHead) (f0_n := f0_base_n) (h0_byHead := u_3.2.2.2) (v0_impossible := .int (bI u_3.2.2.1)) (r0 := u_9) (hr0 := hu_10) (sz := H.size)) (cwV 0 hts gX7_solution_X2_size rfl rfl rfl (by decide +kernel) ⟨Nat.le_of_ble_eq_true rfl, Nat.le_of_ble_eq_true rfl⟩) (kx_preV hEV hP hD [3, 4] rfl (by decide) (k0 := 3) (ci := 2) rfl rfl rfl) rfl rfl hl.1 rfl (lv_room (Nat.le_of_ble_eq_true rfl)) dX7_solution_43 ⟨Nat.le_of_ble_eq_true rfl, Nat.le_of_ble_eq_true rfl⟩) (fun _ H locs _ hP hD hS => ?_)
      refine lv_isub hx hb dX7_solution_46 ?_
      obtain ⟨u_11, hu_12, h⟩ := co_b h
      refine kx_l (ws' := fun _ => [(q0, .inr (7, [.int f0_n, v0_variables, .ref q0_store, v0_tape, .ref q0_base, v0_blamed, v0_gateList, .ref q0_taking, v0_search, .int (bI u_3.2.1), v0_gatesFresh, v0_latestFault, v0_latestNodes, v0_latestModel])), (q0_store, .inr (4, [.ref q0_store_equations, v0_store_yes, v0_store_no, .int f0_store_equationCount, v0_store_clauseCount, v0_store_equationsBefore, v0_store_clausesBefore, v0_store_levelCount])), (q0_store_equations, .inl (cL, n0_store_equations, .inr (.inl h0_store_equations))), (q0_base, .inr (2, [.int f0_base_n, .ref q0_base_byHead, .int (bI u_3.2.2.1)])), (q0_base_byHead, .inl (cL, n0_base_byHead, .inr (.inl u_3.2.2.2))), (q0_taking, .inr (5, [.int f0_taking_n, .ref q0_taking_rows, .long u_11.2.1, .long u_11.2.2.1])), (q0_taking_rows, .inr (2, [.int f0_taking_rows_n, .ref q0_taking_rows_byHead, .int (bI u_11.2.2.2.1)])), (q0_taking_rows_byHead, .inl (cL, n0_taking_rows_byHead, .inr (.inl u_11.2.2.2.2)))]) hP hD hS hA [5, 6, 7] [0, 1, 2, 3, 4] [0, 1, 2, 3, 4, 5, 6, 7] rfl rfl (by decide) (by decide) (fun _ => rfl) (by decide) (va_runV (As := [.long x1, .int (f0_n - u_9)]) (rest := []) ⟨hx, hb, hml, hown, hts⟩ (cm_X5_takeByNumber l D cI cL (q0 := q0_taking) (q0_rows := q0_taking_rows) (q0_rows_byHead := q0_taking_rows_byHead) (n0_rows_byHead := n0_taking_rows_byHead) (f0_n := f0_taking_n) (f0_taken := u_7.1) (f0_ones := u_7.2.1) (f0_rows_n := f0_taking_rows_n) (f0_rows_impossible := u_7.2.2.1) (h0_rows_byHead := u_7.2.2.2) (x1 := x1) (x3 := f0_n - u_9) (r0 := u_11) (hr0 := hu_12) (sz := H.size)) (cwV 2 hts gX7_solution_X5_takeByNumber rfl rfl rfl (by decide +kernel) ⟨Nat.le_of_ble_eq_true rfl, Nat.le_of_ble_eq_true rfl⟩) (kx_preV hEV hP hD [5, 6, 7] rfl (by decide) (k0 := 5) (ci := 5) rfl rfl rfl) rfl rfl hl.1 rfl (lv_room (Nat.le_of_ble_eq_true rfl)) dX7_solution_47 ⟨Nat.le_of_ble_eq_true rfl, Nat.le_of_ble_eq_true rfl⟩) (fun _ H locs _ hP hD hS => ?_)
      have h := Option.some.inj h
      subst h
      subst hQ
      exact W.lret (v := u_11.1) hx hb hr (fun t ht hW => ⟨⟨u_11.1, (), rfl, ⟨rfl, trivial⟩, by rw [ht]; exact hP, hD⟩, hS.F ht⟩) hS.2.2 dX7_solution_50
    · have k_6 : ¬ (x1 < u_3.1) := (fun z9 => c_5 ((lg_cmp_lt _ _).mpr z9))
      have h := co_f k_6 h
      refine lv_ldc2 hx hb hown lk_0 dX7_solution_15 ?_
      have h := Option.some.inj h
      subst h
      subst hQ
      exact W.lret (v := (-1 : Int64)) hx hb hr (fun t ht hW => ⟨⟨(-1 : Int64), (), rfl, ⟨rfl, trivial⟩, by rw [ht]; exact hP, hD⟩, hS.F ht⟩) hS.2.2 dX7_solution_18
abbrev rm_X7_areNodes : Room := { frames := 0, cells := 0, slots := 0, locals := 0 }
set_option maxHeartbeats 4000000 in
set_option maxRecDepth 100000 in
theorem cm_X7_areNodes (l : Launch) (D : va_G) (cI cL : ClassId) (q0 : Nat) (x1 : Int32) (r0 : Bool) (hr0 : D_X7_areNodes x1 = some r0) (sz : Nat) : Met l yX7_areNodes wsX7_areNodes rm_X7_areNodes (PcW D cI cL [.ref q0, .int x1] [] sz) (QiW D [] (bI r0) (fun _ : Unit => []) tU sz) 0 0 (va_A [] sz) := by
  refine Met.ofW (cc := cX7_areNodes) (maxL := 2) (ret := (some .boolean)) (by decide) rfl ?_
  intro p e s m args below meth c s₁ B hml hv
  obtain ⟨hargs, hsz, hP, hEV, hD0⟩ := hv
  have hx := B.exec
  have hb := B.bytes
  have hr := B.returns
  have hts := atoms_spec (ws := wsX7_areNodes) B.pre
  have hown : s.vm.findClass RX7 = some m.cls := findClass_of_methodNamed B.named
  have hlocks := B.notSynchronized
  have hK := hEV.K
  subst hsz
  unfold QiW PoW
  have hD := hD0.self (sz := s.heap.size)
  generalize hAe : va_A [] s.heap.size = A at hD ⊢
  have hA : ∀ q : Nat, s.heap.size ≤ q → A q := fun q h => by rw [← hAe]; exact Or.inr h
  have hent : entryFrame m args 2 = entryFrame m ([.ref q0, .int x1] : List Value).toArray 2 := by rw [hargs]
  rw [hent]
  refine kx_Q (fun Q hQ => ?_)
  refine kx_H (fun H hH => ?_)
  have hP : va_P D vwCl [] H := by rw [hH]; exact hP
  have hS : va_S A s.heap H [] := by rw [hH]; exact va_S.rf
  have hl := lv_entry ([.ref q0, .int x1]) (n := 2) (Nat.le_of_ble_eq_true rfl)
  rw [lg_entry_eq]
  generalize (lg_sl ([.ref q0, .int x1]) ++ List.replicate (2 - (lg_sl ([.ref q0, .int x1])).length) Slot.unset).toArray = ls at hl ⊢
  have hl : lv_has ls 2 [(0, .ref q0), (1, .int x1)] := hl
  have h := hr0
  unfold D_X7_areNodes at h
  refine lv_iload_n hx hb dX7_areNodes_0 rfl (lv_at hl 1 rfl) ?_
  refine lv_iconst (v := (1 : Int32)) hx hb dX7_areNodes_1 (by decide) ?_
  refine lv_icmp_lt (tgt := 16) hx hb dX7_areNodes_2 (by decide) (fun c_1 => ?_) (fun c_1 => ?_)
  · have k_2 : x1 < (1 : Int32) := c_1
    have h := co_t k_2 h
    refine lv_iconst (v := (0 : Int32)) hx hb dX7_areNodes_16 (by decide) ?_
    have h := Option.some.inj h
    subst h
    subst hQ
    exact W.zret (v := bI false) hx hb hr (bI_n false) (fun t ht hW => ⟨⟨bI false, (), rfl, ⟨rfl, trivial⟩, by rw [ht]; exact hP, hD⟩, hS.F ht⟩) hS.2.2 dX7_areNodes_17
  · have k_2 : ¬ (x1 < (1 : Int32)) := c_1
    have h := co_f k_2 h
    refine lv_iload_n hx hb dX7_areNodes_5 rfl (lv_at hl 1 rfl) ?_
    refine lv_sipush (v := (5000 : Int32)) hx hb dX7_areNodes_6 (by decide) ?_
    refine lv_icmp_gt (tgt := 16) hx hb dX7_areNodes_9 (by decide) (fun c_3 => ?_) (fun c_3 => ?_)
    · have k_4 : (5000 : Int32) < x1 := c_3
      have h := co_t k_4 h
      refine lv_iconst (v := (0 : Int32)) hx hb dX7_areNodes_16 (by decide) ?_
      have h := Option.some.inj h
      subst h
      subst hQ
      exact W.zret (v := bI false) hx hb hr (bI_n false) (fun t ht hW => ⟨⟨bI false, (), rfl, ⟨rfl, trivial⟩, by rw [ht]; exact hP, hD⟩, hS.F ht⟩) hS.2.2 dX7_areNodes_17
    · have k_4 : ¬ ((5000 : Int32) < x1) := c_3
      have h := co_f k_4 h
      refine lv_iconst (v := (1 : Int32)) hx hb dX7_areNodes_12 (by decide) ?_
      refine lv_goto (tgt := 17) hx hb dX7_areNodes_13 (by decide) ?_
      have h := Option.some.inj h
      subst h
      subst hQ
      exact W.zret (v := bI true) hx hb hr (bI_n true) (fun t ht hW => ⟨⟨bI true, (), rfl, ⟨rfl, trivial⟩, by rw [ht]; exact hP, hD⟩, hS.F ht⟩) hS.2.2 dX7_areNodes_17
theorem in_X7_model_X7 : ∀ w ∈ wsX70, w ∈ wsX7_model := by decide +kernel
theorem lk_0_X7_model : Cond.fieldLink RX7 79 "ParityClauses" "latestModel" "J" ∈ wsX7_model := by decide +kernel
abbrev rm_X7_model : Room := { frames := 0, cells := 0, slots := 0, locals := 0 }
set_option maxHeartbeats 4000000 in
set_option maxRecDepth 100000 in
theorem cm_X7_model (l : Launch) (D : va_G) (cI cL : ClassId) (q0 : Nat) (f0_latestModel : Int64) (v0_n v0_variables v0_store v0_tape v0_base v0_blamed v0_gateList v0_taking v0_search v0_rowsFresh v0_gatesFresh v0_latestFault v0_latestNodes : Value) (r0 : Int64) (hr0 : D_X7_model f0_latestModel = some r0) (sz : Nat) : Met l yX7_model wsX7_model rm_X7_model (PcW D cI cL [.ref q0] [(q0, .inr (7, [v0_n, v0_variables, v0_store, v0_tape, v0_base, v0_blamed, v0_gateList, v0_taking, v0_search, v0_rowsFresh, v0_gatesFresh, v0_latestFault, v0_latestNodes, .long f0_latestModel]))] sz) (QlW D [(q0, .inr (7, [v0_n, v0_variables, v0_store, v0_tape, v0_base, v0_blamed, v0_gateList, v0_taking, v0_search, v0_rowsFresh, v0_gatesFresh, v0_latestFault, v0_latestNodes, .long f0_latestModel]))] r0 (fun _ : Unit => [(q0, .inr (7, [v0_n, v0_variables, v0_store, v0_tape, v0_base, v0_blamed, v0_gateList, v0_taking, v0_search, v0_rowsFresh, v0_gatesFresh, v0_latestFault, v0_latestNodes, .long f0_latestModel]))]) tU sz) 0 0 (va_A [(q0, .inr (7, [v0_n, v0_variables, v0_store, v0_tape, v0_base, v0_blamed, v0_gateList, v0_taking, v0_search, v0_rowsFresh, v0_gatesFresh, v0_latestFault, v0_latestNodes, .long f0_latestModel]))] sz) := by
  refine Met.ofW (cc := cX7_model) (maxL := 1) (ret := (some .long)) (by decide) rfl ?_
  intro p e s m args below meth c s₁ B hml hv
  obtain ⟨hargs, hsz, hP, hEV, hD0⟩ := hv
  have hx := B.exec
  have hb := B.bytes
  have hr := B.returns
  have hts := atoms_spec (ws := wsX7_model) B.pre
  have hown : s.vm.findClass RX7 = some m.cls := findClass_of_methodNamed B.named
  have hlocks := B.notSynchronized
  have hK := hEV.K
  have lk_0 := hts _ lk_0_X7_model
  subst hsz
  unfold QlW PoW
  have hD := hD0.self (sz := s.heap.size)
  generalize hAe : va_A [(q0, .inr (7, [v0_n, v0_variables, v0_store, v0_tape, v0_base, v0_blamed, v0_gateList, v0_taking, v0_search, v0_rowsFresh, v0_gatesFresh, v0_latestFault, v0_latestNodes, .long f0_latestModel]))] s.heap.size = A at hD ⊢
  have hA : ∀ q : Nat, s.heap.size ≤ q → A q := fun q h => by rw [← hAe]; exact Or.inr h
  have hent : entryFrame m args 1 = entryFrame m ([.ref q0] : List Value).toArray 1 := by rw [hargs]
  rw [hent]
  refine kx_Q (fun Q hQ => ?_)
  refine kx_H (fun H hH => ?_)
  have hP : va_P D vwCl [(q0, .inr (7, [v0_n, v0_variables, v0_store, v0_tape, v0_base, v0_blamed, v0_gateList, v0_taking, v0_search, v0_rowsFresh, v0_gatesFresh, v0_latestFault, v0_latestNodes, .long f0_latestModel]))] H := by rw [hH]; exact hP
  have hS : va_S A s.heap H [] := by rw [hH]; exact va_S.rf
  have hl := lv_entry ([.ref q0]) (n := 1) (Nat.le_of_ble_eq_true rfl)
  rw [lg_entry_eq]
  generalize (lg_sl ([.ref q0]) ++ List.replicate (1 - (lg_sl ([.ref q0])).length) Slot.unset).toArray = ls at hl ⊢
  have hl : lv_has ls 1 [(0, .ref q0)] := hl
  have h := hr0
  unfold D_X7_model at h
  refine lv_aload_n hx hb dX7_model_0 rfl (lv_at hl 0 rfl) ?_
  refine va_get (D := D) (ci := 7) (v := .long f0_latestModel) (C := RX7) (T := TX7) (N := 14) hx hb hts in_X7_model_X7 hown hK hP 0 rfl rfl 13 (by decide) lk_0 (fun _ h9 => h9) rfl dX7_model_1 ?_
  have h := Option.some.inj h
  subst h
  subst hQ
  exact W.lret (v := f0_latestModel) hx hb hr (fun t ht hW => ⟨⟨f0_latestModel, (), rfl, ⟨rfl, trivial⟩, by rw [ht]; exact hP, hD⟩, hS.F ht⟩) hS.2.2 dX7_model_4
theorem in_X7_nodes_X7 : ∀ w ∈ wsX70, w ∈ wsX7_nodes := by decide +kernel
theorem lk_0_X7_nodes : Cond.fieldLink RX7 248 "ParityClauses" "latestNodes" "I" ∈ wsX7_nodes := by decide +kernel
abbrev rm_X7_nodes : Room := { frames := 0, cells := 0, slots := 0, locals := 0 }
set_option maxHeartbeats 4000000 in
set_option maxRecDepth 100000 in
theorem cm_X7_nodes (l : Launch) (D : va_G) (cI cL : ClassId) (q0 : Nat) (f0_latestNodes : Int32) (v0_n v0_variables v0_store v0_tape v0_base v0_blamed v0_gateList v0_taking v0_search v0_rowsFresh v0_gatesFresh v0_latestFault v0_latestModel : Value) (r0 : Int32) (hr0 : D_X7_nodes f0_latestNodes = some r0) (sz : Nat) : Met l yX7_nodes wsX7_nodes rm_X7_nodes (PcW D cI cL [.ref q0] [(q0, .inr (7, [v0_n, v0_variables, v0_store, v0_tape, v0_base, v0_blamed, v0_gateList, v0_taking, v0_search, v0_rowsFresh, v0_gatesFresh, v0_latestFault, .int f0_latestNodes, v0_latestModel]))] sz) (QiW D [(q0, .inr (7, [v0_n, v0_variables, v0_store, v0_tape, v0_base, v0_blamed, v0_gateList, v0_taking, v0_search, v0_rowsFresh, v0_gatesFresh, v0_latestFault, .int f0_latestNodes, v0_latestModel]))] r0 (fun _ : Unit => [(q0, .inr (7, [v0_n, v0_variables, v0_store, v0_tape, v0_base, v0_blamed, v0_gateList, v0_taking, v0_search, v0_rowsFresh, v0_gatesFresh, v0_latestFault, .int f0_latestNodes, v0_latestModel]))]) tU sz) 0 0 (va_A [(q0, .inr (7, [v0_n, v0_variables, v0_store, v0_tape, v0_base, v0_blamed, v0_gateList, v0_taking, v0_search, v0_rowsFresh, v0_gatesFresh, v0_latestFault, .int f0_latestNodes, v0_latestModel]))] sz) := by
  refine Met.ofW (cc := cX7_nodes) (maxL := 1) (ret := (some .int)) (by decide) rfl ?_
  intro p e s m args below meth c s₁ B hml hv
  obtain ⟨hargs, hsz, hP, hEV, hD0⟩ := hv
  have hx := B.exec
  have hb := B.bytes
  have hr := B.returns
  have hts := atoms_spec (ws := wsX7_nodes) B.pre
  have hown : s.vm.findClass RX7 = some m.cls := findClass_of_methodNamed B.named
  have hlocks := B.notSynchronized
  have hK := hEV.K
  have lk_0 := hts _ lk_0_X7_nodes
  subst hsz
  unfold QiW PoW
  have hD := hD0.self (sz := s.heap.size)
  generalize hAe : va_A [(q0, .inr (7, [v0_n, v0_variables, v0_store, v0_tape, v0_base, v0_blamed, v0_gateList, v0_taking, v0_search, v0_rowsFresh, v0_gatesFresh, v0_latestFault, .int f0_latestNodes, v0_latestModel]))] s.heap.size = A at hD ⊢
  have hA : ∀ q : Nat, s.heap.size ≤ q → A q := fun q h => by rw [← hAe]; exact Or.inr h
  have hent : entryFrame m args 1 = entryFrame m ([.ref q0] : List Value).toArray 1 := by rw [hargs]
  rw [hent]
  refine kx_Q (fun Q hQ => ?_)
  refine kx_H (fun H hH => ?_)
  have hP : va_P D vwCl [(q0, .inr (7, [v0_n, v0_variables, v0_store, v0_tape, v0_base, v0_blamed, v0_gateList, v0_taking, v0_search, v0_rowsFresh, v0_gatesFresh, v0_latestFault, .int f0_latestNodes, v0_latestModel]))] H := by rw [hH]; exact hP
  have hS : va_S A s.heap H [] := by rw [hH]; exact va_S.rf
  have hl := lv_entry ([.ref q0]) (n := 1) (Nat.le_of_ble_eq_true rfl)
  rw [lg_entry_eq]
  generalize (lg_sl ([.ref q0]) ++ List.replicate (1 - (lg_sl ([.ref q0])).length) Slot.unset).toArray = ls at hl ⊢
  have hl : lv_has ls 1 [(0, .ref q0)] := hl
  have h := hr0
  unfold D_X7_nodes at h
  refine lv_aload_n hx hb dX7_nodes_0 rfl (lv_at hl 0 rfl) ?_
  refine va_get (D := D) (ci := 7) (v := .int f0_latestNodes) (C := RX7) (T := TX7) (N := 14) hx hb hts in_X7_nodes_X7 hown hK hP 0 rfl rfl 12 (by decide) lk_0 (fun _ h9 => h9) rfl dX7_nodes_1 ?_
  have h := Option.some.inj h
  subst h
  subst hQ
  exact W.iret (v := f0_latestNodes) hx hb hr (fun t ht hW => ⟨⟨f0_latestNodes, (), rfl, ⟨rfl, trivial⟩, by rw [ht]; exact hP, hD⟩, hS.F ht⟩) hS.2.2 dX7_nodes_4
theorem in_X7_freshenGates_X7 : ∀ w ∈ wsX70, w ∈ wsX7_freshenGates := by decide +kernel
theorem lk_0_X7_freshenGates : Cond.fieldLink RX7 286 "ParityClauses" "gatesFresh" "Z" ∈ wsX7_freshenGates := by decide +kernel
theorem lk_1_X7_freshenGates : Cond.fieldLink RX7 59 "ParityClauses" "gateList" "LParityClauses$GateList;" ∈ wsX7_freshenGates := by decide +kernel
theorem lk_2_X7_freshenGates : Cond.fieldLink RX7 29 "ParityClauses" "store" "LParityClauses$Store;" ∈ wsX7_freshenGates := by decide +kernel
abbrev rm_X7_freshenGates : Room := { frames := 3, cells := 0, slots := 0, locals := 78 }
set_option maxHeartbeats 4000000 in
set_option maxRecDepth 100000 in
theorem cm_X7_freshenGates (l : Launch) (D : va_G) (cI cL : ClassId) (q0 q0_store q0_store_yes q0_store_no q0_gateList q0_gateList_found : Nat) (n0_store_yes n0_store_no n0_gateList_found : Nat) (f0_gatesFresh : Bool) (f0_store_clauseCount : Int32) (h0_store_yes : Nat → Int64) (h0_store_no : Nat → Int64) (f0_gateList_size : Int32) (h0_gateList_found : Nat → Int64) (v0_n v0_variables v0_tape v0_base v0_blamed v0_taking v0_search v0_rowsFresh v0_latestFault v0_latestNodes v0_latestModel v0_store_equations v0_store_equationCount v0_store_equationsBefore v0_store_clausesBefore v0_store_levelCount : Value) (r0 : Bool × Int32 × (Nat → Int64)) (hr0 : D_X7_freshenGates f0_gatesFresh f0_store_clauseCount n0_store_yes h0_store_yes n0_store_no h0_store_no f0_gateList_size n0_gateList_found h0_gateList_found = some r0) (sz : Nat) : Met l yX7_freshenGates wsX7_freshenGates rm_X7_freshenGates (PcW D cI cL [.ref q0] [(q0, .inr (7, [v0_n, v0_variables, .ref q0_store, v0_tape, v0_base, v0_blamed, .ref q0_gateList, v0_taking, v0_search, v0_rowsFresh, .int (bI f0_gatesFresh), v0_latestFault, v0_latestNodes, v0_latestModel])), (q0_store, .inr (4, [v0_store_equations, .ref q0_store_yes, .ref q0_store_no, v0_store_equationCount, .int f0_store_clauseCount, v0_store_equationsBefore, v0_store_clausesBefore, v0_store_levelCount])), (q0_store_yes, .inl (cL, n0_store_yes, .inr (.inl h0_store_yes))), (q0_store_no, .inl (cL, n0_store_no, .inr (.inl h0_store_no))), (q0_gateList, .inr (1, [.ref q0_gateList_found, .int f0_gateList_size])), (q0_gateList_found, .inl (cL, n0_gateList_found, .inr (.inl h0_gateList_found)))] sz) (QvW D [(q0, .inr (7, [v0_n, v0_variables, .ref q0_store, v0_tape, v0_base, v0_blamed, .ref q0_gateList, v0_taking, v0_search, v0_rowsFresh, .int (bI f0_gatesFresh), v0_latestFault, v0_latestNodes, v0_latestModel])), (q0_store, .inr (4, [v0_store_equations, .ref q0_store_yes, .ref q0_store_no, v0_store_equationCount, .int f0_store_clauseCount, v0_store_equationsBefore, v0_store_clausesBefore, v0_store_levelCount])), (q0_store_yes, .inl (cL, n0_store_yes, .inr (.inl h0_store_yes))), (q0_store_no, .inl (cL, n0_store_no, .inr (.inl h0_store_no))), (q0_gateList, .inr (1, [.ref q0_gateList_found, .int f0_gateList_size])), (q0_gateList_found, .inl (cL, n0_gateList_found, .inr (.inl h0_gateList_found)))] (fun _ : Unit => [(q0, .inr (7, [v0_n, v0_variables, .ref q0_store, v0_tape, v0_base, v0_blamed, .ref q0_gateList, v0_taking, v0_search, v0_rowsFresh, .int (bI r0.1), v0_latestFault, v0_latestNodes, v0_latestModel])), (q0_store, .inr (4, [v0_store_equations, .ref q0_store_yes, .ref q0_store_no, v0_store_equationCount, .int f0_store_clauseCount, v0_store_equationsBefore, v0_store_clausesBefore, v0_store_levelCount])), (q0_store_yes, .inl (cL, n0_store_yes, .inr (.inl h0_store_yes))), (q0_store_no, .inl (cL, n0_store_no, .inr (.inl h0_store_no))), (q0_gateList, .inr (1, [.ref q0_gateList_found, .int r0.2.1])), (q0_gateList_found, .inl (cL, n0_gateList_found, .inr (.inl r0.2.2)))]) tU sz) 0 0 (va_A [(q0, .inr (7, [v0_n, v0_variables, .ref q0_store, v0_tape, v0_base, v0_blamed, .ref q0_gateList, v0_taking, v0_search, v0_rowsFresh, .int (bI f0_gatesFresh), v0_latestFault, v0_latestNodes, v0_latestModel])), (q0_store, .inr (4, [v0_store_equations, .ref q0_store_yes, .ref q0_store_no, v0_store_equationCount, .int f0_store_clauseCount, v0_store_equationsBefore, v0_store_clausesBefore, v0_store_levelCount])), (q0_store_yes, .inl (cL, n0_store_yes, .inr (.inl h0_store_yes))), (q0_store_no, .inl (cL, n0_store_no, .inr (.inl h0_store_no))), (q0_gateList, .inr (1, [.ref q0_gateList_found, .int f0_gateList_size])), (q0_gateList_found, .inl (cL, n0_gateList_found, .inr (.inl h0_gateList_found)))] sz) := by
  refine Met.ofW (cc := cX7_freshenGates) (maxL := 1) (ret := none) (by decide) rfl ?_
  intro p e s m args below meth c s₁ B hml hv
  obtain ⟨hargs, hsz, hP, hEV, hD0⟩ := hv
  have hx := B.exec
  have hb := B.bytes
  have hr := B.returns
  have hts := atoms_spec (ws := wsX7_freshenGates) B.pre
  have hown : s.vm.findClass RX7 = some m.cls := findClass_of_methodNamed B.named
  have hlocks := B.notSynchronized
  have hK := hEV.K
  have lk_0 := hts _ lk_0_X7_freshenGates
  have lk_1 := hts _ lk_1_X7_freshenGates
  have lk_2 := hts _ lk_2_X7_freshenGates
  subst hsz
  unfold QvW PoW
  have hD := hD0.self (sz := s.heap.size)
  generalize hAe : va_A [(q0, .inr (7, [v0_n, v0_variables, .ref q0_store, v0_tape, v0_base, v0_blamed, .ref q0_gateList, v0_taking, v0_search, v0_rowsFresh, .int (bI f0_gatesFresh), v0_latestFault, v0_latestNodes, v0_latestModel])), (q0_store, .inr (4, [v0_store_equations, .ref q0_store_yes, .ref q0_store_no, v0_store_equationCount, .int f0_store_clauseCount, v0_store_equationsBefore, v0_store_clausesBefore, v0_store_levelCount])), (q0_store_yes, .inl (cL, n0_store_yes, .inr (.inl h0_store_yes))), (q0_store_no, .inl (cL, n0_store_no, .inr (.inl h0_store_no))), (q0_gateList, .inr (1, [.ref q0_gateList_found, .int f0_gateList_size])), (q0_gateList_found, .inl (cL, n0_gateList_found, .inr (.inl h0_gateList_found)))] s.heap.size = A at hD ⊢
  have hA : ∀ q : Nat, s.heap.size ≤ q → A q := fun q h => by rw [← hAe]; exact Or.inr h
  have hent : entryFrame m args 1 = entryFrame m ([.ref q0] : List Value).toArray 1 := by rw [hargs]
  rw [hent]
  refine kx_Q (fun Q hQ => ?_)
  refine kx_H (fun H hH => ?_)
  have hP : va_P D vwCl [(q0, .inr (7, [v0_n, v0_variables, .ref q0_store, v0_tape, v0_base, v0_blamed, .ref q0_gateList, v0_taking, v0_search, v0_rowsFresh, .int (bI f0_gatesFresh), v0_latestFault, v0_latestNodes, v0_latestModel])), (q0_store, .inr (4, [v0_store_equations, .ref q0_store_yes, .ref q0_store_no, v0_store_equationCount, .int f0_store_clauseCount, v0_store_equationsBefore, v0_store_clausesBefore, v0_store_levelCount])), (q0_store_yes, .inl (cL, n0_store_yes, .inr (.inl h0_store_yes))), (q0_store_no, .inl (cL, n0_store_no, .inr (.inl h0_store_no))), (q0_gateList, .inr (1, [.ref q0_gateList_found, .int f0_gateList_size])), (q0_gateList_found, .inl (cL, n0_gateList_found, .inr (.inl h0_gateList_found)))] H := by rw [hH]; exact hP
  have hS : va_S A s.heap H [] := by rw [hH]; exact va_S.rf
  have hl := lv_entry ([.ref q0]) (n := 1) (Nat.le_of_ble_eq_true rfl)
  rw [lg_entry_eq]
  generalize (lg_sl ([.ref q0]) ++ List.replicate (1 - (lg_sl ([.ref q0])).length) Slot.unset).toArray = ls at hl ⊢
  have hl : lv_has ls 1 [(0, .ref q0)] := hl
  have h := hr0
  unfold D_X7_freshenGates at h
  refine lv_aload_n hx hb dX7_freshenGates_0 rfl (lv_at hl 0 rfl) ?_
  refine va_get (D := D) (ci := 7) (v := .int (bI f0_gatesFresh)) (C := RX7) (T := TX7) (N := 14) hx hb hts in_X7_freshenGates_X7 hown hK hP 0 rfl rfl 10 (by decide) lk_0 (fun _ h9 => h9) rfl dX7_freshenGates_1 ?_
  refine lv_if_ne (tgt := 23) hx hb dX7_freshenGates_4 (by decide) (fun c_1 => ?_) (fun c_1 => ?_)
  · have k_2 : f0_gatesFresh = true := (kx_nz c_1)
    have h := co_t k_2 h
    have h := Option.some.inj h
    subst h
    subst hQ
    exact W.vret hx hb hr (fun t ht hW => ⟨⟨(), rfl, trivial, by rw [ht]; exact hP, hD⟩, hS.F ht⟩) hS.2.2 dX7_freshenGates_23
  · have k_2 : ¬ (f0_gatesFresh = true) := (kx_z c_1)
    have h := co_f k_2 h
    refine lv_aload_n hx hb dX7_freshenGates_7 rfl (lv_at hl 0 rfl) ?_
    refine va_get (D := D) (ci := 7) (v := .ref q0_gateList) (C := RX7) (T := TX7) (N := 14) hx hb hts in_X7_freshenGates_X7 hown hK hP 0 rfl rfl 6 (by decide) lk_1 (fun _ h9 => h9) rfl dX7_freshenGates_8 ?_
    refine lv_aload_n hx hb dX7_freshenGates_11 rfl (lv_at hl 0 rfl) ?_
    refine va_get (D := D) (ci := 7) (v := .ref q0_store) (C := RX7) (T := TX7) (N := 14) hx hb hts in_X7_freshenGates_X7 hown hK hP 0 rfl rfl 2 (by decide) lk_2 (fun _ h9 => h9) rfl dX7_freshenGates_12 ?_
    obtain ⟨u_3, hu_4, h⟩ := co_b h
    refine kx_v (ws' := fun _ => [(q0, .inr (7, [v0_n, v0_variables, .ref q0_store, v0_tape, v0_base, v0_blamed, .ref q0_gateList, v0_taking, v0_search, v0_rowsFresh, .int (bI f0_gatesFresh), v0_latestFault, v0_latestNodes, v0_latestModel])), (q0_store, .inr (4, [v0_store_equations, .ref q0_store_yes, .ref q0_store_no, v0_store_equationCount, .int f0_store_clauseCount, v0_store_equationsBefore, v0_store_clausesBefore, v0_store_levelCount])), (q0_store_yes, .inl (cL, n0_store_yes, .inr (.inl h0_store_yes))), (q0_store_no, .inl (cL, n0_store_no, .inr (.inl h0_store_no))), (q0_gateList, .inr (1, [.ref q0_gateList_found, .int u_3.1])), (q0_gateList_found, .inl (cL, n0_gateList_found, .inr (.inl u_3.2)))]) hP hD hS hA [4, 5, 1, 2, 3] [0] [0, 3, 4, 5, 1, 2] rfl rfl (by decide) (by decide) (fun _ => rfl) (by decide) (va_runV (As := [.ref q0_store]) (rest := []) ⟨hx, hb, hml, hown, hts⟩ (cm_X1_build l D cI cL (q0 := q0_gateList) (q0_found := q0_gateList_found) (q1 := q0_store) (q1_yes := q0_store_yes) (q1_no := q0_store_no) (n0_found := n0_gateList_found) (n1_yes := n0_store_yes) (n1_no := n0_store_no) (f0_size := f0_gateList_size) (h0_found := h0_gateList_found) (f1_clauseCount := f0_store_clauseCount) (h1_yes := h0_store_yes) (h1_no := h0_store_no) (v1_equations := v0_store_equations) (v1_equationCount := v0_store_equationCount) (v1_equationsBefore := v0_store_equationsBefore) (v1_clausesBefore := v0_store_clausesBefore) (v1_levelCount := v0_store_levelCount) (r0 := u_3) (hr0 := hu_4) (sz := H.size)) (cwV 1 hts gX7_freshenGates_X1_build rfl rfl rfl (by decide +kernel) ⟨Nat.le_of_ble_eq_true rfl, Nat.le_of_ble_eq_true rfl⟩) (kx_preV hEV hP hD [4, 5, 1, 2, 3] rfl (by decide) (k0 := 4) (ci := 1) rfl rfl rfl) rfl rfl hl.1 rfl (lv_room (Nat.le_of_ble_eq_true rfl)) dX7_freshenGates_15 ⟨Nat.le_of_ble_eq_true rfl, Nat.le_of_ble_eq_true rfl⟩) (fun _ H locs _ hP hD hS => ?_)
    refine lv_aload_n hx hb dX7_freshenGates_18 rfl (lv_at hl 0 rfl) ?_
    refine lv_iconst (v := (1 : Int32)) hx hb dX7_freshenGates_19 (by decide) ?_
    refine va_put (D := D) (ci := 7) (v := .int (bI true)) (ty := .boolean) (C := RX7) (T := TX7) (N := 14) hx hb hts in_X7_freshenGates_X7 tyX7 tyX7_ok nmX7 hown hK hP hD hS 0 rfl rfl 10 (by decide) lk_0 (fun _ h9 => h9) rfl (by decide +kernel) (bI_n true) (bI_fit true) (Nat.le_of_ble_eq_true rfl) dX7_freshenGates_20 (fun H locs hP hD hS => ?_)
    have hP : va_P D vwCl [(q0, .inr (7, [v0_n, v0_variables, .ref q0_store, v0_tape, v0_base, v0_blamed, .ref q0_gateList, v0_taking, v0_search, v0_rowsFresh, .int (bI true), v0_latestFault, v0_latestNodes, v0_latestModel])), (q0_store, .inr (4, [v0_store_equations, .ref q0_store_yes, .ref q0_store_no, v0_store_equationCount, .int f0_store_clauseCount, v0_store_equationsBefore, v0_store_clausesBefore, v0_store_levelCount])), (q0_store_yes, .inl (cL, n0_store_yes, .inr (.inl h0_store_yes))), (q0_store_no, .inl (cL, n0_store_no, .inr (.inl h0_store_no))), (q0_gateList, .inr (1, [.ref q0_gateList_found, .int u_3.1])), (q0_gateList_found, .inl (cL, n0_gateList_found, .inr (.inl u_3.2)))] H := hP
    have hD : va_D A [(q0, .inr (7, [v0_n, v0_variables, .ref q0_store, v0_tape, v0_base, v0_blamed, .ref q0_gateList, v0_taking, v0_search, v0_rowsFresh, .int (bI true), v0_latestFault, v0_latestNodes, v0_latestModel])), (q0_store, .inr (4, [v0_store_equations, .ref q0_store_yes, .ref q0_store_no, v0_store_equationCount, .int f0_store_clauseCount, v0_store_equationsBefore, v0_store_clausesBefore, v0_store_levelCount])), (q0_store_yes, .inl (cL, n0_store_yes, .inr (.inl h0_store_yes))), (q0_store_no, .inl (cL, n0_store_no, .inr (.inl h0_store_no))), (q0_gateList, .inr (1, [.ref q0_gateList_found, .int u_3.1])), (q0_gateList_found, .inl (cL, n0_gateList_found, .inr (.inl u_3.2)))] := hD
    have h := Option.some.inj h
    subst h
    subst hQ
    exact W.vret hx hb hr (fun t ht hW => ⟨⟨(), rfl, trivial, by rw [ht]; exact hP, hD⟩, hS.F ht⟩) hS.2.2 dX7_freshenGates_23
theorem in_X7_gates_X1 : ∀ w ∈ wsX10, w ∈ wsX7_gates := by decide +kernel
theorem in_X7_gates_X7 : ∀ w ∈ wsX70, w ∈ wsX7_gates := by decide +kernel
theorem lk_0_X7_gates : Cond.fieldLink RX7 59 "ParityClauses" "gateList" "LParityClauses$GateList;" ∈ wsX7_gates := by decide +kernel
theorem lk_1_X7_gates : Cond.fieldLink RX7 274 "ParityClauses$GateList" "size" "I" ∈ wsX7_gates := by decide +kernel
abbrev rm_X7_gates : Room := { frames := 4, cells := 0, slots := 0, locals := 98 }
set_option maxHeartbeats 4000000 in
set_option maxRecDepth 100000 in
theorem cm_X7_gates (l : Launch) (D : va_G) (cI cL : ClassId) (q0 q0_store q0_store_yes q0_store_no q0_gateList q0_gateList_found : Nat) (n0_store_yes n0_store_no n0_gateList_found : Nat) (f0_gatesFresh : Bool) (f0_store_clauseCount : Int32) (h0_store_yes : Nat → Int64) (h0_store_no : Nat → Int64) (f0_gateList_size : Int32) (h0_gateList_found : Nat → Int64) (v0_n v0_variables v0_tape v0_base v0_blamed v0_taking v0_search v0_rowsFresh v0_latestFault v0_latestNodes v0_latestModel v0_store_equations v0_store_equationCount v0_store_equationsBefore v0_store_clausesBefore v0_store_levelCount : Value) (r0 : Int32 × Bool × Int32 × (Nat → Int64)) (hr0 : D_X7_gates f0_gatesFresh f0_store_clauseCount n0_store_yes h0_store_yes n0_store_no h0_store_no f0_gateList_size n0_gateList_found h0_gateList_found = some r0) (sz : Nat) : Met l yX7_gates wsX7_gates rm_X7_gates (PcW D cI cL [.ref q0] [(q0, .inr (7, [v0_n, v0_variables, .ref q0_store, v0_tape, v0_base, v0_blamed, .ref q0_gateList, v0_taking, v0_search, v0_rowsFresh, .int (bI f0_gatesFresh), v0_latestFault, v0_latestNodes, v0_latestModel])), (q0_store, .inr (4, [v0_store_equations, .ref q0_store_yes, .ref q0_store_no, v0_store_equationCount, .int f0_store_clauseCount, v0_store_equationsBefore, v0_store_clausesBefore, v0_store_levelCount])), (q0_store_yes, .inl (cL, n0_store_yes, .inr (.inl h0_store_yes))), (q0_store_no, .inl (cL, n0_store_no, .inr (.inl h0_store_no))), (q0_gateList, .inr (1, [.ref q0_gateList_found, .int f0_gateList_size])), (q0_gateList_found, .inl (cL, n0_gateList_found, .inr (.inl h0_gateList_found)))] sz) (QiW D [(q0, .inr (7, [v0_n, v0_variables, .ref q0_store, v0_tape, v0_base, v0_blamed, .ref q0_gateList, v0_taking, v0_search, v0_rowsFresh, .int (bI f0_gatesFresh), v0_latestFault, v0_latestNodes, v0_latestModel])), (q0_store, .inr (4, [v0_store_equations, .ref q0_store_yes, .ref q0_store_no, v0_store_equationCount, .int f0_store_clauseCount, v0_store_equationsBefore, v0_store_clausesBefore, v0_store_levelCount])), (q0_store_yes, .inl (cL, n0_store_yes, .inr (.inl h0_store_yes))), (q0_store_no, .inl (cL, n0_store_no, .inr (.inl h0_store_no))), (q0_gateList, .inr (1, [.ref q0_gateList_found, .int f0_gateList_size])), (q0_gateList_found, .inl (cL, n0_gateList_found, .inr (.inl h0_gateList_found)))] r0.1 (fun _ : Unit => [(q0, .inr (7, [v0_n, v0_variables, .ref q0_store, v0_tape, v0_base, v0_blamed, .ref q0_gateList, v0_taking, v0_search, v0_rowsFresh, .int (bI r0.2.1), v0_latestFault, v0_latestNodes, v0_latestModel])), (q0_store, .inr (4, [v0_store_equations, .ref q0_store_yes, .ref q0_store_no, v0_store_equationCount, .int f0_store_clauseCount, v0_store_equationsBefore, v0_store_clausesBefore, v0_store_levelCount])), (q0_store_yes, .inl (cL, n0_store_yes, .inr (.inl h0_store_yes))), (q0_store_no, .inl (cL, n0_store_no, .inr (.inl h0_store_no))), (q0_gateList, .inr (1, [.ref q0_gateList_found, .int r0.2.2.1])), (q0_gateList_found, .inl (cL, n0_gateList_found, .inr (.inl r0.2.2.2)))]) tU sz) 0 0 (va_A [(q0, .inr (7, [v0_n, v0_variables, .ref q0_store, v0_tape, v0_base, v0_blamed, .ref q0_gateList, v0_taking, v0_search, v0_rowsFresh, .int (bI f0_gatesFresh), v0_latestFault, v0_latestNodes, v0_latestModel])), (q0_store, .inr (4, [v0_store_equations, .ref q0_store_yes, .ref q0_store_no, v0_store_equationCount, .int f0_store_clauseCount, v0_store_equationsBefore, v0_store_clausesBefore, v0_store_levelCount])), (q0_store_yes, .inl (cL, n0_store_yes, .inr (.inl h0_store_yes))), (q0_store_no, .inl (cL, n0_store_no, .inr (.inl h0_store_no))), (q0_gateList, .inr (1, [.ref q0_gateList_found, .int f0_gateList_size])), (q0_gateList_found, .inl (cL, n0_gateList_found, .inr (.inl h0_gateList_found)))] sz) := by
  refine Met.ofW (cc := cX7_gates) (maxL := 1) (ret := (some .int)) (by decide) rfl ?_
  intro p e s m args below meth c s₁ B hml hv
  obtain ⟨hargs, hsz, hP, hEV, hD0⟩ := hv
  have hx := B.exec
  have hb := B.bytes
  have hr := B.returns
  have hts := atoms_spec (ws := wsX7_gates) B.pre
  have hown : s.vm.findClass RX7 = some m.cls := findClass_of_methodNamed B.named
  have hlocks := B.notSynchronized
  have hK := hEV.K
  have lk_0 := hts _ lk_0_X7_gates
  have lk_1 := hts _ lk_1_X7_gates
  subst hsz
  unfold QiW PoW
  have hD := hD0.self (sz := s.heap.size)
  generalize hAe : va_A [(q0, .inr (7, [v0_n, v0_variables, .ref q0_store, v0_tape, v0_base, v0_blamed, .ref q0_gateList, v0_taking, v0_search, v0_rowsFresh, .int (bI f0_gatesFresh), v0_latestFault, v0_latestNodes, v0_latestModel])), (q0_store, .inr (4, [v0_store_equations, .ref q0_store_yes, .ref q0_store_no, v0_store_equationCount, .int f0_store_clauseCount, v0_store_equationsBefore, v0_store_clausesBefore, v0_store_levelCount])), (q0_store_yes, .inl (cL, n0_store_yes, .inr (.inl h0_store_yes))), (q0_store_no, .inl (cL, n0_store_no, .inr (.inl h0_store_no))), (q0_gateList, .inr (1, [.ref q0_gateList_found, .int f0_gateList_size])), (q0_gateList_found, .inl (cL, n0_gateList_found, .inr (.inl h0_gateList_found)))] s.heap.size = A at hD ⊢
  have hA : ∀ q : Nat, s.heap.size ≤ q → A q := fun q h => by rw [← hAe]; exact Or.inr h
  have hent : entryFrame m args 1 = entryFrame m ([.ref q0] : List Value).toArray 1 := by rw [hargs]
  rw [hent]
  refine kx_Q (fun Q hQ => ?_)
  refine kx_H (fun H hH => ?_)
  have hP : va_P D vwCl [(q0, .inr (7, [v0_n, v0_variables, .ref q0_store, v0_tape, v0_base, v0_blamed, .ref q0_gateList, v0_taking, v0_search, v0_rowsFresh, .int (bI f0_gatesFresh), v0_latestFault, v0_latestNodes, v0_latestModel])), (q0_store, .inr (4, [v0_store_equations, .ref q0_store_yes, .ref q0_store_no, v0_store_equationCount, .int f0_store_clauseCount, v0_store_equationsBefore, v0_store_clausesBefore, v0_store_levelCount])), (q0_store_yes, .inl (cL, n0_store_yes, .inr (.inl h0_store_yes))), (q0_store_no, .inl (cL, n0_store_no, .inr (.inl h0_store_no))), (q0_gateList, .inr (1, [.ref q0_gateList_found, .int f0_gateList_size])), (q0_gateList_found, .inl (cL, n0_gateList_found, .inr (.inl h0_gateList_found)))] H := by rw [hH]; exact hP
  have hS : va_S A s.heap H [] := by rw [hH]; exact va_S.rf
  have hl := lv_entry ([.ref q0]) (n := 1) (Nat.le_of_ble_eq_true rfl)
  rw [lg_entry_eq]
  generalize (lg_sl ([.ref q0]) ++ List.replicate (1 - (lg_sl ([.ref q0])).length) Slot.unset).toArray = ls at hl ⊢
  have hl : lv_has ls 1 [(0, .ref q0)] := hl
  have h := hr0
  unfold D_X7_gates at h
  refine lv_aload_n hx hb dX7_gates_0 rfl (lv_at hl 0 rfl) ?_
  obtain ⟨u_1, hu_2, h⟩ := co_b h
  refine kx_v (ws' := fun _ => [(q0, .inr (7, [v0_n, v0_variables, .ref q0_store, v0_tape, v0_base, v0_blamed, .ref q0_gateList, v0_taking, v0_search, v0_rowsFresh, .int (bI u_1.1), v0_latestFault, v0_latestNodes, v0_latestModel])), (q0_store, .inr (4, [v0_store_equations, .ref q0_store_yes, .ref q0_store_no, v0_store_equationCount, .int f0_store_clauseCount, v0_store_equationsBefore, v0_store_clausesBefore, v0_store_levelCount])), (q0_store_yes, .inl (cL, n0_store_yes, .inr (.inl h0_store_yes))), (q0_store_no, .inl (cL, n0_store_no, .inr (.inl h0_store_no))), (q0_gateList, .inr (1, [.ref q0_gateList_found, .int u_1.2.1])), (q0_gateList_found, .inl (cL, n0_gateList_found, .inr (.inl u_1.2.2)))]) hP hD hS hA [0, 1, 2, 3, 4, 5] [] [0, 1, 2, 3, 4, 5] rfl rfl (by decide) (by decide) (fun _ => rfl) (by decide) (va_runV (As := []) (rest := []) ⟨hx, hb, hml, hown, hts⟩ (cm_X7_freshenGates l D cI cL (q0 := q0) (q0_store := q0_store) (q0_store_yes := q0_store_yes) (q0_store_no := q0_store_no) (q0_gateList := q0_gateList) (q0_gateList_found := q0_gateList_found) (n0_store_yes := n0_store_yes) (n0_store_no := n0_store_no) (n0_gateList_found := n0_gateList_found) (f0_gatesFresh := f0_gatesFresh) (f0_store_clauseCount := f0_store_clauseCount) (h0_store_yes := h0_store_yes) (h0_store_no := h0_store_no) (f0_gateList_size := f0_gateList_size) (h0_gateList_found := h0_gateList_found) (v0_n := v0_n) (v0_variables := v0_variables) (v0_tape := v0_tape) (v0_base := v0_base) (v0_blamed := v0_blamed) (v0_taking := v0_taking) (v0_search := v0_search) (v0_rowsFresh := v0_rowsFresh) (v0_latestFault := v0_latestFault) (v0_latestNodes := v0_latestNodes) (v0_latestModel := v0_latestModel) (v0_store_equations := v0_store_equations) (v0_store_equationCount := v0_store_equationCount) (v0_store_equationsBefore := v0_store_equationsBefore) (v0_store_clausesBefore := v0_store_clausesBefore) (v0_store_levelCount := v0_store_levelCount) (r0 := u_1) (hr0 := hu_2) (sz := H.size)) (cwV 0 hts gX7_gates_X7_freshenGates rfl rfl rfl (by decide +kernel) ⟨Nat.le_of_ble_eq_true rfl, Nat.le_of_ble_eq_true rfl⟩) (kx_preV hEV hP hD [0, 1, 2, 3, 4, 5] rfl (by decide) (k0 := 0) (ci := 7) rfl rfl rfl) rfl rfl hl.1 rfl (lv_room (Nat.le_of_ble_eq_true rfl)) dX7_gates_1 ⟨Nat.le_of_ble_eq_true rfl, Nat.le_of_ble_eq_true rfl⟩) (fun _ H locs _ hP hD hS => ?_)
  refine lv_aload_n hx hb dX7_gates_4 rfl (lv_at hl 0 rfl) ?_
  refine va_get (D := D) (ci := 7) (v := .ref q0_gateList) (C := RX7) (T := TX7) (N := 14) hx hb hts in_X7_gates_X7 hown hK hP 0 rfl rfl 6 (by decide) lk_0 (fun _ h9 => h9) rfl dX7_gates_5 ?_
  refine va_get (D := D) (ci := 1) (v := .int u_1.2.1) (C := RX1) (T := TX1) (N := 2) hx hb hts in_X7_gates_X1 hown hK hP 4 rfl rfl 1 (by decide) lk_1 (fun _ h9 => h9) rfl dX7_gates_8 ?_
  have h := Option.some.inj h
  subst h
  subst hQ
  exact W.iret (v := u_1.2.1) hx hb hr (fun t ht hW => ⟨⟨u_1.2.1, (), rfl, ⟨rfl, trivial⟩, by rw [ht]; exact hP, hD⟩, hS.F ht⟩) hS.2.2 dX7_gates_11
theorem in_X7_clear_X4 : ∀ w ∈ wsX40, w ∈ wsX7_clear := by decide +kernel
theorem in_X7_clear_X6 : ∀ w ∈ wsX60, w ∈ wsX7_clear := by decide +kernel
theorem in_X7_clear_X7 : ∀ w ∈ wsX70, w ∈ wsX7_clear := by decide +kernel
theorem lk_0_X7_clear : Cond.fieldLink RX7 29 "ParityClauses" "store" "LParityClauses$Store;" ∈ wsX7_clear := by decide +kernel
theorem lk_1_X7_clear : Cond.fieldLink RX7 147 "ParityClauses$Store" "levelCount" "I" ∈ wsX7_clear := by decide +kernel
theorem lk_2_X7_clear : Cond.fieldLink RX7 36 "ParityClauses" "tape" "LParityClauses$Tape;" ∈ wsX7_clear := by decide +kernel
theorem lk_3_X7_clear : Cond.fieldLink RX7 125 "ParityClauses$Tape" "length" "I" ∈ wsX7_clear := by decide +kernel
abbrev rm_X7_clear : Room := { frames := 1, cells := 0, slots := 0, locals := 22 }
set_option maxHeartbeats 4000000 in
set_option maxRecDepth 100000 in
theorem cm_X7_clear (l : Launch) (D : va_G) (cI cL : ClassId) (q0 q0_store q0_tape : Nat) (f0_rowsFresh : Bool) (f0_gatesFresh : Bool) (f0_store_equationCount : Int32) (f0_store_clauseCount : Int32) (f0_store_levelCount : Int32) (f0_tape_length : Int32) (v0_n v0_variables v0_base v0_blamed v0_gateList v0_taking v0_search v0_latestFault v0_latestNodes v0_latestModel v0_store_equations v0_store_yes v0_store_no v0_store_equationsBefore v0_store_clausesBefore v0_tape_bytes v0_tape_fault v0_tape_place v0_tape_isEquation v0_tape_first v0_tape_second v0_tape_rightIsOne : Value) (r0 : Bool × Bool × Int32 × Int32 × Int32 × Int32) (hr0 : D_X7_clear f0_rowsFresh f0_gatesFresh f0_store_equationCount f0_store_clauseCount f0_store_levelCount f0_tape_length = some r0) (sz : Nat) : Met l yX7_clear wsX7_clear rm_X7_clear (PcW D cI cL [.ref q0] [(q0, .inr (7, [v0_n, v0_variables, .ref q0_store, .ref q0_tape, v0_base, v0_blamed, v0_gateList, v0_taking, v0_search, .int (bI f0_rowsFresh), .int (bI f0_gatesFresh), v0_latestFault, v0_latestNodes, v0_latestModel])), (q0_store, .inr (4, [v0_store_equations, v0_store_yes, v0_store_no, .int f0_store_equationCount, .int f0_store_clauseCount, v0_store_equationsBefore, v0_store_clausesBefore, .int f0_store_levelCount])), (q0_tape, .inr (6, [v0_tape_bytes, .int f0_tape_length, v0_tape_fault, v0_tape_place, v0_tape_isEquation, v0_tape_first, v0_tape_second, v0_tape_rightIsOne]))] sz) (QvW D [(q0, .inr (7, [v0_n, v0_variables, .ref q0_store, .ref q0_tape, v0_base, v0_blamed, v0_gateList, v0_taking, v0_search, .int (bI f0_rowsFresh), .int (bI f0_gatesFresh), v0_latestFault, v0_latestNodes, v0_latestModel])), (q0_store, .inr (4, [v0_store_equations, v0_store_yes, v0_store_no, .int f0_store_equationCount, .int f0_store_clauseCount, v0_store_equationsBefore, v0_store_clausesBefore, .int f0_store_levelCount])), (q0_tape, .inr (6, [v0_tape_bytes, .int f0_tape_length, v0_tape_fault, v0_tape_place, v0_tape_isEquation, v0_tape_first, v0_tape_second, v0_tape_rightIsOne]))] (fun _ : Unit => [(q0, .inr (7, [v0_n, v0_variables, .ref q0_store, .ref q0_tape, v0_base, v0_blamed, v0_gateList, v0_taking, v0_search, .int (bI r0.1), .int (bI r0.2.1), v0_latestFault, v0_latestNodes, v0_latestModel])), (q0_store, .inr (4, [v0_store_equations, v0_store_yes, v0_store_no, .int r0.2.2.1, .int r0.2.2.2.1, v0_store_equationsBefore, v0_store_clausesBefore, .int r0.2.2.2.2.1])), (q0_tape, .inr (6, [v0_tape_bytes, .int r0.2.2.2.2.2, v0_tape_fault, v0_tape_place, v0_tape_isEquation, v0_tape_first, v0_tape_second, v0_tape_rightIsOne]))]) tU sz) 0 0 (va_A [(q0, .inr (7, [v0_n, v0_variables, .ref q0_store, .ref q0_tape, v0_base, v0_blamed, v0_gateList, v0_taking, v0_search, .int (bI f0_rowsFresh), .int (bI f0_gatesFresh), v0_latestFault, v0_latestNodes, v0_latestModel])), (q0_store, .inr (4, [v0_store_equations, v0_store_yes, v0_store_no, .int f0_store_equationCount, .int f0_store_clauseCount, v0_store_equationsBefore, v0_store_clausesBefore, .int f0_store_levelCount])), (q0_tape, .inr (6, [v0_tape_bytes, .int f0_tape_length, v0_tape_fault, v0_tape_place, v0_tape_isEquation, v0_tape_first, v0_tape_second, v0_tape_rightIsOne]))] sz) := by
  refine Met.ofW (cc := cX7_clear) (maxL := 1) (ret := none) (by decide) rfl ?_
  intro p e s m args below meth c s₁ B hml hv
  obtain ⟨hargs, hsz, hP, hEV, hD0⟩ := hv
  have hx := B.exec
  have hb := B.bytes
  have hr := B.returns
  have hts := atoms_spec (ws := wsX7_clear) B.pre
  have hown : s.vm.findClass RX7 = some m.cls := findClass_of_methodNamed B.named
  have hlocks := B.notSynchronized
  have hK := hEV.K
  have lk_0 := hts _ lk_0_X7_clear
  have lk_1 := hts _ lk_1_X7_clear
  have lk_2 := hts _ lk_2_X7_clear
  have lk_3 := hts _ lk_3_X7_clear
  subst hsz
  unfold QvW PoW
  have hD := hD0.self (sz := s.heap.size)
  generalize hAe : va_A [(q0, .inr (7, [v0_n, v0_variables, .ref q0_store, .ref q0_tape, v0_base, v0_blamed, v0_gateList, v0_taking, v0_search, .int (bI f0_rowsFresh), .int (bI f0_gatesFresh), v0_latestFault, v0_latestNodes, v0_latestModel])), (q0_store, .inr (4, [v0_store_equations, v0_store_yes, v0_store_no, .int f0_store_equationCount, .int f0_store_clauseCount, v0_store_equationsBefore, v0_store_clausesBefore, .int f0_store_levelCount])), (q0_tape, .inr (6, [v0_tape_bytes, .int f0_tape_length, v0_tape_fault, v0_tape_place, v0_tape_isEquation, v0_tape_first, v0_tape_second, v0_tape_rightIsOne]))] s.heap.size = A at hD ⊢
  have hA : ∀ q : Nat, s.heap.size ≤ q → A q := fun q h => by rw [← hAe]; exact Or.inr h
  have hent : entryFrame m args 1 = entryFrame m ([.ref q0] : List Value).toArray 1 := by rw [hargs]
  rw [hent]
  refine kx_Q (fun Q hQ => ?_)
  refine kx_H (fun H hH => ?_)
  have hP : va_P D vwCl [(q0, .inr (7, [v0_n, v0_variables, .ref q0_store, .ref q0_tape, v0_base, v0_blamed, v0_gateList, v0_taking, v0_search, .int (bI f0_rowsFresh), .int (bI f0_gatesFresh), v0_latestFault, v0_latestNodes, v0_latestModel])), (q0_store, .inr (4, [v0_store_equations, v0_store_yes, v0_store_no, .int f0_store_equationCount, .int f0_store_clauseCount, v0_store_equationsBefore, v0_store_clausesBefore, .int f0_store_levelCount])), (q0_tape, .inr (6, [v0_tape_bytes, .int f0_tape_length, v0_tape_fault, v0_tape_place, v0_tape_isEquation, v0_tape_first, v0_tape_second, v0_tape_rightIsOne]))] H := by rw [hH]; exact hP
  have hS : va_S A s.heap H [] := by rw [hH]; exact va_S.rf
  have hl := lv_entry ([.ref q0]) (n := 1) (Nat.le_of_ble_eq_true rfl)
  rw [lg_entry_eq]
  generalize (lg_sl ([.ref q0]) ++ List.replicate (1 - (lg_sl ([.ref q0])).length) Slot.unset).toArray = ls at hl ⊢
  have hl : lv_has ls 1 [(0, .ref q0)] := hl
  have h := hr0
  unfold D_X7_clear at h
  refine lv_aload_n hx hb dX7_clear_0 rfl (lv_at hl 0 rfl) ?_
  refine va_get (D := D) (ci := 7) (v := .ref q0_store) (C := RX7) (T := TX7) (N := 14) hx hb hts in_X7_clear_X7 hown hK hP 0 rfl rfl 2 (by decide) lk_0 (fun _ h9 => h9) rfl dX7_clear_1 ?_
  refine lv_iconst (v := (0 : Int32)) hx hb dX7_clear_4 (by decide) ?_
  refine lv_iconst (v := (0 : Int32)) hx hb dX7_clear_5 (by decide) ?_
  obtain ⟨u_1, hu_2, h⟩ := co_b h
  refine kx_v (ws' := fun _ => [(q0, .inr (7, [v0_n, v0_variables, .ref q0_store, .ref q0_tape, v0_base, v0_blamed, v0_gateList, v0_taking, v0_search, .int (bI f0_rowsFresh), .int (bI f0_gatesFresh), v0_latestFault, v0_latestNodes, v0_latestModel])), (q0_store, .inr (4, [v0_store_equations, v0_store_yes, v0_store_no, .int u_1.1, .int u_1.2, v0_store_equationsBefore, v0_store_clausesBefore, .int f0_store_levelCount])), (q0_tape, .inr (6, [v0_tape_bytes, .int f0_tape_length, v0_tape_fault, v0_tape_place, v0_tape_isEquation, v0_tape_first, v0_tape_second, v0_tape_rightIsOne]))]) hP hD hS hA [1] [0, 2] [0, 2, 1] rfl rfl (by decide) (by decide) (fun _ => rfl) (by decide) (va_runV (As := [.int (0 : Int32), .int (0 : Int32)]) (rest := []) ⟨hx, hb, hml, hown, hts⟩ (cm_X4_cutTo l D cI cL (q0 := q0_store) (f0_equationCount := f0_store_equationCount) (f0_clauseCount := f0_store_clauseCount) (v0_equations := v0_store_equations) (v0_yes := v0_store_yes) (v0_no := v0_store_no) (v0_equationsBefore := v0_store_equationsBefore) (v0_clausesBefore := v0_store_clausesBefore) (v0_levelCount := .int f0_store_levelCount) (x1 := (0 : Int32)) (x2 := (0 : Int32)) (r0 := u_1) (hr0 := hu_2) (sz := H.size)) (cwV 2 hts gX7_clear_X4_cutTo rfl rfl rfl (by decide +kernel) ⟨Nat.le_of_ble_eq_true rfl, Nat.le_of_ble_eq_true rfl⟩) (kx_preV hEV hP hD [1] rfl (by decide) (k0 := 1) (ci := 4) rfl rfl rfl) rfl rfl hl.1 rfl (lv_room (Nat.le_of_ble_eq_true rfl)) dX7_clear_6 ⟨Nat.le_of_ble_eq_true rfl, Nat.le_of_ble_eq_true rfl⟩) (fun _ H locs _ hP hD hS => ?_)
  refine lv_aload_n hx hb dX7_clear_9 rfl (lv_at hl 0 rfl) ?_
  refine va_get (D := D) (ci := 7) (v := .ref q0_store) (C := RX7) (T := TX7) (N := 14) hx hb hts in_X7_clear_X7 hown hK hP 0 rfl rfl 2 (by decide) lk_0 (fun _ h9 => h9) rfl dX7_clear_10 ?_
  refine lv_iconst (v := (0 : Int32)) hx hb dX7_clear_13 (by decide) ?_
  refine va_put (D := D) (ci := 4) (v := .int (0 : Int32)) (ty := .int) (C := RX4) (T := TX4) (N := 8) hx hb hts in_X7_clear_X4 tyX4 tyX4_ok nmX4 hown hK hP hD hS 1 rfl rfl 7 (by decide) lk_1 (fun _ h9 => h9) rfl (by decide +kernel) rfl rfl (Nat.le_of_ble_eq_true rfl) dX7_clear_14 (fun H locs hP hD hS => ?_)
  have hP : va_P D vwCl [(q0, .inr (7, [v0_n, v0_variables, .ref q0_store, .ref q0_tape, v0_base, v0_blamed, v0_gateList, v0_taking, v0_search, .int (bI f0_rowsFresh), .int (bI f0_gatesFresh), v0_latestFault, v0_latestNodes, v0_latestModel])), (q0_store, .inr (4, [v0_store_equations, v0_store_yes, v0_store_no, .int u_1.1, .int u_1.2, v0_store_equationsBefore, v0_store_clausesBefore, .int (0 : Int32)])), (q0_tape, .inr (6, [v0_tape_bytes, .int f0_tape_length, v0_tape_fault, v0_tape_place, v0_tape_isEquation, v0_tape_first, v0_tape_second, v0_tape_rightIsOne]))] H := hP
  have hD : va_D A [(q0, .inr (7, [v0_n, v0_variables, .ref q0_store, .ref q0_tape, v0_base, v0_blamed, v0_gateList, v0_taking, v0_search, .int (bI f0_rowsFresh), .int (bI f0_gatesFresh), v0_latestFault, v0_latestNodes, v0_latestModel])), (q0_store, .inr (4, [v0_store_equations, v0_store_yes, v0_store_no, .int u_1.1, .int u_1.2, v0_store_equationsBefore, v0_store_clausesBefore, .int (0 : Int32)])), (q0_tape, .inr (6, [v0_tape_bytes, .int f0_tape_length, v0_tape_fault, v0_tape_place, v0_tape_isEquation, v0_tape_first, v0_tape_second, v0_tape_rightIsOne]))] := hD
  refine lv_aload_n hx hb dX7_clear_17 rfl (lv_at hl 0 rfl) ?_
  refine va_get (D := D) (ci := 7) (v := .ref q0_tape) (C := RX7) (T := TX7) (N := 14) hx hb hts in_X7_clear_X7 hown hK hP 0 rfl rfl 3 (by decide) lk_2 (fun _ h9 => h9) rfl dX7_clear_18 ?_
  refine lv_iconst (v := (0 : Int32)) hx hb dX7_clear_21 (by decide) ?_
  refine va_put (D := D) (ci := 6) (v := .int (0 : Int32)) (ty := .int) (C := RX6) (T := TX6) (N := 8) hx hb hts in_X7_clear_X6 tyX6 tyX6_ok nmX6 hown hK hP hD hS 2 rfl rfl 1 (by decide) lk_3 (fun _ h9 => h9) rfl (by decide +kernel) rfl rfl (Nat.le_of_ble_eq_true rfl) dX7_clear_22 (fun H locs hP hD hS => ?_)
  have hP : va_P D vwCl [(q0, .inr (7, [v0_n, v0_variables, .ref q0_store, .ref q0_tape, v0_base, v0_blamed, v0_gateList, v0_taking, v0_search, .int (bI f0_rowsFresh), .int (bI f0_gatesFresh), v0_latestFault, v0_latestNodes, v0_latestModel])), (q0_store, .inr (4, [v0_store_equations, v0_store_yes, v0_store_no, .int u_1.1, .int u_1.2, v0_store_equationsBefore, v0_store_clausesBefore, .int (0 : Int32)])), (q0_tape, .inr (6, [v0_tape_bytes, .int (0 : Int32), v0_tape_fault, v0_tape_place, v0_tape_isEquation, v0_tape_first, v0_tape_second, v0_tape_rightIsOne]))] H := hP
  have hD : va_D A [(q0, .inr (7, [v0_n, v0_variables, .ref q0_store, .ref q0_tape, v0_base, v0_blamed, v0_gateList, v0_taking, v0_search, .int (bI f0_rowsFresh), .int (bI f0_gatesFresh), v0_latestFault, v0_latestNodes, v0_latestModel])), (q0_store, .inr (4, [v0_store_equations, v0_store_yes, v0_store_no, .int u_1.1, .int u_1.2, v0_store_equationsBefore, v0_store_clausesBefore, .int (0 : Int32)])), (q0_tape, .inr (6, [v0_tape_bytes, .int (0 : Int32), v0_tape_fault, v0_tape_place, v0_tape_isEquation, v0_tape_first, v0_tape_second, v0_tape_rightIsOne]))] := hD
  refine lv_aload_n hx hb dX7_clear_25 rfl (lv_at hl 0 rfl) ?_
  obtain ⟨u_3, hu_4, h⟩ := co_b h
  refine kx_v (ws' := fun _ => [(q0, .inr (7, [v0_n, v0_variables, .ref q0_store, .ref q0_tape, v0_base, v0_blamed, v0_gateList, v0_taking, v0_search, .int (bI u_3.1), .int (bI u_3.2), v0_latestFault, v0_latestNodes, v0_latestModel])), (q0_store, .inr (4, [v0_store_equations, v0_store_yes, v0_store_no, .int u_1.1, .int u_1.2, v0_store_equationsBefore, v0_store_clausesBefore, .int (0 : Int32)])), (q0_tape, .inr (6, [v0_tape_bytes, .int (0 : Int32), v0_tape_fault, v0_tape_place, v0_tape_isEquation, v0_tape_first, v0_tape_second, v0_tape_rightIsOne]))]) hP hD hS hA [0] [1, 2] [2, 0, 1] rfl rfl (by decide) (by decide) (fun _ => rfl) (by decide) (va_runV (As := []) (rest := []) ⟨hx, hb, hml, hown, hts⟩ (cm_X7_forget l D cI cL (q0 := q0) (f0_rowsFresh := f0_rowsFresh) (f0_gatesFresh := f0_gatesFresh) (v0_n := v0_n) (v0_variables := v0_variables) (v0_store := .ref q0_store) (v0_tape := .ref q0_tape) (v0_base := v0_base) (v0_blamed := v0_blamed) (v0_gateList := v0_gateList) (v0_taking := v0_taking) (v0_search := v0_search) (v0_latestFault := v0_latestFault) (v0_latestNodes := v0_latestNodes) (v0_latestModel := v0_latestModel) (r0 := u_3) (hr0 := hu_4) (sz := H.size)) (cwV 0 hts gX7_clear_X7_forget rfl rfl rfl (by decide +kernel) ⟨Nat.le_of_ble_eq_true rfl, Nat.le_of_ble_eq_true rfl⟩) (kx_preV hEV hP hD [0] rfl (by decide) (k0 := 0) (ci := 7) rfl rfl rfl) rfl rfl hl.1 rfl (lv_room (Nat.le_of_ble_eq_true rfl)) dX7_clear_26 ⟨Nat.le_of_ble_eq_true rfl, Nat.le_of_ble_eq_true rfl⟩) (fun _ H locs _ hP hD hS => ?_)
  have h := Option.some.inj h
  subst h
  subst hQ
  exact W.vret hx hb hr (fun t ht hW => ⟨⟨(), rfl, trivial, by rw [ht]; exact hP, hD⟩, hS.F ht⟩) hS.2.2 dX7_clear_29
