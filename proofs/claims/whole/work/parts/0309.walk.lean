noncomputable def D_X7_areVariables (f0_variables : Int64) (x1 : Int64) : Option (Bool) :=
  cif ((x1 &&& (f0_variables ^^^ (-1 : Int64))) = (0 : Int64))
    (some true)
    (some false)
theorem in_X7_areVariables_X7 : ∀ w ∈ wsX70, w ∈ wsX7_areVariables := by decide +kernel
theorem lk_0_X7_areVariables : Cond.fieldLink RX7 22 "ParityClauses" "variables" "J" ∈ wsX7_areVariables := by decide +kernel
theorem lk_1_X7_areVariables : Cond.constantLong RX7 77 (-1) ∈ wsX7_areVariables := by decide +kernel
abbrev rm_X7_areVariables : Room := { frames := 0, cells := 0, slots := 0, locals := 0 }
set_option maxHeartbeats 4000000 in
set_option maxRecDepth 100000 in
theorem cm_X7_areVariables (l : Launch) (D : va_G) (cI cL : ClassId) (q0 : Nat) (f0_variables : Int64) (v0_n v0_store v0_tape v0_base v0_blamed v0_gateList v0_taking v0_search v0_rowsFresh v0_gatesFresh v0_latestFault v0_latestNodes v0_latestModel : Value) (x1 : Int64) (r0 : Bool) (h0 : D_X7_areVariables f0_variables x1 = some r0) (sz : Nat) : Met l yX7_areVariables wsX7_areVariables rm_X7_areVariables (PcW D cI cL [.ref q0, .long x1] [(q0, .inr (7, [v0_n, .long f0_variables, v0_store, v0_tape, v0_base, v0_blamed, v0_gateList, v0_taking, v0_search, v0_rowsFresh, v0_gatesFresh, v0_latestFault, v0_latestNodes, v0_latestModel]))] sz) (QiW D [(q0, .inr (7, [v0_n, .long f0_variables, v0_store, v0_tape, v0_base, v0_blamed, v0_gateList, v0_taking, v0_search, v0_rowsFresh, v0_gatesFresh, v0_latestFault, v0_latestNodes, v0_latestModel]))] (bI r0) (fun _ : Unit => [(q0, .inr (7, [v0_n, .long f0_variables, v0_store, v0_tape, v0_base, v0_blamed, v0_gateList, v0_taking, v0_search, v0_rowsFresh, v0_gatesFresh, v0_latestFault, v0_latestNodes, v0_latestModel]))]) tU sz) 0 0 (va_A [(q0, .inr (7, [v0_n, .long f0_variables, v0_store, v0_tape, v0_base, v0_blamed, v0_gateList, v0_taking, v0_search, v0_rowsFresh, v0_gatesFresh, v0_latestFault, v0_latestNodes, v0_latestModel]))] sz) := by
  refine Met.ofW (cc := cX7_areVariables) (maxL := 3) (ret := (some .boolean)) (by decide) rfl ?_
  intro p e s m args below meth c s₁ B hml hv
  obtain ⟨hargs, hsz, hP, hEV, hD0⟩ := hv
  have hx := B.exec
  have hb := B.bytes
  have hr := B.returns
  have hts := atoms_spec (ws := wsX7_areVariables) B.pre
  have hown : s.vm.findClass RX7 = some m.cls := findClass_of_methodNamed B.named
  have hlocks := B.notSynchronized
  have hK := hEV.K
  have lk_0 := hts _ lk_0_X7_areVariables
  have lk_1 := hts _ lk_1_X7_areVariables
  subst hsz
  unfold QiW PoW
  have hD := hD0.self (sz := s.heap.size)
  generalize hAe : va_A [(q0, .inr (7, [v0_n, .long f0_variables, v0_store, v0_tape, v0_base, v0_blamed, v0_gateList, v0_taking, v0_search, v0_rowsFresh, v0_gatesFresh, v0_latestFault, v0_latestNodes, v0_latestModel]))] s.heap.size = A at hD ⊢
  have hA : ∀ q : Nat, s.heap.size ≤ q → A q := fun q h => by rw [← hAe]; exact Or.inr h
  have hS : va_S A s.heap s.heap [] := va_S.rf
  have hent : entryFrame m args 3 = entryFrame m ([.ref q0, .long x1] : List Value).toArray 3 := by rw [hargs]
  rw [hent]
  refine kx_Q (fun Q hQ => ?_)
  have hl := lv_entry ([.ref q0, .long x1]) (n := 3) (Nat.le_of_ble_eq_true rfl)
  rw [lg_entry_eq]
  generalize (lg_sl ([.ref q0, .long x1]) ++ List.replicate (3 - (lg_sl ([.ref q0, .long x1])).length) Slot.unset).toArray = ls at hl ⊢
  have hl : lv_has ls 3 [(0, .ref q0), (1, .long x1)] := hl
  have h := h0
  unfold D_X7_areVariables at h
  refine lv_lload_n hx hb dX7_areVariables_0 rfl (lv_at hl 1 rfl) ?_
  refine lv_aload_n hx hb dX7_areVariables_1 rfl (lv_at hl 0 rfl) ?_
  refine va_get (D := D) (ci := 7) (v := .long f0_variables) (C := RX7) (T := TX7) (N := 14) hx hb hts in_X7_areVariables_X7 hown hK hP 0 rfl rfl 1 (by decide) lk_0 (fun _ h9 => h9) rfl dX7_areVariables_2 ?_
  refine lv_ldc2 hx hb hown lk_1 dX7_areVariables_5 ?_
  refine lv_lxor hx hb dX7_areVariables_8 ?_
  refine lv_land hx hb dX7_areVariables_9 ?_
  refine lv_lconst (v := (0 : Int64)) hx hb dX7_areVariables_10 (by decide) ?_
  refine W.lcmp hx hb dX7_areVariables_11 ?_
  refine lv_if_ne (tgt := 19) hx hb dX7_areVariables_12 (by decide) (fun c_1 => ?_) (fun c_1 => ?_)
  · have k_2 : ¬ ((x1 &&& (f0_variables ^^^ (-1 : Int64))) = (0 : Int64)) := (fun z9 => c_1 ((lg_cmp_eq _ _).mpr z9))
    have h := co_f k_2 h
    refine lv_iconst (v := (0 : Int32)) hx hb dX7_areVariables_19 (by decide) ?_
    have h := Option.some.inj h
    subst h
    subst hQ
    exact W.zret (v := bI false) hx hb hr (bI_n false) (fun t ht hW => ⟨⟨bI false, (), rfl, ⟨rfl, trivial⟩, by rw [ht]; exact hP, hD⟩, hS.F ht⟩) hS.2.2 dX7_areVariables_20
  · have k_2 : (x1 &&& (f0_variables ^^^ (-1 : Int64))) = (0 : Int64) := ((lg_cmp_eq _ _).mp c_1)
    have h := co_t k_2 h
    refine lv_iconst (v := (1 : Int32)) hx hb dX7_areVariables_15 (by decide) ?_
    refine lv_goto (tgt := 20) hx hb dX7_areVariables_16 (by decide) ?_
    have h := Option.some.inj h
    subst h
    subst hQ
    exact W.zret (v := bI true) hx hb hr (bI_n true) (fun t ht hW => ⟨⟨bI true, (), rfl, ⟨rfl, trivial⟩, by rw [ht]; exact hP, hD⟩, hS.F ht⟩) hS.2.2 dX7_areVariables_20
noncomputable def D_X7_areTwoSets (f0_variables : Int64) (x1 : Int64) (x3 : Int64) : Option (Bool) :=
  Option.bind (D_X7_areVariables f0_variables (x1 ||| x3)) (fun u_1 =>
    cif (u_1 = true)
      (cif ((x1 &&& x3) = (0 : Int64))
        (some true)
        (some false))
      (some false))
abbrev rm_X7_areTwoSets : Room := { frames := 1, cells := 0, slots := 0, locals := 22 }
set_option maxHeartbeats 4000000 in
set_option maxRecDepth 100000 in
theorem cm_X7_areTwoSets (l : Launch) (D : va_G) (cI cL : ClassId) (q0 : Nat) (f0_variables : Int64) (v0_n v0_store v0_tape v0_base v0_blamed v0_gateList v0_taking v0_search v0_rowsFresh v0_gatesFresh v0_latestFault v0_latestNodes v0_latestModel : Value) (x1 : Int64) (x3 : Int64) (r0 : Bool) (h0 : D_X7_areTwoSets f0_variables x1 x3 = some r0) (sz : Nat) : Met l yX7_areTwoSets wsX7_areTwoSets rm_X7_areTwoSets (PcW D cI cL [.ref q0, .long x1, .long x3] [(q0, .inr (7, [v0_n, .long f0_variables, v0_store, v0_tape, v0_base, v0_blamed, v0_gateList, v0_taking, v0_search, v0_rowsFresh, v0_gatesFresh, v0_latestFault, v0_latestNodes, v0_latestModel]))] sz) (QiW D [(q0, .inr (7, [v0_n, .long f0_variables, v0_store, v0_tape, v0_base, v0_blamed, v0_gateList, v0_taking, v0_search, v0_rowsFresh, v0_gatesFresh, v0_latestFault, v0_latestNodes, v0_latestModel]))] (bI r0) (fun _ : Unit => [(q0, .inr (7, [v0_n, .long f0_variables, v0_store, v0_tape, v0_base, v0_blamed, v0_gateList, v0_taking, v0_search, v0_rowsFresh, v0_gatesFresh, v0_latestFault, v0_latestNodes, v0_latestModel]))]) tU sz) 0 0 (va_A [(q0, .inr (7, [v0_n, .long f0_variables, v0_store, v0_tape, v0_base, v0_blamed, v0_gateList, v0_taking, v0_search, v0_rowsFresh, v0_gatesFresh, v0_latestFault, v0_latestNodes, v0_latestModel]))] sz) := by
  refine Met.ofW (cc := cX7_areTwoSets) (maxL := 5) (ret := (some .boolean)) (by decide) rfl ?_
  intro p e s m args below meth c s₁ B hml hv
  obtain ⟨hargs, hsz, hP, hEV, hD0⟩ := hv
  have hx := B.exec
  have hb := B.bytes
  have hr := B.returns
  have hts := atoms_spec (ws := wsX7_areTwoSets) B.pre
  have hown : s.vm.findClass RX7 = some m.cls := findClass_of_methodNamed B.named
  have hlocks := B.notSynchronized
  have hK := hEV.K
  subst hsz
  unfold QiW PoW
  have hD := hD0.self (sz := s.heap.size)
  generalize hAe : va_A [(q0, .inr (7, [v0_n, .long f0_variables, v0_store, v0_tape, v0_base, v0_blamed, v0_gateList, v0_taking, v0_search, v0_rowsFresh, v0_gatesFresh, v0_latestFault, v0_latestNodes, v0_latestModel]))] s.heap.size = A at hD ⊢
  have hA : ∀ q : Nat, s.heap.size ≤ q → A q := fun q h => by rw [← hAe]; exact Or.inr h
  have hS : va_S A s.heap s.heap [] := va_S.rf
  have hent : entryFrame m args 5 = entryFrame m ([.ref q0, .long x1, .long x3] : List Value).toArray 5 := by rw [hargs]
  rw [hent]
  refine kx_Q (fun Q hQ => ?_)
  have hl := lv_entry ([.ref q0, .long x1, .long x3]) (n := 5) (Nat.le_of_ble_eq_true rfl)
  rw [lg_entry_eq]
  generalize (lg_sl ([.ref q0, .long x1, .long x3]) ++ List.replicate (5 - (lg_sl ([.ref q0, .long x1, .long x3])).length) Slot.unset).toArray = ls at hl ⊢
  have hl : lv_has ls 5 [(0, .ref q0), (1, .long x1), (3, .long x3)] := hl
  have h := h0
  unfold D_X7_areTwoSets at h
  refine lv_aload_n hx hb dX7_areTwoSets_0 rfl (lv_at hl 0 rfl) ?_
  refine lv_lload_n hx hb dX7_areTwoSets_1 rfl (lv_at hl 1 rfl) ?_
  refine lv_lload_n hx hb dX7_areTwoSets_2 rfl (lv_at hl 2 rfl) ?_
  refine lv_lor hx hb dX7_areTwoSets_3 ?_
  obtain ⟨u_1, hu_2, h⟩ := co_b h
  refine kx_i (ws' := fun _ => [(q0, .inr (7, [v0_n, .long f0_variables, v0_store, v0_tape, v0_base, v0_blamed, v0_gateList, v0_taking, v0_search, v0_rowsFresh, v0_gatesFresh, v0_latestFault, v0_latestNodes, v0_latestModel]))]) hP hD hS hA [0] [] [0] rfl (by decide) (by decide) (by decide) (fun _ => rfl) (by decide) (va_runV (As := [.long (x1 ||| x3)]) (rest := []) ⟨hx, hb, hml, hown, hts⟩ (cm_X7_areVariables l D cI cL (q0 := q0) (f0_variables := f0_variables) (v0_n := v0_n) (v0_store := v0_store) (v0_tape := v0_tape) (v0_base := v0_base) (v0_blamed := v0_blamed) (v0_gateList := v0_gateList) (v0_taking := v0_taking) (v0_search := v0_search) (v0_rowsFresh := v0_rowsFresh) (v0_gatesFresh := v0_gatesFresh) (v0_latestFault := v0_latestFault) (v0_latestNodes := v0_latestNodes) (v0_latestModel := v0_latestModel) (x1 := x1 ||| x3) (r0 := u_1) (h0 := hu_2) (sz := H.size)) (cwV 1 hts gX7_areTwoSets_X7_areVariables rfl rfl rfl (by decide +kernel) ⟨Nat.le_of_ble_eq_true rfl, Nat.le_of_ble_eq_true rfl⟩) (kx_preV hEV hP hD [0] rfl (by decide) (k0 := 0) (ci := 7) rfl rfl rfl) rfl rfl hl.1 rfl (lv_room (Nat.le_of_ble_eq_true rfl)) dX7_areTwoSets_4 ⟨Nat.le_refl _, Nat.le_refl _⟩) (fun _ H locs _ hP hD hS => ?_)
  refine lv_if_eq (tgt := 22) hx hb dX7_areTwoSets_7 (by decide) (fun c_3 => ?_) (fun c_3 => ?_)
  · have k_4 : ¬ (u_1 = true) := (kx_z c_3)
    have h := co_f k_4 h
    refine lv_iconst (v := (0 : Int32)) hx hb dX7_areTwoSets_22 (by decide) ?_
    have h := Option.some.inj h
    subst h
    subst hQ
    exact W.zret (v := bI false) hx hb hr (bI_n false) (fun t ht hW => ⟨⟨bI false, (), rfl, ⟨rfl, trivial⟩, by rw [ht]; exact hP, hD⟩, hS.F ht⟩) hS.2.2 dX7_areTwoSets_23
  · have k_4 : u_1 = true := (kx_nz c_3)
    have h := co_t k_4 h
    refine lv_lload_n hx hb dX7_areTwoSets_10 rfl (lv_at hl 1 rfl) ?_
    refine lv_lload_n hx hb dX7_areTwoSets_11 rfl (lv_at hl 2 rfl) ?_
    refine lv_land hx hb dX7_areTwoSets_12 ?_
    refine lv_lconst (v := (0 : Int64)) hx hb dX7_areTwoSets_13 (by decide) ?_
    refine W.lcmp hx hb dX7_areTwoSets_14 ?_
    refine lv_if_ne (tgt := 22) hx hb dX7_areTwoSets_15 (by decide) (fun c_5 => ?_) (fun c_5 => ?_)
    · have k_6 : ¬ ((x1 &&& x3) = (0 : Int64)) := (fun z9 => c_5 ((lg_cmp_eq _ _).mpr z9))
      have h := co_f k_6 h
      refine lv_iconst (v := (0 : Int32)) hx hb dX7_areTwoSets_22 (by decide) ?_
      have h := Option.some.inj h
      subst h
      subst hQ
      exact W.zret (v := bI false) hx hb hr (bI_n false) (fun t ht hW => ⟨⟨bI false, (), rfl, ⟨rfl, trivial⟩, by rw [ht]; exact hP, hD⟩, hS.F ht⟩) hS.2.2 dX7_areTwoSets_23
    · have k_6 : (x1 &&& x3) = (0 : Int64) := ((lg_cmp_eq _ _).mp c_5)
      have h := co_t k_6 h
      refine lv_iconst (v := (1 : Int32)) hx hb dX7_areTwoSets_18 (by decide) ?_
      refine lv_goto (tgt := 23) hx hb dX7_areTwoSets_19 (by decide) ?_
      have h := Option.some.inj h
      subst h
      subst hQ
      exact W.zret (v := bI true) hx hb hr (bI_n true) (fun t ht hW => ⟨⟨bI true, (), rfl, ⟨rfl, trivial⟩, by rw [ht]; exact hP, hD⟩, hS.F ht⟩) hS.2.2 dX7_areTwoSets_23
noncomputable def D_X7_areNodes (x1 : Int32) : Option (Bool) :=
  cif (x1 < (1 : Int32))
    (some false)
    (cif ((5000 : Int32) < x1)
      (some false)
      (some true))
abbrev rm_X7_areNodes : Room := { frames := 0, cells := 0, slots := 0, locals := 0 }
set_option maxHeartbeats 4000000 in
set_option maxRecDepth 100000 in
theorem cm_X7_areNodes (l : Launch) (D : va_G) (cI cL : ClassId) (x1 : Int32) (r0 : Bool) (h0 : D_X7_areNodes x1 = some r0) (sz : Nat) : Met l yX7_areNodes wsX7_areNodes rm_X7_areNodes (PcW D cI cL [.ref q0, .int x1] [] sz) (QiW D [] (bI r0) (fun _ : Unit => []) tU sz) 0 0 (va_A [] sz) := by
  refine Met.ofW (cc := cX7_areNodes) (maxL := 2) (ret := (some .boolean)) (by decide) rfl ?_
  intro p e s m args below meth c s₁ B hml hv
  obtain ⟨hargs, hsz, hP, hEV, hD0⟩ := hv
  have hx := B.exec
  have hb := B.bytes
  have hr := B.returns
  have hts := atoms_spec (ws := wsX7_areNodes) B.pre
  have hown : s.vm.findClass RX7 = some m.cls := findClass_of_methodNamed B.named
  have hlocks := B.notSynchronized
  have hK := hEV.K
  subst hsz
  unfold QiW PoW
  have hD := hD0.self (sz := s.heap.size)
  generalize hAe : va_A [] s.heap.size = A at hD ⊢
  have hA : ∀ q : Nat, s.heap.size ≤ q → A q := fun q h => by rw [← hAe]; exact Or.inr h
  have hS : va_S A s.heap s.heap [] := va_S.rf
  have hent : entryFrame m args 2 = entryFrame m ([.ref q0, .int x1] : List Value).toArray 2 := by rw [hargs]
  rw [hent]
  refine kx_Q (fun Q hQ => ?_)
  have hl := lv_entry ([.ref q0, .int x1]) (n := 2) (Nat.le_of_ble_eq_true rfl)
  rw [lg_entry_eq]
  generalize (lg_sl ([.ref q0, .int x1]) ++ List.replicate (2 - (lg_sl ([.ref q0, .int x1])).length) Slot.unset).toArray = ls at hl ⊢
  have hl : lv_has ls 2 [(0, .ref q0), (1, .int x1)] := hl
  have h := h0
  unfold D_X7_areNodes at h
  refine lv_iload_n hx hb dX7_areNodes_0 rfl (lv_at hl 1 rfl) ?_
  refine lv_iconst (v := (1 : Int32)) hx hb dX7_areNodes_1 (by decide) ?_
  refine lv_icmp_lt (tgt := 16) hx hb dX7_areNodes_2 (by decide) (fun c_1 => ?_) (fun c_1 => ?_)
  · have k_2 : x1 < (1 : Int32) := c_1
    have h := co_t k_2 h
    refine lv_iconst (v := (0 : Int32)) hx hb dX7_areNodes_16 (by decide) ?_
    have h := Option.some.inj h
    subst h
    subst hQ
    exact W.zret (v := bI false) hx hb hr (bI_n false) (fun t ht hW => ⟨⟨bI false, (), rfl, ⟨rfl, trivial⟩, by rw [ht]; exact hP, hD⟩, hS.F ht⟩) hS.2.2 dX7_areNodes_17
  · have k_2 : ¬ (x1 < (1 : Int32)) := c_1
    have h := co_f k_2 h
    refine lv_iload_n hx hb dX7_areNodes_5 rfl (lv_at hl 1 rfl) ?_
    refine lv_sipush (v := (5000 : Int32)) hx hb dX7_areNodes_6 (by decide) ?_
    refine lv_icmp_gt (tgt := 16) hx hb dX7_areNodes_9 (by decide) (fun c_3 => ?_) (fun c_3 => ?_)
    · have k_4 : (5000 : Int32) < x1 := c_3
      have h := co_t k_4 h
      refine lv_iconst (v := (0 : Int32)) hx hb dX7_areNodes_16 (by decide) ?_
      have h := Option.some.inj h
      subst h
      subst hQ
      exact W.zret (v := bI false) hx hb hr (bI_n false) (fun t ht hW => ⟨⟨bI false, (), rfl, ⟨rfl, trivial⟩, by rw [ht]; exact hP, hD⟩, hS.F ht⟩) hS.2.2 dX7_areNodes_17
    · have k_4 : ¬ ((5000 : Int32) < x1) := c_3
      have h := co_f k_4 h
      refine lv_iconst (v := (1 : Int32)) hx hb dX7_areNodes_12 (by decide) ?_
      refine lv_goto (tgt := 17) hx hb dX7_areNodes_13 (by decide) ?_
      have h := Option.some.inj h
      subst h
      subst hQ
      exact W.zret (v := bI true) hx hb hr (bI_n true) (fun t ht hW => ⟨⟨bI true, (), rfl, ⟨rfl, trivial⟩, by rw [ht]; exact hP, hD⟩, hS.F ht⟩) hS.2.2 dX7_areNodes_17
noncomputable def D_X7_modelsWith (f0_latestNodes : Int32) (f0_store_clauseCount : Int32) (n0_store_yes : Nat) (h0_store_yes : Nat → Int64) (n0_store_no : Nat) (h0_store_no : Nat → Int64) (f0_base_n : Int32) (f0_base_impossible : Bool) (n0_base_byHead : Nat) (h0_base_byHead : Nat → Int64) (f0_search_n : Int32) (f0_search_pileSize : Int32) (f0_search_nodeCount : Int32) (f0_search_modelCount : Int32) (f0_search_lastModel : Int64) (f0_search_cut : Bool) (f0_search_start_n : Int32) (f0_search_start_taken : Int64) (f0_search_start_ones : Int64) (f0_search_start_rows_n : Int32) (f0_search_start_rows_impossible : Bool) (n0_search_start_rows_byHead : Nat) (h0_search_start_rows_byHead : Nat → Int64) (n0_search_pileRows : Nat) (h0_search_pileRows : Nat → Int64) (n0_search_pileTaken : Nat) (h0_search_pileTaken : Nat → Int64) (n0_search_pileOnes : Nat) (h0_search_pileOnes : Nat → Int64) (x1 : Int32) (x2 : Bool) (x3 : Int32) : Option (Int32 × Int32 × Int32 × Int32 × Int32 × Int64 × Bool × Int64 × Int64 × Bool × (Nat → Int64) × (Nat → Int64) × (Nat → Int64) × (Nat → Int64)) :=
  Option.bind (D_X3_begin f0_search_pileSize f0_search_nodeCount f0_search_modelCount f0_search_cut f0_search_start_taken f0_search_start_ones f0_search_start_rows_n f0_search_start_rows_impossible n0_search_start_rows_byHead h0_search_start_rows_byHead f0_base_n f0_base_impossible n0_base_byHead h0_base_byHead) (fun u_1 =>
    Option.bind (D_X5_take u_1.2.2.2.2.1 u_1.2.2.2.2.2.1 f0_search_start_rows_n u_1.2.2.2.2.2.2.1 n0_search_start_rows_byHead u_1.2.2.2.2.2.2.2 x1 x2) (fun u_3 =>
      Option.bind (D_X3_run f0_search_n u_1.1 u_1.2.1 u_1.2.2.1 f0_search_lastModel u_1.2.2.2.1 f0_search_start_n u_3.1 u_3.2.1 f0_search_start_rows_n u_3.2.2.1 n0_search_start_rows_byHead u_3.2.2.2 n0_search_pileRows h0_search_pileRows n0_search_pileTaken h0_search_pileTaken n0_search_pileOnes h0_search_pileOnes f0_store_clauseCount n0_store_yes h0_store_yes n0_store_no h0_store_no x3 true) (fun u_5 =>
        cif (u_5.2.2.2.2.1 = true)
          (some ((-2 : Int32), f0_latestNodes + u_5.2.1, u_5.1, u_5.2.1, u_5.2.2.1, u_5.2.2.2.1, u_5.2.2.2.2.1, u_5.2.2.2.2.2.1, u_5.2.2.2.2.2.2.1, u_5.2.2.2.2.2.2.2.1, u_5.2.2.2.2.2.2.2.2.1, u_5.2.2.2.2.2.2.2.2.2.1, u_5.2.2.2.2.2.2.2.2.2.2.1, u_5.2.2.2.2.2.2.2.2.2.2.2))
          (some (u_5.2.2.1, f0_latestNodes + u_5.2.1, u_5.1, u_5.2.1, u_5.2.2.1, u_5.2.2.2.1, u_5.2.2.2.2.1, u_5.2.2.2.2.2.1, u_5.2.2.2.2.2.2.1, u_5.2.2.2.2.2.2.2.1, u_5.2.2.2.2.2.2.2.2.1, u_5.2.2.2.2.2.2.2.2.2.1, u_5.2.2.2.2.2.2.2.2.2.2.1, u_5.2.2.2.2.2.2.2.2.2.2.2)))))
theorem in_X7_modelsWith_X3 : ∀ w ∈ wsX30, w ∈ wsX7_modelsWith := by decide +kernel
theorem in_X7_modelsWith_X7 : ∀ w ∈ wsX70, w ∈ wsX7_modelsWith := by decide +kernel
theorem lk_0_X7_modelsWith : Cond.fieldLink RX7 73 "ParityClauses" "search" "LParityClauses$Search;" ∈ wsX7_modelsWith := by decide +kernel
theorem lk_1_X7_modelsWith : Cond.fieldLink RX7 45 "ParityClauses" "base" "LParityClauses$Rows;" ∈ wsX7_modelsWith := by decide +kernel
theorem lk_2_X7_modelsWith : Cond.fieldLink RX7 291 "ParityClauses$Search" "start" "LParityClauses$Taking;" ∈ wsX7_modelsWith := by decide +kernel
theorem lk_3_X7_modelsWith : Cond.fieldLink RX7 29 "ParityClauses" "store" "LParityClauses$Store;" ∈ wsX7_modelsWith := by decide +kernel
theorem lk_4_X7_modelsWith : Cond.fieldLink RX7 248 "ParityClauses" "latestNodes" "I" ∈ wsX7_modelsWith := by decide +kernel
theorem lk_5_X7_modelsWith : Cond.fieldLink RX7 245 "ParityClauses$Search" "nodeCount" "I" ∈ wsX7_modelsWith := by decide +kernel
theorem lk_6_X7_modelsWith : Cond.fieldLink RX7 257 "ParityClauses$Search" "cut" "Z" ∈ wsX7_modelsWith := by decide +kernel
theorem lk_7_X7_modelsWith : Cond.fieldLink RX7 251 "ParityClauses$Search" "modelCount" "I" ∈ wsX7_modelsWith := by decide +kernel
abbrev rm_X7_modelsWith : Room := { frames := 8, cells := 0, slots := 0, locals := 195 }
set_option maxHeartbeats 4000000 in
set_option maxRecDepth 100000 in
theorem cm_X7_modelsWith (l : Launch) (D : va_G) (cI cL : ClassId) (q0 q0_store q0_store_yes q0_store_no q0_base q0_base_byHead q0_search q0_search_start q0_search_start_rows q0_search_start_rows_byHead q0_search_pileRows q0_search_pileTaken q0_search_pileOnes : Nat) (n0_store_yes n0_store_no n0_base_byHead n0_search_start_rows_byHead n0_search_pileRows n0_search_pileTaken n0_search_pileOnes : Nat) (f0_latestNodes : Int32) (f0_store_clauseCount : Int32) (h0_store_yes : Nat → Int64) (h0_store_no : Nat → Int64) (f0_base_n : Int32) (f0_base_impossible : Bool) (h0_base_byHead : Nat → Int64) (f0_search_n : Int32) (f0_search_pileSize : Int32) (f0_search_nodeCount : Int32) (f0_search_modelCount : Int32) (f0_search_lastModel : Int64) (f0_search_cut : Bool) (f0_search_start_n : Int32) (f0_search_start_taken : Int64) (f0_search_start_ones : Int64) (f0_search_start_rows_n : Int32) (f0_search_start_rows_impossible : Bool) (h0_search_start_rows_byHead : Nat → Int64) (h0_search_pileRows : Nat → Int64) (h0_search_pileTaken : Nat → Int64) (h0_search_pileOnes : Nat → Int64) (v0_n v0_variables v0_tape v0_blamed v0_gateList v0_taking v0_rowsFresh v0_gatesFresh v0_latestFault v0_latestModel v0_store_equations v0_store_equationCount v0_store_equationsBefore v0_store_clausesBefore v0_store_levelCount : Value) (x1 : Int32) (x2 : Bool) (x3 : Int32) (r0 : Int32 × Int32 × Int32 × Int32 × Int32 × Int64 × Bool × Int64 × Int64 × Bool × (Nat → Int64) × (Nat → Int64) × (Nat → Int64) × (Nat → Int64)) (h0 : D_X7_modelsWith f0_latestNodes f0_store_clauseCount n0_store_yes h0_store_yes n0_store_no h0_store_no f0_base_n f0_base_impossible n0_base_byHead h0_base_byHead f0_search_n f0_search_pileSize f0_search_nodeCount f0_search_modelCount f0_search_lastModel f0_search_cut f0_search_start_n f0_search_start_taken f0_search_start_ones f0_search_start_rows_n f0_search_start_rows_impossible n0_search_start_rows_byHead h0_search_start_rows_byHead n0_search_pileRows h0_search_pileRows n0_search_pileTaken h0_search_pileTaken n0_search_pileOnes h0_search_pileOnes x1 x2 x3 = some r0) (sz : Nat) : Met l yX7_modelsWith wsX7_modelsWith rm_X7_modelsWith (PcW D cI cL [.ref q0, .int x1, .int (bI x2), .int x3] [(q0, .inr (7, [v0_n, v0_variables, .ref q0_store, v0_tape, .ref q0_base, v0_blamed, v0_gateList, v0_taking, .ref q0_search, v0_rowsFresh, v0_gatesFresh, v0_latestFault, .int f0_latestNodes, v0_latestModel])), (q0_store, .inr (4, [v0_store_equations, .ref q0_store_yes, .ref q0_store_no, v0_store_equationCount, .int f0_store_clauseCount, v0_store_equationsBefore, v0_store_clausesBefore, v0_store_levelCount])), (q0_store_yes, .inl (cL, n0_store_yes, .inr (.inl h0_store_yes))), (q0_store_no, .inl (cL, n0_store_no, .inr (.inl h0_store_no))), (q0_base, .inr (2, [.int f0_base_n, .ref q0_base_byHead, .int (bI f0_base_impossible)])), (q0_base_byHead, .inl (cL, n0_base_byHead, .inr (.inl h0_base_byHead))), (q0_search, .inr (3, [.int f0_search_n, .ref q0_search_start, .ref q0_search_pileRows, .ref q0_search_pileTaken, .ref q0_search_pileOnes, .int f0_search_pileSize, .int f0_search_nodeCount, .int f0_search_modelCount, .long f0_search_lastModel, .int (bI f0_search_cut)])), (q0_search_start, .inr (5, [.int f0_search_start_n, .ref q0_search_start_rows, .long f0_search_start_taken, .long f0_search_start_ones])), (q0_search_start_rows, .inr (2, [.int f0_search_start_rows_n, .ref q0_search_start_rows_byHead, .int (bI f0_search_start_rows_impossible)])), (q0_search_start_rows_byHead, .inl (cL, n0_search_start_rows_byHead, .inr (.inl h0_search_start_rows_byHead))), (q0_search_pileRows, .inl (cL, n0_search_pileRows, .inr (.inl h0_search_pileRows))), (q0_search_pileTaken, .inl (cL, n0_search_pileTaken, .inr (.inl h0_search_pileTaken))), (q0_search_pileOnes, .inl (cL, n0_search_pileOnes, .inr (.inl h0_search_pileOnes)))] sz) (QiW D [(q0, .inr (7, [v0_n, v0_variables, .ref q0_store, v0_tape, .ref q0_base, v0_blamed, v0_gateList, v0_taking, .ref q0_search, v0_rowsFresh, v0_gatesFresh, v0_latestFault, .int f0_latestNodes, v0_latestModel])), (q0_store, .inr (4, [v0_store_equations, .ref q0_store_yes, .ref q0_store_no, v0_store_equationCount, .int f0_store_clauseCount, v0_store_equationsBefore, v0_store_clausesBefore, v0_store_levelCount])), (q0_store_yes, .inl (cL, n0_store_yes, .inr (.inl h0_store_yes))), (q0_store_no, .inl (cL, n0_store_no, .inr (.inl h0_store_no))), (q0_base, .inr (2, [.int f0_base_n, .ref q0_base_byHead, .int (bI f0_base_impossible)])), (q0_base_byHead, .inl (cL, n0_base_byHead, .inr (.inl h0_base_byHead))), (q0_search, .inr (3, [.int f0_search_n, .ref q0_search_start, .ref q0_search_pileRows, .ref q0_search_pileTaken, .ref q0_search_pileOnes, .int f0_search_pileSize, .int f0_search_nodeCount, .int f0_search_modelCount, .long f0_search_lastModel, .int (bI f0_search_cut)])), (q0_search_start, .inr (5, [.int f0_search_start_n, .ref q0_search_start_rows, .long f0_search_start_taken, .long f0_search_start_ones])), (q0_search_start_rows, .inr (2, [.int f0_search_start_rows_n, .ref q0_search_start_rows_byHead, .int (bI f0_search_start_rows_impossible)])), (q0_search_start_rows_byHead, .inl (cL, n0_search_start_rows_byHead, .inr (.inl h0_search_start_rows_byHead))), (q0_search_pileRows, .inl (cL, n0_search_pileRows, .inr (.inl h0_search_pileRows))), (q0_search_pileTaken, .inl (cL, n0_search_pileTaken, .inr (.inl h0_search_pileTaken))), (q0_search_pileOnes, .inl (cL, n0_search_pileOnes, .inr (.inl h0_search_pileOnes)))] r0.1 (fun _ : Unit => [(q0, .inr (7, [v0_n, v0_variables, .ref q0_store, v0_tape, .ref q0_base, v0_blamed, v0_gateList, v0_taking, .ref q0_search, v0_rowsFresh, v0_gatesFresh, v0_latestFault, .int r0.2.1, v0_latestModel])), (q0_store, .inr (4, [v0_store_equations, .ref q0_store_yes, .ref q0_store_no, v0_store_equationCount, .int f0_store_clauseCount, v0_store_equationsBefore, v0_store_clausesBefore, v0_store_levelCount])), (q0_store_yes, .inl (cL, n0_store_yes, .inr (.inl h0_store_yes))), (q0_store_no, .inl (cL, n0_store_no, .inr (.inl h0_store_no))), (q0_base, .inr (2, [.int f0_base_n, .ref q0_base_byHead, .int (bI f0_base_impossible)])), (q0_base_byHead, .inl (cL, n0_base_byHead, .inr (.inl h0_base_byHead))), (q0_search, .inr (3, [.int f0_search_n, .ref q0_search_start, .ref q0_search_pileRows, .ref q0_search_pileTaken, .ref q0_search_pileOnes, .int r0.2.2.1, .int r0.2.2.2.1, .int r0.2.2.2.2.1, .long r0.2.2.2.2.2.1, .int (bI r0.2.2.2.2.2.2.1)])), (q0_search_start, .inr (5, [.int f0_search_start_n, .ref q0_search_start_rows, .long r0.2.2.2.2.2.2.2.1, .long r0.2.2.2.2.2.2.2.2.1])), (q0_search_start_rows, .inr (2, [.int f0_search_start_rows_n, .ref q0_search_start_rows_byHead, .int (bI r0.2.2.2.2.2.2.2.2.2.1)])), (q0_search_start_rows_byHead, .inl (cL, n0_search_start_rows_byHead, .inr (.inl r0.2.2.2.2.2.2.2.2.2.2.1))), (q0_search_pileRows, .inl (cL, n0_search_pileRows, .inr (.inl r0.2.2.2.2.2.2.2.2.2.2.2.1))), (q0_search_pileTaken, .inl (cL, n0_search_pileTaken, .inr (.inl r0.2.2.2.2.2.2.2.2.2.2.2.2.1))), (q0_search_pileOnes, .inl (cL, n0_search_pileOnes, .inr (.inl r0.2.2.2.2.2.2.2.2.2.2.2.2.2)))]) tU sz) 0 0 (va_A [(q0, .inr (7, [v0_n, v0_variables, .ref q0_store, v0_tape, .ref q0_base, v0_blamed, v0_gateList, v0_taking, .ref q0_search, v0_rowsFresh, v0_gatesFresh, v0_latestFault, .int f0_latestNodes, v0_latestModel])), (q0_store, .inr (4, [v0_store_equations, .ref q0_store_yes, .ref q0_store_no, v0_store_equationCount, .int f0_store_clauseCount, v0_store_equationsBefore, v0_store_clausesBefore, v0_store_levelCount])), (q0_store_yes, .inl (cL, n0_store_yes, .inr (.inl h0_store_yes))), (q0_store_no, .inl (cL, n0_store_no, .inr (.inl h0_store_no))), (q0_base, .inr (2, [.int f0_base_n, .ref q0_base_byHead, .int (bI f0_base_impossible)])), (q0_base_byHead, .inl (cL, n0_base_byHead, .inr (.inl h0_base_byHead))), (q0_search, .inr (3, [.int f0_search_n, .ref q0_search_start, .ref q0_search_pileRows, .ref q0_search_pileTaken, .ref q0_search_pileOnes, .int f0_search_pileSize, .int f0_search_nodeCount, .int f0_search_modelCount, .long f0_search_lastModel, .int (bI f0_search_cut)])), (q0_search_start, .inr (5, [.int f0_search_start_n, .ref q0_search_start_rows, .long f0_search_start_taken, .long f0_search_start_ones])), (q0_search_start_rows, .inr (2, [.int f0_search_start_rows_n, .ref q0_search_start_rows_byHead, .int (bI f0_search_start_rows_impossible)])), (q0_search_start_rows_byHead, .inl (cL, n0_search_start_rows_byHead, .inr (.inl h0_search_start_rows_byHead))), (q0_search_pileRows, .inl (cL, n0_search_pileRows, .inr (.inl h0_search_pileRows))), (q0_search_pileTaken, .inl (cL, n0_search_pileTaken, .inr (.inl h0_search_pileTaken))), (q0_search_pileOnes, .inl (cL, n0_search_pileOnes, .inr (.inl h0_search_pileOnes)))] sz) := by
  refine Met.ofW (cc := cX7_modelsWith) (maxL := 4) (ret := (some .int)) (by decide) rfl ?_
  intro p e s m args below meth c s₁ B hml hv
  obtain ⟨hargs, hsz, hP, hEV, hD0⟩ := hv
  have hx := B.exec
  have hb := B.bytes
  have hr := B.returns
  have hts := atoms_spec (ws := wsX7_modelsWith) B.pre
  have hown : s.vm.findClass RX7 = some m.cls := findClass_of_methodNamed B.named
  have hlocks := B.notSynchronized
  have hK := hEV.K
  have lk_0 := hts _ lk_0_X7_modelsWith
  have lk_1 := hts _ lk_1_X7_modelsWith
  have lk_2 := hts _ lk_2_X7_modelsWith
  have lk_3 := hts _ lk_3_X7_modelsWith
  have lk_4 := hts _ lk_4_X7_modelsWith
  have lk_5 := hts _ lk_5_X7_modelsWith
  have lk_6 := hts _ lk_6_X7_modelsWith
  have lk_7 := hts _ lk_7_X7_modelsWith
  subst hsz
  unfold QiW PoW
  have hD := hD0.self (sz := s.heap.size)
  generalize hAe : va_A [(q0, .inr (7, [v0_n, v0_variables, .ref q0_store, v0_tape, .ref q0_base, v0_blamed, v0_gateList, v0_taking, .ref q0_search, v0_rowsFresh, v0_gatesFresh, v0_latestFault, .int f0_latestNodes, v0_latestModel])), (q0_store, .inr (4, [v0_store_equations, .ref q0_store_yes, .ref q0_store_no, v0_store_equationCount, .int f0_store_clauseCount, v0_store_equationsBefore, v0_store_clausesBefore, v0_store_levelCount])), (q0_store_yes, .inl (cL, n0_store_yes, .inr (.inl h0_store_yes))), (q0_store_no, .inl (cL, n0_store_no, .inr (.inl h0_store_no))), (q0_base, .inr (2, [.int f0_base_n, .ref q0_base_byHead, .int (bI f0_base_impossible)])), (q0_base_byHead, .inl (cL, n0_base_byHead, .inr (.inl h0_base_byHead))), (q0_search, .inr (3, [.int f0_search_n, .ref q0_search_start, .ref q0_search_pileRows, .ref q0_search_pileTaken, .ref q0_search_pileOnes, .int f0_search_pileSize, .int f0_search_nodeCount, .int f0_search_modelCount, .long f0_search_lastModel, .int (bI f0_search_cut)])), (q0_search_start, .inr (5, [.int f0_search_start_n, .ref q0_search_start_rows, .long f0_search_start_taken, .long f0_search_start_ones])), (q0_search_start_rows, .inr (2, [.int f0_search_start_rows_n, .ref q0_search_start_rows_byHead, .int (bI f0_search_start_rows_impossible)])), (q0_search_start_rows_byHead, .inl (cL, n0_search_start_rows_byHead, .inr (.inl h0_search_start_rows_byHead))), (q0_search_pileRows, .inl (cL, n0_search_pileRows, .inr (.inl h0_search_pileRows))), (q0_search_pileTaken, .inl (cL, n0_search_pileTaken, .inr (.inl h0_search_pileTaken))), (q0_search_pileOnes, .inl (cL, n0_search_pileOnes, .inr (.inl h0_search_pileOnes)))] s.heap.size = A at hD ⊢
  have hA : ∀ q : Nat, s.heap.size ≤ q → A q := fun q h => by rw [← hAe]; exact Or.inr h
  have hS : va_S A s.heap s.heap [] := va_S.rf
  have hent : entryFrame m args 4 = entryFrame m ([.ref q0, .int x1, .int (bI x2), .int x3] : List Value).toArray 4 := by rw [hargs]
  rw [hent]
  refine kx_Q (fun Q hQ => ?_)
  have hl := lv_entry ([.ref q0, .int x1, .int (bI x2), .int x3]) (n := 4) (Nat.le_of_ble_eq_true rfl)
  rw [lg_entry_eq]
  generalize (lg_sl ([.ref q0, .int x1, .int (bI x2), .int x3]) ++ List.replicate (4 - (lg_sl ([.ref q0, .int x1, .int (bI x2), .int x3])).length) Slot.unset).toArray = ls at hl ⊢
  have hl : lv_has ls 4 [(0, .ref q0), (1, .int x1), (2, .int (bI x2)), (3, .int x3)] := hl
  have h := h0
  unfold D_X7_modelsWith at h
  refine lv_aload_n hx hb dX7_modelsWith_0 rfl (lv_at hl 0 rfl) ?_
  refine va_get (D := D) (ci := 7) (v := .ref q0_search) (C := RX7) (T := TX7) (N := 14) hx hb hts in_X7_modelsWith_X7 hown hK hP 0 rfl rfl 8 (by decide) lk_0 (fun _ h9 => h9) rfl dX7_modelsWith_1 ?_
  refine lv_aload_n hx hb dX7_modelsWith_4 rfl (lv_at hl 0 rfl) ?_
  refine va_get (D := D) (ci := 7) (v := .ref q0_base) (C := RX7) (T := TX7) (N := 14) hx hb hts in_X7_modelsWith_X7 hown hK hP 0 rfl rfl 4 (by decide) lk_1 (fun _ h9 => h9) rfl dX7_modelsWith_5 ?_
  obtain ⟨u_1, hu_2, h⟩ := co_b h
  refine kx_v (ws' := fun _ => [(q0, .inr (7, [v0_n, v0_variables, .ref q0_store, v0_tape, .ref q0_base, v0_blamed, v0_gateList, v0_taking, .ref q0_search, v0_rowsFresh, v0_gatesFresh, v0_latestFault, .int f0_latestNodes, v0_latestModel])), (q0_store, .inr (4, [v0_store_equations, .ref q0_store_yes, .ref q0_store_no, v0_store_equationCount, .int f0_store_clauseCount, v0_store_equationsBefore, v0_store_clausesBefore, v0_store_levelCount])), (q0_store_yes, .inl (cL, n0_store_yes, .inr (.inl h0_store_yes))), (q0_store_no, .inl (cL, n0_store_no, .inr (.inl h0_store_no))), (q0_base, .inr (2, [.int f0_base_n, .ref q0_base_byHead, .int (bI f0_base_impossible)])), (q0_base_byHead, .inl (cL, n0_base_byHead, .inr (.inl h0_base_byHead))), (q0_search, .inr (3, [.int f0_search_n, .ref q0_search_start, .ref q0_search_pileRows, .ref q0_search_pileTaken, .ref q0_search_pileOnes, .int u_1.1, .int u_1.2.1, .int u_1.2.2.1, .long f0_search_lastModel, .int (bI u_1.2.2.2.1)])), (q0_search_start, .inr (5, [.int f0_search_start_n, .ref q0_search_start_rows, .long u_1.2.2.2.2.1, .long u_1.2.2.2.2.2.1])), (q0_search_start_rows, .inr (2, [.int f0_search_start_rows_n, .ref q0_search_start_rows_byHead, .int (bI u_1.2.2.2.2.2.2.1)])), (q0_search_start_rows_byHead, .inl (cL, n0_search_start_rows_byHead, .inr (.inl u_1.2.2.2.2.2.2.2))), (q0_search_pileRows, .inl (cL, n0_search_pileRows, .inr (.inl h0_search_pileRows))), (q0_search_pileTaken, .inl (cL, n0_search_pileTaken, .inr (.inl h0_search_pileTaken))), (q0_search_pileOnes, .inl (cL, n0_search_pileOnes, .inr (.inl h0_search_pileOnes)))]) hP hD hS hA [6, 7, 8, 9, 4, 5] [0, 1, 2, 3, 10, 11, 12] [0, 1, 2, 3, 11, 12, 7, 8, 9, 10, 4, 5, 6] rfl (by decide) (by decide) (by decide) (fun _ => rfl) (by decide) (va_runV (As := [.ref q0_base]) (rest := []) ⟨hx, hb, hml, hown, hts⟩ (cm_X3_begin l D cI cL (q0 := q0_search) (q0_start := q0_search_start) (q0_start_rows := q0_search_start_rows) (q0_start_rows_byHead := q0_search_start_rows_byHead) (q1 := q0_base) (q1_byHead := q0_base_byHead) (n0_start_rows_byHead := n0_search_start_rows_byHead) (n1_byHead := n0_base_byHead) (f0_pileSize := f0_search_pileSize) (f0_nodeCount := f0_search_nodeCount) (f0_modelCount := f0_search_modelCount) (f0_cut := f0_search_cut) (f0_start_taken := f0_search_start_taken) (f0_start_ones := f0_search_start_ones) (f0_start_rows_n := f0_search_start_rows_n) (f0_start_rows_impossible := f0_search_start_rows_impossible) (h0_start_rows_byHead := h0_search_start_rows_byHead) (f1_n := f0_base_n) (f1_impossible := f0_base_impossible) (h1_byHead := h0_base_byHead) (v0_n := .int f0_search_n) (v0_pileRows := .ref q0_search_pileRows) (v0_pileTaken := .ref q0_search_pileTaken) (v0_pileOnes := .ref q0_search_pileOnes) (v0_lastModel := .long f0_search_lastModel) (v0_start_n := .int f0_search_start_n) (r0 := u_1) (h0 := hu_2) (sz := H.size)) (cwV 1 hts gX7_modelsWith_X3_begin rfl rfl rfl (by decide +kernel) ⟨Nat.le_of_ble_eq_true rfl, Nat.le_of_ble_eq_true rfl⟩) (kx_preV hEV hP hD [6, 7, 8, 9, 4, 5] rfl (by decide) (k0 := 6) (ci := 3) rfl rfl rfl) rfl rfl hl.1 rfl (lv_room (Nat.le_of_ble_eq_true rfl)) dX7_modelsWith_8 ⟨Nat.le_refl _, Nat.le_refl _⟩) (fun _ H locs _ hP hD hS => ?_)
  refine lv_aload_n hx hb dX7_modelsWith_11 rfl (lv_at hl 0 rfl) ?_
  refine va_get (D := D) (ci := 7) (v := .ref q0_search) (C := RX7) (T := TX7) (N := 14) hx hb hts in_X7_modelsWith_X7 hown hK hP 0 rfl rfl 8 (by decide) lk_0 (fun _ h9 => h9) rfl dX7_modelsWith_12 ?_
  refine va_get (D := D) (ci := 3) (v := .ref q0_search_start) (C := RX3) (T := TX3) (N := 10) hx hb hts in_X7_modelsWith_X3 hown hK hP 6 rfl rfl 1 (by decide) lk_2 (fun _ h9 => h9) rfl dX7_modelsWith_15 ?_
  refine lv_iload_n hx hb dX7_modelsWith_18 rfl (lv_at hl 1 rfl) ?_
  refine lv_iload_n hx hb dX7_modelsWith_19 rfl (lv_at hl 2 rfl) ?_
  obtain ⟨u_3, hu_4, h⟩ := co_b h
  refine kx_v (ws' := fun _ => [(q0, .inr (7, [v0_n, v0_variables, .ref q0_store, v0_tape, .ref q0_base, v0_blamed, v0_gateList, v0_taking, .ref q0_search, v0_rowsFresh, v0_gatesFresh, v0_latestFault, .int f0_latestNodes, v0_latestModel])), (q0_store, .inr (4, [v0_store_equations, .ref q0_store_yes, .ref q0_store_no, v0_store_equationCount, .int f0_store_clauseCount, v0_store_equationsBefore, v0_store_clausesBefore, v0_store_levelCount])), (q0_store_yes, .inl (cL, n0_store_yes, .inr (.inl h0_store_yes))), (q0_store_no, .inl (cL, n0_store_no, .inr (.inl h0_store_no))), (q0_base, .inr (2, [.int f0_base_n, .ref q0_base_byHead, .int (bI f0_base_impossible)])), (q0_base_byHead, .inl (cL, n0_base_byHead, .inr (.inl h0_base_byHead))), (q0_search, .inr (3, [.int f0_search_n, .ref q0_search_start, .ref q0_search_pileRows, .ref q0_search_pileTaken, .ref q0_search_pileOnes, .int u_1.1, .int u_1.2.1, .int u_1.2.2.1, .long f0_search_lastModel, .int (bI u_1.2.2.2.1)])), (q0_search_start, .inr (5, [.int f0_search_start_n, .ref q0_search_start_rows, .long u_3.1, .long u_3.2.1])), (q0_search_start_rows, .inr (2, [.int f0_search_start_rows_n, .ref q0_search_start_rows_byHead, .int (bI u_3.2.2.1)])), (q0_search_start_rows_byHead, .inl (cL, n0_search_start_rows_byHead, .inr (.inl u_3.2.2.2))), (q0_search_pileRows, .inl (cL, n0_search_pileRows, .inr (.inl h0_search_pileRows))), (q0_search_pileTaken, .inl (cL, n0_search_pileTaken, .inr (.inl h0_search_pileTaken))), (q0_search_pileOnes, .inl (cL, n0_search_pileOnes, .inr (.inl h0_search_pileOnes)))]) hP hD hS hA [7, 8, 9] [0, 1, 2, 3, 4, 5, 6, 10, 11, 12] [0, 1, 2, 3, 4, 5, 6, 10, 11, 12, 7, 8, 9] rfl (by decide) (by decide) (by decide) (fun _ => rfl) (by decide) (va_runV (As := [.int x1, .int (bI x2)]) (rest := []) ⟨hx, hb, hml, hown, hts⟩ (cm_X5_take l D cI cL (q0 := q0_search_start) (q0_rows := q0_search_start_rows) (q0_rows_byHead := q0_search_start_rows_byHead) (n0_rows_byHead := n0_search_start_rows_byHead) (f0_taken := u_1.2.2.2.2.1) (f0_ones := u_1.2.2.2.2.2.1) (f0_rows_n := f0_search_start_rows_n) (f0_rows_impossible := u_1.2.2.2.2.2.2.1) (h0_rows_byHead := u_1.2.2.2.2.2.2.2) (v0_n := .int f0_search_start_n) (x1 := x1) (x2 := x2) (r0 := u_3) (h0 := hu_4) (sz := H.size)) (cwV 2 hts gX7_modelsWith_X5_take rfl rfl rfl (by decide +kernel) ⟨Nat.le_of_ble_eq_true rfl, Nat.le_of_ble_eq_true rfl⟩) (kx_preV hEV hP hD [7, 8, 9] rfl (by decide) (k0 := 7) (ci := 5) rfl rfl rfl) rfl rfl hl.1 rfl (lv_room (Nat.le_of_ble_eq_true rfl)) dX7_modelsWith_20 ⟨Nat.le_refl _, Nat.le_refl _⟩) (fun _ H locs _ hP hD hS => ?_)
  refine lv_aload_n hx hb dX7_modelsWith_23 rfl (lv_at hl 0 rfl) ?_
  refine va_get (D := D) (ci := 7) (v := .ref q0_search) (C := RX7) (T := TX7) (N := 14) hx hb hts in_X7_modelsWith_X7 hown hK hP 0 rfl rfl 8 (by decide) lk_0 (fun _ h9 => h9) rfl dX7_modelsWith_24 ?_
  refine lv_aload_n hx hb dX7_modelsWith_27 rfl (lv_at hl 0 rfl) ?_
  refine va_get (D := D) (ci := 7) (v := .ref q0_store) (C := RX7) (T := TX7) (N := 14) hx hb hts in_X7_modelsWith_X7 hown hK hP 0 rfl rfl 2 (by decide) lk_3 (fun _ h9 => h9) rfl dX7_modelsWith_28 ?_
  refine lv_iload_n hx hb dX7_modelsWith_31 rfl (lv_at hl 3 rfl) ?_
  refine lv_iconst (v := (1 : Int32)) hx hb dX7_modelsWith_32 (by decide) ?_
  obtain ⟨u_5, hu_6, h⟩ := co_b h
  refine kx_v (ws' := fun _ => [(q0, .inr (7, [v0_n, v0_variables, .ref q0_store, v0_tape, .ref q0_base, v0_blamed, v0_gateList, v0_taking, .ref q0_search, v0_rowsFresh, v0_gatesFresh, v0_latestFault, .int f0_latestNodes, v0_latestModel])), (q0_store, .inr (4, [v0_store_equations, .ref q0_store_yes, .ref q0_store_no, v0_store_equationCount, .int f0_store_clauseCount, v0_store_equationsBefore, v0_store_clausesBefore, v0_store_levelCount])), (q0_store_yes, .inl (cL, n0_store_yes, .inr (.inl h0_store_yes))), (q0_store_no, .inl (cL, n0_store_no, .inr (.inl h0_store_no))), (q0_base, .inr (2, [.int f0_base_n, .ref q0_base_byHead, .int (bI f0_base_impossible)])), (q0_base_byHead, .inl (cL, n0_base_byHead, .inr (.inl h0_base_byHead))), (q0_search, .inr (3, [.int f0_search_n, .ref q0_search_start, .ref q0_search_pileRows, .ref q0_search_pileTaken, .ref q0_search_pileOnes, .int u_5.1, .int u_5.2.1, .int u_5.2.2.1, .long u_5.2.2.2.1, .int (bI u_5.2.2.2.2.1)])), (q0_search_start, .inr (5, [.int f0_search_start_n, .ref q0_search_start_rows, .long u_5.2.2.2.2.2.1, .long u_5.2.2.2.2.2.2.1])), (q0_search_start_rows, .inr (2, [.int f0_search_start_rows_n, .ref q0_search_start_rows_byHead, .int (bI u_5.2.2.2.2.2.2.2.1)])), (q0_search_start_rows_byHead, .inl (cL, n0_search_start_rows_byHead, .inr (.inl u_5.2.2.2.2.2.2.2.2.1))), (q0_search_pileRows, .inl (cL, n0_search_pileRows, .inr (.inl u_5.2.2.2.2.2.2.2.2.2.1))), (q0_search_pileTaken, .inl (cL, n0_search_pileTaken, .inr (.inl u_5.2.2.2.2.2.2.2.2.2.2.1))), (q0_search_pileOnes, .inl (cL, n0_search_pileOnes, .inr (.inl u_5.2.2.2.2.2.2.2.2.2.2.2)))]) hP hD hS hA [6, 7, 8, 9, 10, 11, 12, 1, 2, 3] [0, 4, 5] [0, 10, 11, 12, 1, 2, 3, 4, 5, 6, 7, 8, 9] rfl (by decide) (by decide) (by decide) (fun _ => rfl) (by decide) (va_runV (As := [.ref q0_store, .int x3, .int (bI true)]) (rest := []) ⟨hx, hb, hml, hown, hts⟩ (cm_X3_run l D cI cL (q0 := q0_search) (q0_start := q0_search_start) (q0_start_rows := q0_search_start_rows) (q0_start_rows_byHead := q0_search_start_rows_byHead) (q0_pileRows := q0_search_pileRows) (q0_pileTaken := q0_search_pileTaken) (q0_pileOnes := q0_search_pileOnes) (q1 := q0_store) (q1_yes := q0_store_yes) (q1_no := q0_store_no) (n0_start_rows_byHead := n0_search_start_rows_byHead) (n0_pileRows := n0_search_pileRows) (n0_pileTaken := n0_search_pileTaken) (n0_pileOnes := n0_search_pileOnes) (n1_yes := n0_store_yes) (n1_no := n0_store_no) (f0_n := f0_search_n) (f0_pileSize := u_1.1) (f0_nodeCount := u_1.2.1) (f0_modelCount := u_1.2.2.1) (f0_lastModel := f0_search_lastModel) (f0_cut := u_1.2.2.2.1) (f0_start_n := f0_search_start_n) (f0_start_taken := u_3.1) (f0_start_ones := u_3.2.1) (f0_start_rows_n := f0_search_start_rows_n) (f0_start_rows_impossible := u_3.2.2.1) (h0_start_rows_byHead := u_3.2.2.2) (h0_pileRows := h0_search_pileRows) (h0_pileTaken := h0_search_pileTaken) (h0_pileOnes := h0_search_pileOnes) (f1_clauseCount := f0_store_clauseCount) (h1_yes := h0_store_yes) (h1_no := h0_store_no) (v1_equations := v0_store_equations) (v1_equationCount := v0_store_equationCount) (v1_equationsBefore := v0_store_equationsBefore) (v1_clausesBefore := v0_store_clausesBefore) (v1_levelCount := v0_store_levelCount) (x2 := x3) (x3 := true) (r0 := u_5) (h0 := hu_6) (sz := H.size)) (cwV 3 hts gX7_modelsWith_X3_run rfl rfl rfl (by decide +kernel) ⟨Nat.le_of_ble_eq_true rfl, Nat.le_of_ble_eq_true rfl⟩) (kx_preV hEV hP hD [6, 7, 8, 9, 10, 11, 12, 1, 2, 3] rfl (by decide) (k0 := 6) (ci := 3) rfl rfl rfl) rfl rfl hl.1 rfl (lv_room (Nat.le_of_ble_eq_true rfl)) dX7_modelsWith_33 ⟨Nat.le_refl _, Nat.le_refl _⟩) (fun _ H locs _ hP hD hS => ?_)
  refine lv_aload_n hx hb dX7_modelsWith_36 rfl (lv_at hl 0 rfl) ?_
  refine lv_dup hx hb dX7_modelsWith_37 rfl ?_
  refine va_get (D := D) (ci := 7) (v := .int f0_latestNodes) (C := RX7) (T := TX7) (N := 14) hx hb hts in_X7_modelsWith_X7 hown hK hP 0 rfl rfl 12 (by decide) lk_4 (fun _ h9 => h9) rfl dX7_modelsWith_38 ?_
  refine lv_aload_n hx hb dX7_modelsWith_41 rfl (lv_at hl 0 rfl) ?_
  refine va_get (D := D) (ci := 7) (v := .ref q0_search) (C := RX7) (T := TX7) (N := 14) hx hb hts in_X7_modelsWith_X7 hown hK hP 0 rfl rfl 8 (by decide) lk_0 (fun _ h9 => h9) rfl dX7_modelsWith_42 ?_
  refine va_get (D := D) (ci := 3) (v := .int u_5.2.1) (C := RX3) (T := TX3) (N := 10) hx hb hts in_X7_modelsWith_X3 hown hK hP 6 rfl rfl 6 (by decide) lk_5 (fun _ h9 => h9) rfl dX7_modelsWith_45 ?_
  refine lv_iadd hx hb dX7_modelsWith_48 ?_
  refine va_put (D := D) (ci := 7) (v := .int (f0_latestNodes + u_5.2.1)) (ty := .int) (C := RX7) (T := TX7) (N := 14) hx hb hts in_X7_modelsWith_X7 tyX7 tyX7_ok nmX7 hown hK hP hD hS 0 rfl rfl 12 (by decide) lk_4 (fun _ h9 => h9) rfl (by decide +kernel) rfl rfl (Nat.le_of_ble_eq_true rfl) dX7_modelsWith_49 (fun H locs hP hD hS => ?_)
  have hP : va_P D vwCl [(q0, .inr (7, [v0_n, v0_variables, .ref q0_store, v0_tape, .ref q0_base, v0_blamed, v0_gateList, v0_taking, .ref q0_search, v0_rowsFresh, v0_gatesFresh, v0_latestFault, .int (f0_latestNodes + u_5.2.1), v0_latestModel])), (q0_store, .inr (4, [v0_store_equations, .ref q0_store_yes, .ref q0_store_no, v0_store_equationCount, .int f0_store_clauseCount, v0_store_equationsBefore, v0_store_clausesBefore, v0_store_levelCount])), (q0_store_yes, .inl (cL, n0_store_yes, .inr (.inl h0_store_yes))), (q0_store_no, .inl (cL, n0_store_no, .inr (.inl h0_store_no))), (q0_base, .inr (2, [.int f0_base_n, .ref q0_base_byHead, .int (bI f0_base_impossible)])), (q0_base_byHead, .inl (cL, n0_base_byHead, .inr (.inl h0_base_byHead))), (q0_search, .inr (3, [.int f0_search_n, .ref q0_search_start, .ref q0_search_pileRows, .ref q0_search_pileTaken, .ref q0_search_pileOnes, .int u_5.1, .int u_5.2.1, .int u_5.2.2.1, .long u_5.2.2.2.1, .int (bI u_5.2.2.2.2.1)])), (q0_search_start, .inr (5, [.int f0_search_start_n, .ref q0_search_start_rows, .long u_5.2.2.2.2.2.1, .long u_5.2.2.2.2.2.2.1])), (q0_search_start_rows, .inr (2, [.int f0_search_start_rows_n, .ref q0_search_start_rows_byHead, .int (bI u_5.2.2.2.2.2.2.2.1)])), (q0_search_start_rows_byHead, .inl (cL, n0_search_start_rows_byHead, .inr (.inl u_5.2.2.2.2.2.2.2.2.1))), (q0_search_pileRows, .inl (cL, n0_search_pileRows, .inr (.inl u_5.2.2.2.2.2.2.2.2.2.1))), (q0_search_pileTaken, .inl (cL, n0_search_pileTaken, .inr (.inl u_5.2.2.2.2.2.2.2.2.2.2.1))), (q0_search_pileOnes, .inl (cL, n0_search_pileOnes, .inr (.inl u_5.2.2.2.2.2.2.2.2.2.2.2)))] H := hP
  have hD : va_D A [(q0, .inr (7, [v0_n, v0_variables, .ref q0_store, v0_tape, .ref q0_base, v0_blamed, v0_gateList, v0_taking, .ref q0_search, v0_rowsFresh, v0_gatesFresh, v0_latestFault, .int (f0_latestNodes + u_5.2.1), v0_latestModel])), (q0_store, .inr (4, [v0_store_equations, .ref q0_store_yes, .ref q0_store_no, v0_store_equationCount, .int f0_store_clauseCount, v0_store_equationsBefore, v0_store_clausesBefore, v0_store_levelCount])), (q0_store_yes, .inl (cL, n0_store_yes, .inr (.inl h0_store_yes))), (q0_store_no, .inl (cL, n0_store_no, .inr (.inl h0_store_no))), (q0_base, .inr (2, [.int f0_base_n, .ref q0_base_byHead, .int (bI f0_base_impossible)])), (q0_base_byHead, .inl (cL, n0_base_byHead, .inr (.inl h0_base_byHead))), (q0_search, .inr (3, [.int f0_search_n, .ref q0_search_start, .ref q0_search_pileRows, .ref q0_search_pileTaken, .ref q0_search_pileOnes, .int u_5.1, .int u_5.2.1, .int u_5.2.2.1, .long u_5.2.2.2.1, .int (bI u_5.2.2.2.2.1)])), (q0_search_start, .inr (5, [.int f0_search_start_n, .ref q0_search_start_rows, .long u_5.2.2.2.2.2.1, .long u_5.2.2.2.2.2.2.1])), (q0_search_start_rows, .inr (2, [.int f0_search_start_rows_n, .ref q0_search_start_rows_byHead, .int (bI u_5.2.2.2.2.2.2.2.1)])), (q0_search_start_rows_byHead, .inl (cL, n0_search_start_rows_byHead, .inr (.inl u_5.2.2.2.2.2.2.2.2.1))), (q0_search_pileRows, .inl (cL, n0_search_pileRows, .inr (.inl u_5.2.2.2.2.2.2.2.2.2.1))), (q0_search_pileTaken, .inl (cL, n0_search_pileTaken, .inr (.inl u_5.2.2.2.2.2.2.2.2.2.2.1))), (q0_search_pileOnes, .inl (cL, n0_search_pileOnes, .inr (.inl u_5.2.2.2.2.2.2.2.2.2.2.2)))] := hD
  refine lv_aload_n hx hb dX7_modelsWith_52 rfl (lv_at hl 0 rfl) ?_
  refine va_get (D := D) (ci := 7) (v := .ref q0_search) (C := RX7) (T := TX7) (N := 14) hx hb hts in_X7_modelsWith_X7 hown hK hP 0 rfl rfl 8 (by decide) lk_0 (fun _ h9 => h9) rfl dX7_modelsWith_53 ?_
  refine va_get (D := D) (ci := 3) (v := .int (bI u_5.2.2.2.2.1)) (C := RX3) (T := TX3) (N := 10) hx hb hts in_X7_modelsWith_X3 hown hK hP 6 rfl rfl 9 (by decide) lk_6 (fun _ h9 => h9) rfl dX7_modelsWith_56 ?_
  refine lv_if_eq (tgt := 67) hx hb dX7_modelsWith_59 (by decide) (fun c_7 => ?_) (fun c_7 => ?_)
  · have k_8 : ¬ (u_5.2.2.2.2.1 = true) := (kx_z c_7)
    have h := co_f k_8 h
    refine lv_aload_n hx hb dX7_modelsWith_67 rfl (lv_at hl 0 rfl) ?_
    refine va_get (D := D) (ci := 7) (v := .ref q0_search) (C := RX7) (T := TX7) (N := 14) hx hb hts in_X7_modelsWith_X7 hown hK hP 0 rfl rfl 8 (by decide) lk_0 (fun _ h9 => h9) rfl dX7_modelsWith_68 ?_
    refine va_get (D := D) (ci := 3) (v := .int u_5.2.2.1) (C := RX3) (T := TX3) (N := 10) hx hb hts in_X7_modelsWith_X3 hown hK hP 6 rfl rfl 7 (by decide) lk_7 (fun _ h9 => h9) rfl dX7_modelsWith_71 ?_
    have h := Option.some.inj h
    subst h
    subst hQ
    exact W.iret (v := u_5.2.2.1) hx hb hr (fun t ht hW => ⟨⟨u_5.2.2.1, (), rfl, ⟨rfl, trivial⟩, by rw [ht]; exact hP, hD⟩, hS.F ht⟩) hS.2.2 dX7_modelsWith_74
  · have k_8 : u_5.2.2.2.2.1 = true := (kx_nz c_7)
    have h := co_t k_8 h
    refine lv_bipush (v := (-2 : Int32)) hx hb dX7_modelsWith_62 (by decide) ?_
    refine lv_goto (tgt := 74) hx hb dX7_modelsWith_64 (by decide) ?_
    have h := Option.some.inj h
    subst h
    subst hQ
    exact W.iret (v := (-2 : Int32)) hx hb hr (fun t ht hW => ⟨⟨(-2 : Int32), (), rfl, ⟨rfl, trivial⟩, by rw [ht]; exact hP, hD⟩, hS.F ht⟩) hS.2.2 dX7_modelsWith_74
