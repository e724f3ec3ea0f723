theorem lk_0_L_equation : Cond.classLink RL 15 "java/lang/IllegalStateException" ∈ wsL_equation := by decide +kernel
theorem lk_1_L_equation : Cond.classLink RL 13 "java/lang/IllegalArgumentException" ∈ wsL_equation := by decide +kernel
abbrev rm_L_equation : Room := { frames := 7, cells := 1, slots := 6, locals := 113 }
set_option maxHeartbeats 4000000 in
set_option maxRecDepth 100000 in
theorem cm_L_equation (l : Launch) (hltr : l.stackTraces = false) (D : va_G) (cI cL : ClassId) (q0 q0_store q0_store_equations q4 : Nat) (n0_store_equations n4 : Nat) (f0_variables : Int64) (f0_rowsFresh : Bool) (f0_gatesFresh : Bool) (f0_store_equationCount : Int32) (h0_store_equations : Nat → Int64) (h4 : Nat → Int64) (v0_n v0_tape v0_base v0_blamed v0_gateList v0_taking v0_search v0_latestFault v0_latestNodes v0_latestModel v0_store_yes v0_store_no v0_store_clauseCount v0_store_equationsBefore v0_store_clausesBefore v0_store_levelCount : Value) (x1 : Int64) (x3 : Int32) (r0 : Int32 × Bool × Bool × Int32 × (Nat → Int64) × (Nat → Int64)) (hr0 : D_L_equation f0_variables f0_rowsFresh f0_gatesFresh f0_store_equationCount n0_store_equations h0_store_equations n4 h4 x1 x3 = some r0) (sz : Nat) : Met l yL_equation wsL_equation rm_L_equation (PcX D cI cL [.ref q0, .long x1, .int x3, .ref q4] [(q0, .inr (7, [v0_n, .long f0_variables, .ref q0_store, v0_tape, v0_base, v0_blamed, v0_gateList, v0_taking, v0_search, .int (bI f0_rowsFresh), .int (bI f0_gatesFresh), v0_latestFault, v0_latestNodes, v0_latestModel])), (q0_store, .inr (4, [.ref q0_store_equations, v0_store_yes, v0_store_no, .int f0_store_equationCount, v0_store_clauseCount, v0_store_equationsBefore, v0_store_clausesBefore, v0_store_levelCount])), (q0_store_equations, .inl (cL, n0_store_equations, .inr (.inl h0_store_equations))), (q4, .inl (cL, n4, .inr (.inl h4)))] sz) (QiW D [(q0, .inr (7, [v0_n, .long f0_variables, .ref q0_store, v0_tape, v0_base, v0_blamed, v0_gateList, v0_taking, v0_search, .int (bI f0_rowsFresh), .int (bI f0_gatesFresh), v0_latestFault, v0_latestNodes, v0_latestModel])), (q0_store, .inr (4, [.ref q0_store_equations, v0_store_yes, v0_store_no, .int f0_store_equationCount, v0_store_clauseCount, v0_store_equationsBefore, v0_store_clausesBefore, v0_store_levelCount])), (q0_store_equations, .inl (cL, n0_store_equations, .inr (.inl h0_store_equations))), (q4, .inl (cL, n4, .inr (.inl h4)))] r0.1 (fun _ : Unit => [(q0, .inr (7, [v0_n, .long f0_variables, .ref q0_store, v0_tape, v0_base, v0_blamed, v0_gateList, v0_taking, v0_search, .int (bI r0.2.1), .int (bI r0.2.2.1), v0_latestFault, v0_latestNodes, v0_latestModel])), (q0_store, .inr (4, [.ref q0_store_equations, v0_store_yes, v0_store_no, .int r0.2.2.2.1, v0_store_clauseCount, v0_store_equationsBefore, v0_store_clausesBefore, v0_store_levelCount])), (q0_store_equations, .inl (cL, n0_store_equations, .inr (.inl r0.2.2.2.2.1))), (q4, .inl (cL, n4, .inr (.inl r0.2.2.2.2.2)))]) tU sz) 1 6 (va_A [(q0, .inr (7, [v0_n, .long f0_variables, .ref q0_store, v0_tape, v0_base, v0_blamed, v0_gateList, v0_taking, v0_search, .int (bI f0_rowsFresh), .int (bI f0_gatesFresh), v0_latestFault, v0_latestNodes, v0_latestModel])), (q0_store, .inr (4, [.ref q0_store_equations, v0_store_yes, v0_store_no, .int f0_store_equationCount, v0_store_clauseCount, v0_store_equationsBefore, v0_store_clausesBefore, v0_store_levelCount])), (q0_store_equations, .inl (cL, n0_store_equations, .inr (.inl h0_store_equations))), (q4, .inl (cL, n4, .inr (.inl h4)))] sz) := by
  refine va_MetW (hh := [(0, 11, 14, 13), (0, 11, 18, 15)]) (cc := cL_equation) (maxL := 6) (ret := (some .int)) (by decide) rfl ?_
  intro p e s m args below meth c s₁ B hml hv
  obtain ⟨hargs, hsz, hP, hEV, hD0, hX⟩ := hv
  have hx := B.exec
  have hb := B.bytes
  have hr := B.returns
  have hts := atoms_spec (ws := wsL_equation) B.pre
  have hown : s.vm.findClass RL = some m.cls := findClass_of_methodNamed B.named
  have hlocks := B.notSynchronized
  have hK := hEV.K
  have htab := vx_table (x := yL_cell) B (hts _ List.mem_cons_self)
  have lk_0 := hts _ lk_0_L_equation
  have lk_1 := hts _ lk_1_L_equation
  subst hsz
  unfold QiW PoW
  have hD := hD0.self (sz := s.heap.size)
  generalize hAe : va_A [(q0, .inr (7, [v0_n, .long f0_variables, .ref q0_store, v0_tape, v0_base, v0_blamed, v0_gateList, v0_taking, v0_search, .int (bI f0_rowsFresh), .int (bI f0_gatesFresh), v0_latestFault, v0_latestNodes, v0_latestModel])), (q0_store, .inr (4, [.ref q0_store_equations, v0_store_yes, v0_store_no, .int f0_store_equationCount, v0_store_clauseCount, v0_store_equationsBefore, v0_store_clausesBefore, v0_store_levelCount])), (q0_store_equations, .inl (cL, n0_store_equations, .inr (.inl h0_store_equations))), (q4, .inl (cL, n4, .inr (.inl h4)))] s.heap.size = A at hD hX ⊢
  have hA : ∀ q : Nat, s.heap.size ≤ q → A q := fun q h => by rw [← hAe]; exact Or.inr h
  have hent : entryFrame m args 6 = entryFrame m ([.ref q0, .long x1, .int x3, .ref q4] : List Value).toArray 6 := by rw [hargs]
  rw [hent]
  refine kx_Q (fun Q hQ => ?_)
  refine kx_H (fun H hH => ?_)
  have hP : va_P D vwCl [(q0, .inr (7, [v0_n, .long f0_variables, .ref q0_store, v0_tape, v0_base, v0_blamed, v0_gateList, v0_taking, v0_search, .int (bI f0_rowsFresh), .int (bI f0_gatesFresh), v0_latestFault, v0_latestNodes, v0_latestModel])), (q0_store, .inr (4, [.ref q0_store_equations, v0_store_yes, v0_store_no, .int f0_store_equationCount, v0_store_clauseCount, v0_store_equationsBefore, v0_store_clausesBefore, v0_store_levelCount])), (q0_store_equations, .inl (cL, n0_store_equations, .inr (.inl h0_store_equations))), (q4, .inl (cL, n4, .inr (.inl h4)))] H := by rw [hH]; exact hP
  have hS : va_S A s.heap H [] := by rw [hH]; exact va_S.rf
  have hl := lv_entry ([.ref q0, .long x1, .int x3, .ref q4]) (n := 6) (Nat.le_of_ble_eq_true rfl)
  rw [lg_entry_eq]
  generalize (lg_sl ([.ref q0, .long x1, .int x3, .ref q4]) ++ List.replicate (6 - (lg_sl ([.ref q0, .long x1, .int x3, .ref q4])).length) Slot.unset).toArray = ls at hl ⊢
  have hl : lv_has ls 6 [(0, .ref q0), (1, .long x1), (3, .int x3), (4, .ref q4)] := hl
  have h := hr0
  unfold D_L_equation at h
  refine lv_aload hx hb dL_equation_0 (lv_at hl 3 rfl) ?_
  refine lv_iconst (v := (0 : Int32)) hx hb dL_equation_2 (by decide) ?_
  refine lv_aload_n hx hb dL_equation_3 rfl (lv_at hl 0 rfl) ?_
  refine lv_lload_n hx hb dL_equation_4 rfl (lv_at hl 1 rfl) ?_
  refine lv_iload_n hx hb dL_equation_5 rfl (lv_at hl 2 rfl) ?_
  obtain ⟨u_1, hu_2, h⟩ := co_b h
  refine ky_i (ws' := [(q0, .inr (7, [v0_n, .long f0_variables, .ref q0_store, v0_tape, v0_base, v0_blamed, v0_gateList, v0_taking, v0_search, .int (bI u_1.2.1), .int (bI u_1.2.2.1), v0_latestFault, v0_latestNodes, v0_latestModel])), (q0_store, .inr (4, [.ref q0_store_equations, v0_store_yes, v0_store_no, .int u_1.2.2.2.1, v0_store_clauseCount, v0_store_equationsBefore, v0_store_clausesBefore, v0_store_levelCount])), (q0_store_equations, .inl (cL, n0_store_equations, .inr (.inl u_1.2.2.2.2))), (q4, .inl (cL, n4, .inr (.inl h4)))]) hP hD hS hA [0, 1, 2] [3] [1, 2, 3, 0] rfl rfl (by decide) (by decide) rfl (by decide) (vx_runV (As := [.long x1, .int x3]) (rest := [.int (0 : Int32), .ref q4]) ⟨hx, hb, hml, hown, hts⟩ (cm_X7_equation l hltr D cI cL (q0 := q0) (q0_store := q0_store) (q0_store_equations := q0_store_equations) (n0_store_equations := n0_store_equations) (f0_variables := f0_variables) (f0_rowsFresh := f0_rowsFresh) (f0_gatesFresh := f0_gatesFresh) (f0_store_equationCount := f0_store_equationCount) (h0_store_equations := h0_store_equations) (v0_n := v0_n) (v0_tape := v0_tape) (v0_base := v0_base) (v0_blamed := v0_blamed) (v0_gateList := v0_gateList) (v0_taking := v0_taking) (v0_search := v0_search) (v0_latestFault := v0_latestFault) (v0_latestNodes := v0_latestNodes) (v0_latestModel := v0_latestModel) (v0_store_yes := v0_store_yes) (v0_store_no := v0_store_no) (v0_store_clauseCount := v0_store_clauseCount) (v0_store_equationsBefore := v0_store_equationsBefore) (v0_store_clausesBefore := v0_store_clausesBefore) (v0_store_levelCount := v0_store_levelCount) (x1 := x1) (x3 := x3) (r0 := u_1) (hr0 := hu_2) (sz := H.size)) (cwV 2 hts gL_equation_X7_equation rfl rfl rfl (by decide +kernel) ⟨Nat.le_of_ble_eq_true rfl, Nat.le_of_ble_eq_true rfl⟩) (ky_preV hEV hX hP hD hS hA [0, 1, 2] rfl (by decide) (k0 := 0) (ci := 7) rfl rfl rfl) rfl rfl hl.1 rfl (lv_room (Nat.le_of_ble_eq_true rfl)) dL_equation_6 ⟨Nat.le_of_ble_eq_true rfl, Nat.le_of_ble_eq_true rfl⟩) (fun e_4 ce9 qe_5 H locs hz hP hD hS hc1 hc2 hc3 => ?_) (fun x_3 H locs hz hP hD hS => ?_)
  · have h := co_s2 hz h
    by_cases c_7 : e_4 = 0
    · subst c_7
      have h := co_t rfl h
      refine vx_catch (own := RL) (name := "java/lang/IllegalArgumentException") (E := exN 0) hown [] { startPc := 0, endPc := 11, handlerPc := 14, catchType := 13 } [{ startPc := 0, endPc := 11, handlerPc := 18, catchType := 15 }] (by rw [htab]; rfl) (fun z9 h9 => nomatch h9) (by decide) (by decide) lk_1 (va_Nw.use rfl hX.2.2.1) hc1 hc2 hc3 ?_
      refine lv_astore (lv' := [(5, .ref qe_5), (0, .ref q0), (1, .long x1), (3, .int x3), (4, .ref q4)]) hx hb dL_equation_14 hl (by decide) rfl (fun ls hl => ?_)
      refine lv_iconst (v := (1 : Int32)) hx hb dL_equation_16 (by decide) ?_
      have h := Option.some.inj h
      subst h
      subst hQ
      exact W.iret (v := (1 : Int32)) hx hb hr (fun t ht hW => ⟨⟨(1 : Int32), (), rfl, ⟨rfl, trivial⟩, by rw [ht]; exact hP, hD⟩, hS.F ht⟩) hS.2.2 dL_equation_17
    · have h := co_f c_7 h
      by_cases c_6 : e_4 = 1
      · subst c_6
        have h := co_t rfl h
        refine vx_catch (own := RL) (name := "java/lang/IllegalStateException") (E := exN 1) hown [{ startPc := 0, endPc := 11, handlerPc := 14, catchType := 13 }] { startPc := 0, endPc := 11, handlerPc := 18, catchType := 15 } [] (by rw [htab]; rfl) (fun z9 h9 => by rw [List.mem_singleton] at h9; subst h9; exact Or.inr ⟨by decide, "java/lang/IllegalArgumentException", lk_1, hX.2.2.2.2.2.1⟩) (by decide) (by decide) lk_0 (va_Nw.use rfl hX.2.2.2.1) hc1 hc2 hc3 ?_
        refine lv_astore (lv' := [(5, .ref qe_5), (0, .ref q0), (1, .long x1), (3, .int x3), (4, .ref q4)]) hx hb dL_equation_18 hl (by decide) rfl (fun ls hl => ?_)
        refine lv_iconst (v := (2 : Int32)) hx hb dL_equation_20 (by decide) ?_
        have h := Option.some.inj h
        subst h
        subst hQ
        exact W.iret (v := (2 : Int32)) hx hb hr (fun t ht hW => ⟨⟨(2 : Int32), (), rfl, ⟨rfl, trivial⟩, by rw [ht]; exact hP, hD⟩, hS.F ht⟩) hS.2.2 dL_equation_21
      · have h := co_f c_6 h
        cases h
  · have h := co_s1 hz h
    refine lv_i2l (v := x_3.toInt64) hx hb dL_equation_9 rfl ?_
    obtain ⟨b_8, h⟩ := co_i h
    refine va_last hx hb hK hP hD hS 3 1 rfl rfl b_8 dL_equation_10 (fun H locs hP hD hS => ?_)
    have hP : va_P D vwCl [(q0, .inr (7, [v0_n, .long f0_variables, .ref q0_store, v0_tape, v0_base, v0_blamed, v0_gateList, v0_taking, v0_search, .int (bI u_1.2.1), .int (bI u_1.2.2.1), v0_latestFault, v0_latestNodes, v0_latestModel])), (q0_store, .inr (4, [.ref q0_store_equations, v0_store_yes, v0_store_no, .int u_1.2.2.2.1, v0_store_clauseCount, v0_store_equationsBefore, v0_store_clausesBefore, v0_store_levelCount])), (q0_store_equations, .inl (cL, n0_store_equations, .inr (.inl u_1.2.2.2.2))), (q4, .inl (cL, n4, .inr (.inl (vp_updL h4 (0 : Int32).toNatClampNeg x_3.toInt64))))] H := hP
    have hD : va_D A [(q0, .inr (7, [v0_n, .long f0_variables, .ref q0_store, v0_tape, v0_base, v0_blamed, v0_gateList, v0_taking, v0_search, .int (bI u_1.2.1), .int (bI u_1.2.2.1), v0_latestFault, v0_latestNodes, v0_latestModel])), (q0_store, .inr (4, [.ref q0_store_equations, v0_store_yes, v0_store_no, .int u_1.2.2.2.1, v0_store_clauseCount, v0_store_equationsBefore, v0_store_clausesBefore, v0_store_levelCount])), (q0_store_equations, .inl (cL, n0_store_equations, .inr (.inl u_1.2.2.2.2))), (q4, .inl (cL, n4, .inr (.inl (vp_updL h4 (0 : Int32).toNatClampNeg x_3.toInt64))))] := hD
    refine lv_goto (tgt := 22) hx hb dL_equation_11 (by decide) ?_
    refine lv_iconst (v := (0 : Int32)) hx hb dL_equation_22 (by decide) ?_
    have h := Option.some.inj h
    subst h
    subst hQ
    exact W.iret (v := (0 : Int32)) hx hb hr (fun t ht hW => ⟨⟨(0 : Int32), (), rfl, ⟨rfl, trivial⟩, by rw [ht]; exact hP, hD⟩, hS.F ht⟩) hS.2.2 dL_equation_23
theorem lk_0_L_clause : Cond.classLink RL 15 "java/lang/IllegalStateException" ∈ wsL_clause := by decide +kernel
theorem lk_1_L_clause : Cond.classLink RL 13 "java/lang/IllegalArgumentException" ∈ wsL_clause := by decide +kernel
abbrev rm_L_clause : Room := { frames := 7, cells := 1, slots := 6, locals := 114 }
set_option maxHeartbeats 4000000 in
set_option maxRecDepth 100000 in
theorem cm_L_clause (l : Launch) (hltr : l.stackTraces = false) (D : va_G) (cI cL : ClassId) (q0 q0_store q0_store_yes q0_store_no q5 : Nat) (n0_store_yes n0_store_no n5 : Nat) (f0_variables : Int64) (f0_rowsFresh : Bool) (f0_gatesFresh : Bool) (f0_store_clauseCount : Int32) (h0_store_yes : Nat → Int64) (h0_store_no : Nat → Int64) (h5 : Nat → Int64) (v0_n v0_tape v0_base v0_blamed v0_gateList v0_taking v0_search v0_latestFault v0_latestNodes v0_latestModel v0_store_equations v0_store_equationCount v0_store_equationsBefore v0_store_clausesBefore v0_store_levelCount : Value) (x1 : Int64) (x3 : Int64) (r0 : Int32 × Bool × Bool × Int32 × (Nat → Int64) × (Nat → Int64) × (Nat → Int64)) (hr0 : D_L_clause f0_variables f0_rowsFresh f0_gatesFresh f0_store_clauseCount n0_store_yes h0_store_yes n0_store_no h0_store_no n5 h5 x1 x3 = some r0) (sz : Nat) : Met l yL_clause wsL_clause rm_L_clause (PcX D cI cL [.ref q0, .long x1, .long x3, .ref q5] [(q0, .inr (7, [v0_n, .long f0_variables, .ref q0_store, v0_tape, v0_base, v0_blamed, v0_gateList, v0_taking, v0_search, .int (bI f0_rowsFresh), .int (bI f0_gatesFresh), v0_latestFault, v0_latestNodes, v0_latestModel])), (q0_store, .inr (4, [v0_store_equations, .ref q0_store_yes, .ref q0_store_no, v0_store_equationCount, .int f0_store_clauseCount, v0_store_equationsBefore, v0_store_clausesBefore, v0_store_levelCount])), (q0_store_yes, .inl (cL, n0_store_yes, .inr (.inl h0_store_yes))), (q0_store_no, .inl (cL, n0_store_no, .inr (.inl h0_store_no))), (q5, .inl (cL, n5, .inr (.inl h5)))] sz) (QiW D [(q0, .inr (7, [v0_n, .long f0_variables, .ref q0_store, v0_tape, v0_base, v0_blamed, v0_gateList, v0_taking, v0_search, .int (bI f0_rowsFresh), .int (bI f0_gatesFresh), v0_latestFault, v0_latestNodes, v0_latestModel])), (q0_store, .inr (4, [v0_store_equations, .ref q0_store_yes, .ref q0_store_no, v0_store_equationCount, .int f0_store_clauseCount, v0_store_equationsBefore, v0_store_clausesBefore, v0_store_levelCount])), (q0_store_yes, .inl (cL, n0_store_yes, .inr (.inl h0_store_yes))), (q0_store_no, .inl (cL, n0_store_no, .inr (.inl h0_store_no))), (q5, .inl (cL, n5, .inr (.inl h5)))] r0.1 (fun _ : Unit => [(q0, .inr (7, [v0_n, .long f0_variables, .ref q0_store, v0_tape, v0_base, v0_blamed, v0_gateList, v0_taking, v0_search, .int (bI r0.2.1), .int (bI r0.2.2.1), v0_latestFault, v0_latestNodes, v0_latestModel])), (q0_store, .inr (4, [v0_store_equations, .ref q0_store_yes, .ref q0_store_no, v0_store_equationCount, .int r0.2.2.2.1, v0_store_equationsBefore, v0_store_clausesBefore, v0_store_levelCount])), (q0_store_yes, .inl (cL, n0_store_yes, .inr (.inl r0.2.2.2.2.1))), (q0_store_no, .inl (cL, n0_store_no, .inr (.inl r0.2.2.2.2.2.1))), (q5, .inl (cL, n5, .inr (.inl r0.2.2.2.2.2.2)))]) tU sz) 1 6 (va_A [(q0, .inr (7, [v0_n, .long f0_variables, .ref q0_store, v0_tape, v0_base, v0_blamed, v0_gateList, v0_taking, v0_search, .int (bI f0_rowsFresh), .int (bI f0_gatesFresh), v0_latestFault, v0_latestNodes, v0_latestModel])), (q0_store, .inr (4, [v0_store_equations, .ref q0_store_yes, .ref q0_store_no, v0_store_equationCount, .int f0_store_clauseCount, v0_store_equationsBefore, v0_store_clausesBefore, v0_store_levelCount])), (q0_store_yes, .inl (cL, n0_store_yes, .inr (.inl h0_store_yes))), (q0_store_no, .inl (cL, n0_store_no, .inr (.inl h0_store_no))), (q5, .inl (cL, n5, .inr (.inl h5)))] sz) := by
  refine va_MetW (hh := [(0, 11, 14, 13), (0, 11, 18, 15)]) (cc := cL_clause) (maxL := 7) (ret := (some .int)) (by decide) rfl ?_
  intro p e s m args below meth c s₁ B hml hv
  obtain ⟨hargs, hsz, hP, hEV, hD0, hX⟩ := hv
  have hx := B.exec
  have hb := B.bytes
  have hr := B.returns
  have hts := atoms_spec (ws := wsL_clause) B.pre
  have hown : s.vm.findClass RL = some m.cls := findClass_of_methodNamed B.named
  have hlocks := B.notSynchronized
  have hK := hEV.K
  have htab := vx_table (x := yL_cell) B (hts _ List.mem_cons_self)
  have lk_0 := hts _ lk_0_L_clause
  have lk_1 := hts _ lk_1_L_clause
  subst hsz
  unfold QiW PoW
  have hD := hD0.self (sz := s.heap.size)
  generalize hAe : va_A [(q0, .inr (7, [v0_n, .long f0_variables, .ref q0_store, v0_tape, v0_base, v0_blamed, v0_gateList, v0_taking, v0_search, .int (bI f0_rowsFresh), .int (bI f0_gatesFresh), v0_latestFault, v0_latestNodes, v0_latestModel])), (q0_store, .inr (4, [v0_store_equations, .ref q0_store_yes, .ref q0_store_no, v0_store_equationCount, .int f0_store_clauseCount, v0_store_equationsBefore, v0_store_clausesBefore, v0_store_levelCount])), (q0_store_yes, .inl (cL, n0_store_yes, .inr (.inl h0_store_yes))), (q0_store_no, .inl (cL, n0_store_no, .inr (.inl h0_store_no))), (q5, .inl (cL, n5, .inr (.inl h5)))] s.heap.size = A at hD hX ⊢
  have hA : ∀ q : Nat, s.heap.size ≤ q → A q := fun q h => by rw [← hAe]; exact Or.inr h
  have hent : entryFrame m args 7 = entryFrame m ([.ref q0, .long x1, .long x3, .ref q5] : List Value).toArray 7 := by rw [hargs]
  rw [hent]
  refine kx_Q (fun Q hQ => ?_)
  refine kx_H (fun H hH => ?_)
  have hP : va_P D vwCl [(q0, .inr (7, [v0_n, .long f0_variables, .ref q0_store, v0_tape, v0_base, v0_blamed, v0_gateList, v0_taking, v0_search, .int (bI f0_rowsFresh), .int (bI f0_gatesFresh), v0_latestFault, v0_latestNodes, v0_latestModel])), (q0_store, .inr (4, [v0_store_equations, .ref q0_store_yes, .ref q0_store_no, v0_store_equationCount, .int f0_store_clauseCount, v0_store_equationsBefore, v0_store_clausesBefore, v0_store_levelCount])), (q0_store_yes, .inl (cL, n0_store_yes, .inr (.inl h0_store_yes))), (q0_store_no, .inl (cL, n0_store_no, .inr (.inl h0_store_no))), (q5, .inl (cL, n5, .inr (.inl h5)))] H := by rw [hH]; exact hP
  have hS : va_S A s.heap H [] := by rw [hH]; exact va_S.rf
  have hl := lv_entry ([.ref q0, .long x1, .long x3, .ref q5]) (n := 7) (Nat.le_of_ble_eq_true rfl)
  rw [lg_entry_eq]
  generalize (lg_sl ([.ref q0, .long x1, .long x3, .ref q5]) ++ List.replicate (7 - (lg_sl ([.ref q0, .long x1, .long x3, .ref q5])).length) Slot.unset).toArray = ls at hl ⊢
  have hl : lv_has ls 7 [(0, .ref q0), (1, .long x1), (3, .long x3), (5, .ref q5)] := hl
  have h := hr0
  unfold D_L_clause at h
  refine lv_aload hx hb dL_clause_0 (lv_at hl 3 rfl) ?_
  refine lv_iconst (v := (0 : Int32)) hx hb dL_clause_2 (by decide) ?_
  refine lv_aload_n hx hb dL_clause_3 rfl (lv_at hl 0 rfl) ?_
  refine lv_lload_n hx hb dL_clause_4 rfl (lv_at hl 1 rfl) ?_
  refine lv_lload_n hx hb dL_clause_5 rfl (lv_at hl 2 rfl) ?_
  obtain ⟨u_1, hu_2, h⟩ := co_b h
  refine ky_i (ws' := [(q0, .inr (7, [v0_n, .long f0_variables, .ref q0_store, v0_tape, v0_base, v0_blamed, v0_gateList, v0_taking, v0_search, .int (bI u_1.2.1), .int (bI u_1.2.2.1), v0_latestFault, v0_latestNodes, v0_latestModel])), (q0_store, .inr (4, [v0_store_equations, .ref q0_store_yes, .ref q0_store_no, v0_store_equationCount, .int u_1.2.2.2.1, v0_store_equationsBefore, v0_store_clausesBefore, v0_store_levelCount])), (q0_store_yes, .inl (cL, n0_store_yes, .inr (.inl u_1.2.2.2.2.1))), (q0_store_no, .inl (cL, n0_store_no, .inr (.inl u_1.2.2.2.2.2))), (q5, .inl (cL, n5, .inr (.inl h5)))]) hP hD hS hA [0, 1, 2, 3] [4] [1, 2, 3, 4, 0] rfl rfl (by decide) (by decide) rfl (by decide) (vx_runV (As := [.long x1, .long x3]) (rest := [.int (0 : Int32), .ref q5]) ⟨hx, hb, hml, hown, hts⟩ (cm_X7_clause l hltr D cI cL (q0 := q0) (q0_store := q0_store) (q0_store_yes := q0_store_yes) (q0_store_no := q0_store_no) (n0_store_yes := n0_store_yes) (n0_store_no := n0_store_no) (f0_variables := f0_variables) (f0_rowsFresh := f0_rowsFresh) (f0_gatesFresh := f0_gatesFresh) (f0_store_clauseCount := f0_store_clauseCount) (h0_store_yes := h0_store_yes) (h0_store_no := h0_store_no) (v0_n := v0_n) (v0_tape := v0_tape) (v0_base := v0_base) (v0_blamed := v0_blamed) (v0_gateList := v0_gateList) (v0_taking := v0_taking) (v0_search := v0_search) (v0_latestFault := v0_latestFault) (v0_latestNodes := v0_latestNodes) (v0_latestModel := v0_latestModel) (v0_store_equations := v0_store_equations) (v0_store_equationCount := v0_store_equationCount) (v0_store_equationsBefore := v0_store_equationsBefore) (v0_store_clausesBefore := v0_store_clausesBefore) (v0_store_levelCount := v0_store_levelCount) (x1 := x1) (x3 := x3) (r0 := u_1) (hr0 := hu_2) (sz := H.size)) (cwV 2 hts gL_clause_X7_clause rfl rfl rfl (by decide +kernel) ⟨Nat.le_of_ble_eq_true rfl, Nat.le_of_ble_eq_true rfl⟩) (ky_preV hEV hX hP hD hS hA [0, 1, 2, 3] rfl (by decide) (k0 := 0) (ci := 7) rfl rfl rfl) rfl rfl hl.1 rfl (lv_room (Nat.le_of_ble_eq_true rfl)) dL_clause_6 ⟨Nat.le_of_ble_eq_true rfl, Nat.le_of_ble_eq_true rfl⟩) (fun e_4 ce9 qe_5 H locs hz hP hD hS hc1 hc2 hc3 => ?_) (fun x_3 H locs hz hP hD hS => ?_)
  · have h := co_s2 hz h
    by_cases c_7 : e_4 = 0
    · subst c_7
      have h := co_t rfl h
      refine vx_catch (own := RL) (name := "java/lang/IllegalArgumentException") (E := exN 0) hown [] { startPc := 0, endPc := 11, handlerPc := 14, catchType := 13 } [{ startPc := 0, endPc := 11, handlerPc := 18, catchType := 15 }] (by rw [htab]; rfl) (fun z9 h9 => nomatch h9) (by decide) (by decide) lk_1 (va_Nw.use rfl hX.2.2.1) hc1 hc2 hc3 ?_
      refine lv_astore (lv' := [(6, .ref qe_5), (0, .ref q0), (1, .long x1), (3, .long x3), (5, .ref q5)]) hx hb dL_clause_14 hl (by decide) rfl (fun ls hl => ?_)
      refine lv_iconst (v := (1 : Int32)) hx hb dL_clause_16 (by decide) ?_
      have h := Option.some.inj h
      subst h
      subst hQ
      exact W.iret (v := (1 : Int32)) hx hb hr (fun t ht hW => ⟨⟨(1 : Int32), (), rfl, ⟨rfl, trivial⟩, by rw [ht]; exact hP, hD⟩, hS.F ht⟩) hS.2.2 dL_clause_17
    · have h := co_f c_7 h
      by_cases c_6 : e_4 = 1
      · subst c_6
        have h := co_t rfl h
        refine vx_catch (own := RL) (name := "java/lang/IllegalStateException") (E := exN 1) hown [{ startPc := 0, endPc := 11, handlerPc := 14, catchType := 13 }] { startPc := 0, endPc := 11, handlerPc := 18, catchType := 15 } [] (by rw [htab]; rfl) (fun z9 h9 => by rw [List.mem_singleton] at h9; subst h9; exact Or.inr ⟨by decide, "java/lang/IllegalArgumentException", lk_1, hX.2.2.2.2.2.1⟩) (by decide) (by decide) lk_0 (va_Nw.use rfl hX.2.2.2.1) hc1 hc2 hc3 ?_
        refine lv_astore (lv' := [(6, .ref qe_5), (0, .ref q0), (1, .long x1), (3, .long x3), (5, .ref q5)]) hx hb dL_clause_18 hl (by decide) rfl (fun ls hl => ?_)
        refine lv_iconst (v := (2 : Int32)) hx hb dL_clause_20 (by decide) ?_
        have h := Option.some.inj h
        subst h
        subst hQ
        exact W.iret (v := (2 : Int32)) hx hb hr (fun t ht hW => ⟨⟨(2 : Int32), (), rfl, ⟨rfl, trivial⟩, by rw [ht]; exact hP, hD⟩, hS.F ht⟩) hS.2.2 dL_clause_21
      · have h := co_f c_6 h
        cases h
  · have h := co_s1 hz h
    refine lv_i2l (v := x_3.toInt64) hx hb dL_clause_9 rfl ?_
    obtain ⟨b_8, h⟩ := co_i h
    refine va_last hx hb hK hP hD hS 4 1 rfl rfl b_8 dL_clause_10 (fun H locs hP hD hS => ?_)
    have hP : va_P D vwCl [(q0, .inr (7, [v0_n, .long f0_variables, .ref q0_store, v0_tape, v0_base, v0_blamed, v0_gateList, v0_taking, v0_search, .int (bI u_1.2.1), .int (bI u_1.2.2.1), v0_latestFault, v0_latestNodes, v0_latestModel])), (q0_store, .inr (4, [v0_store_equations, .ref q0_store_yes, .ref q0_store_no, v0_store_equationCount, .int u_1.2.2.2.1, v0_store_equationsBefore, v0_store_clausesBefore, v0_store_levelCount])), (q0_store_yes, .inl (cL, n0_store_yes, .inr (.inl u_1.2.2.2.2.1))), (q0_store_no, .inl (cL, n0_store_no, .inr (.inl u_1.2.2.2.2.2))), (q5, .inl (cL, n5, .inr (.inl (vp_updL h5 (0 : Int32).toNatClampNeg x_3.toInt64))))] H := hP
    have hD : va_D A [(q0, .inr (7, [v0_n, .long f0_variables, .ref q0_store, v0_tape, v0_base, v0_blamed, v0_gateList, v0_taking, v0_search, .int (bI u_1.2.1), .int (bI u_1.2.2.1), v0_latestFault, v0_latestNodes, v0_latestModel])), (q0_store, .inr (4, [v0_store_equations, .ref q0_store_yes, .ref q0_store_no, v0_store_equationCount, .int u_1.2.2.2.1, v0_store_equationsBefore, v0_store_clausesBefore, v0_store_levelCount])), (q0_store_yes, .inl (cL, n0_store_yes, .inr (.inl u_1.2.2.2.2.1))), (q0_store_no, .inl (cL, n0_store_no, .inr (.inl u_1.2.2.2.2.2))), (q5, .inl (cL, n5, .inr (.inl (vp_updL h5 (0 : Int32).toNatClampNeg x_3.toInt64))))] := hD
    refine lv_goto (tgt := 22) hx hb dL_clause_11 (by decide) ?_
    refine lv_iconst (v := (0 : Int32)) hx hb dL_clause_22 (by decide) ?_
    have h := Option.some.inj h
    subst h
    subst hQ
    exact W.iret (v := (0 : Int32)) hx hb hr (fun t ht hW => ⟨⟨(0 : Int32), (), rfl, ⟨rfl, trivial⟩, by rw [ht]; exact hP, hD⟩, hS.F ht⟩) hS.2.2 dL_clause_23
theorem lk_0_L_feed : Cond.classLink RL 15 "java/lang/IllegalStateException" ∈ wsL_feed := by decide +kernel
theorem lk_1_L_feed : Cond.classLink RL 13 "java/lang/IllegalArgumentException" ∈ wsL_feed := by decide +kernel
abbrev rm_L_feed : Room := { frames := 7, cells := 1, slots := 6, locals := 114 }
set_option maxHeartbeats 4000000 in
set_option maxRecDepth 100000 in
theorem cm_L_feed (l : Launch) (hltr : l.stackTraces = false) (D : va_G) (cI cL : ClassId) (q0 q0_tape q0_tape_bytes q4 : Nat) (n0_tape_bytes n4 : Nat) (f0_tape_length : Int32) (h0_tape_bytes : Nat → Int32) (h4 : Nat → Int64) (v0_n v0_variables v0_store v0_base v0_blamed v0_gateList v0_taking v0_search v0_rowsFresh v0_gatesFresh v0_latestFault v0_latestNodes v0_latestModel v0_tape_fault v0_tape_place v0_tape_isEquation v0_tape_first v0_tape_second v0_tape_rightIsOne : Value) (x1 : Int64) (x3 : Int32) (r0 : Int32 × Int32 × (Nat → Int32) × (Nat → Int64)) (hr0 : D_L_feed f0_tape_length n0_tape_bytes h0_tape_bytes n4 h4 x1 x3 = some r0) (sz : Nat) : Met l yL_feed wsL_feed rm_L_feed (PcX D cI cL [.ref q0, .long x1, .int x3, .ref q4] [(q0, .inr (7, [v0_n, v0_variables, v0_store, .ref q0_tape, v0_base, v0_blamed, v0_gateList, v0_taking, v0_search, v0_rowsFresh, v0_gatesFresh, v0_latestFault, v0_latestNodes, v0_latestModel])), (q0_tape, .inr (6, [.ref q0_tape_bytes, .int f0_tape_length, v0_tape_fault, v0_tape_place, v0_tape_isEquation, v0_tape_first, v0_tape_second, v0_tape_rightIsOne])), (q0_tape_bytes, .inl (cI, n0_tape_bytes, .inl h0_tape_bytes)), (q4, .inl (cL, n4, .inr (.inl h4)))] sz) (QiW D [(q0, .inr (7, [v0_n, v0_variables, v0_store, .ref q0_tape, v0_base, v0_blamed, v0_gateList, v0_taking, v0_search, v0_rowsFresh, v0_gatesFresh, v0_latestFault, v0_latestNodes, v0_latestModel])), (q0_tape, .inr (6, [.ref q0_tape_bytes, .int f0_tape_length, v0_tape_fault, v0_tape_place, v0_tape_isEquation, v0_tape_first, v0_tape_second, v0_tape_rightIsOne])), (q0_tape_bytes, .inl (cI, n0_tape_bytes, .inl h0_tape_bytes)), (q4, .inl (cL, n4, .inr (.inl h4)))] r0.1 (fun _ : Unit => [(q0, .inr (7, [v0_n, v0_variables, v0_store, .ref q0_tape, v0_base, v0_blamed, v0_gateList, v0_taking, v0_search, v0_rowsFresh, v0_gatesFresh, v0_latestFault, v0_latestNodes, v0_latestModel])), (q0_tape, .inr (6, [.ref q0_tape_bytes, .int r0.2.1, v0_tape_fault, v0_tape_place, v0_tape_isEquation, v0_tape_first, v0_tape_second, v0_tape_rightIsOne])), (q0_tape_bytes, .inl (cI, n0_tape_bytes, .inl r0.2.2.1)), (q4, .inl (cL, n4, .inr (.inl r0.2.2.2)))]) tU sz) 1 6 (va_A [(q0, .inr (7, [v0_n, v0_variables, v0_store, .ref q0_tape, v0_base, v0_blamed, v0_gateList, v0_taking, v0_search, v0_rowsFresh, v0_gatesFresh, v0_latestFault, v0_latestNodes, v0_latestModel])), (q0_tape, .inr (6, [.ref q0_tape_bytes, .int f0_tape_length, v0_tape_fault, v0_tape_place, v0_tape_isEquation, v0_tape_first, v0_tape_second, v0_tape_rightIsOne])), (q0_tape_bytes, .inl (cI, n0_tape_bytes, .inl h0_tape_bytes)), (q4, .inl (cL, n4, .inr (.inl h4)))] sz) := by
  refine va_MetW (hh := [(0, 11, 14, 13), (0, 11, 18, 15)]) (cc := cL_feed) (maxL := 6) (ret := (some .int)) (by decide) rfl ?_
  intro p e s m args below meth c s₁ B hml hv
  obtain ⟨hargs, hsz, hP, hEV, hD0, hX⟩ := hv
  have hx := B.exec
  have hb := B.bytes
  have hr := B.returns
  have hts := atoms_spec (ws := wsL_feed) B.pre
  have hown : s.vm.findClass RL = some m.cls := findClass_of_methodNamed B.named
  have hlocks := B.notSynchronized
  have hK := hEV.K
  have htab := vx_table (x := yL_cell) B (hts _ List.mem_cons_self)
  have lk_0 := hts _ lk_0_L_feed
  have lk_1 := hts _ lk_1_L_feed
  subst hsz
  unfold QiW PoW
  have hD := hD0.self (sz := s.heap.size)
  generalize hAe : va_A [(q0, .inr (7, [v0_n, v0_variables, v0_store, .ref q0_tape, v0_base, v0_blamed, v0_gateList, v0_taking, v0_search, v0_rowsFresh, v0_gatesFresh, v0_latestFault, v0_latestNodes, v0_latestModel])), (q0_tape, .inr (6, [.ref q0_tape_bytes, .int f0_tape_length, v0_tape_fault, v0_tape_place, v0_tape_isEquation, v0_tape_first, v0_tape_second, v0_tape_rightIsOne])), (q0_tape_bytes, .inl (cI, n0_tape_bytes, .inl h0_tape_bytes)), (q4, .inl (cL, n4, .inr (.inl h4)))] s.heap.size = A at hD hX ⊢
  have hA : ∀ q : Nat, s.heap.size ≤ q → A q := fun q h => by rw [← hAe]; exact Or.inr h
  have hent : entryFrame m args 6 = entryFrame m ([.ref q0, .long x1, .int x3, .ref q4] : List Value).toArray 6 := by rw [hargs]
  rw [hent]
  refine kx_Q (fun Q hQ => ?_)
  refine kx_H (fun H hH => ?_)
  have hP : va_P D vwCl [(q0, .inr (7, [v0_n, v0_variables, v0_store, .ref q0_tape, v0_base, v0_blamed, v0_gateList, v0_taking, v0_search, v0_rowsFresh, v0_gatesFresh, v0_latestFault, v0_latestNodes, v0_latestModel])), (q0_tape, .inr (6, [.ref q0_tape_bytes, .int f0_tape_length, v0_tape_fault, v0_tape_place, v0_tape_isEquation, v0_tape_first, v0_tape_second, v0_tape_rightIsOne])), (q0_tape_bytes, .inl (cI, n0_tape_bytes, .inl h0_tape_bytes)), (q4, .inl (cL, n4, .inr (.inl h4)))] H := by rw [hH]; exact hP
  have hS : va_S A s.heap H [] := by rw [hH]; exact va_S.rf
  have hl := lv_entry ([.ref q0, .long x1, .int x3, .ref q4]) (n := 6) (Nat.le_of_ble_eq_true rfl)
  rw [lg_entry_eq]
  generalize (lg_sl ([.ref q0, .long x1, .int x3, .ref q4]) ++ List.replicate (6 - (lg_sl ([.ref q0, .long x1, .int x3, .ref q4])).length) Slot.unset).toArray = ls at hl ⊢
  have hl : lv_has ls 6 [(0, .ref q0), (1, .long x1), (3, .int x3), (4, .ref q4)] := hl
  have h := hr0
  unfold D_L_feed at h
  refine lv_aload hx hb dL_feed_0 (lv_at hl 3 rfl) ?_
  refine lv_iconst (v := (0 : Int32)) hx hb dL_feed_2 (by decide) ?_
  refine lv_aload_n hx hb dL_feed_3 rfl (lv_at hl 0 rfl) ?_
  refine lv_lload_n hx hb dL_feed_4 rfl (lv_at hl 1 rfl) ?_
  refine lv_iload_n hx hb dL_feed_5 rfl (lv_at hl 2 rfl) ?_
  obtain ⟨u_1, hu_2, h⟩ := co_b h
  refine ky_i (ws' := [(q0, .inr (7, [v0_n, v0_variables, v0_store, .ref q0_tape, v0_base, v0_blamed, v0_gateList, v0_taking, v0_search, v0_rowsFresh, v0_gatesFresh, v0_latestFault, v0_latestNodes, v0_latestModel])), (q0_tape, .inr (6, [.ref q0_tape_bytes, .int u_1.2.1, v0_tape_fault, v0_tape_place, v0_tape_isEquation, v0_tape_first, v0_tape_second, v0_tape_rightIsOne])), (q0_tape_bytes, .inl (cI, n0_tape_bytes, .inl u_1.2.2)), (q4, .inl (cL, n4, .inr (.inl h4)))]) hP hD hS hA [0, 1, 2] [3] [1, 2, 3, 0] rfl rfl (by decide) (by decide) rfl (by decide) (vx_runV (As := [.long x1, .int x3]) (rest := [.int (0 : Int32), .ref q4]) ⟨hx, hb, hml, hown, hts⟩ (cm_X7_feed l hltr D cI cL (q0 := q0) (q0_tape := q0_tape) (q0_tape_bytes := q0_tape_bytes) (n0_tape_bytes := n0_tape_bytes) (f0_tape_length := f0_tape_length) (h0_tape_bytes := h0_tape_bytes) (v0_n := v0_n) (v0_variables := v0_variables) (v0_store := v0_store) (v0_base := v0_base) (v0_blamed := v0_blamed) (v0_gateList := v0_gateList) (v0_taking := v0_taking) (v0_search := v0_search) (v0_rowsFresh := v0_rowsFresh) (v0_gatesFresh := v0_gatesFresh) (v0_latestFault := v0_latestFault) (v0_latestNodes := v0_latestNodes) (v0_latestModel := v0_latestModel) (v0_tape_fault := v0_tape_fault) (v0_tape_place := v0_tape_place) (v0_tape_isEquation := v0_tape_isEquation) (v0_tape_first := v0_tape_first) (v0_tape_second := v0_tape_second) (v0_tape_rightIsOne := v0_tape_rightIsOne) (x1 := x1) (x3 := x3) (r0 := u_1) (hr0 := hu_2) (sz := H.size)) (cwV 2 hts gL_feed_X7_feed rfl rfl rfl (by decide +kernel) ⟨Nat.le_of_ble_eq_true rfl, Nat.le_of_ble_eq_true rfl⟩) (ky_preV hEV hX hP hD hS hA [0, 1, 2] rfl (by decide) (k0 := 0) (ci := 7) rfl rfl rfl) rfl rfl hl.1 rfl (lv_room (Nat.le_of_ble_eq_true rfl)) dL_feed_6 ⟨Nat.le_of_ble_eq_true rfl, Nat.le_of_ble_eq_true rfl⟩) (fun e_4 ce9 qe_5 H locs hz hP hD hS hc1 hc2 hc3 => ?_) (fun x_3 H locs hz hP hD hS => ?_)
  · have h := co_s2 hz h
    by_cases c_7 : e_4 = 0
    · subst c_7
      have h := co_t rfl h
      refine vx_catch (own := RL) (name := "java/lang/IllegalArgumentException") (E := exN 0) hown [] { startPc := 0, endPc := 11, handlerPc := 14, catchType := 13 } [{ startPc := 0, endPc := 11, handlerPc := 18, catchType := 15 }] (by rw [htab]; rfl) (fun z9 h9 => nomatch h9) (by decide) (by decide) lk_1 (va_Nw.use rfl hX.2.2.1) hc1 hc2 hc3 ?_
      refine lv_astore (lv' := [(5, .ref qe_5), (0, .ref q0), (1, .long x1), (3, .int x3), (4, .ref q4)]) hx hb dL_feed_14 hl (by decide) rfl (fun ls hl => ?_)
      refine lv_iconst (v := (1 : Int32)) hx hb dL_feed_16 (by decide) ?_
      have h := Option.some.inj h
      subst h
      subst hQ
      exact W.iret (v := (1 : Int32)) hx hb hr (fun t ht hW => ⟨⟨(1 : Int32), (), rfl, ⟨rfl, trivial⟩, by rw [ht]; exact hP, hD⟩, hS.F ht⟩) hS.2.2 dL_feed_17
    · have h := co_f c_7 h
      by_cases c_6 : e_4 = 1
      · subst c_6
        have h := co_t rfl h
        refine vx_catch (own := RL) (name := "java/lang/IllegalStateException") (E := exN 1) hown [{ startPc := 0, endPc := 11, handlerPc := 14, catchType := 13 }] { startPc := 0, endPc := 11, handlerPc := 18, catchType := 15 } [] (by rw [htab]; rfl) (fun z9 h9 => by rw [List.mem_singleton] at h9; subst h9; exact Or.inr ⟨by decide, "java/lang/IllegalArgumentException", lk_1, hX.2.2.2.2.2.1⟩) (by decide) (by decide) lk_0 (va_Nw.use rfl hX.2.2.2.1) hc1 hc2 hc3 ?_
        refine lv_astore (lv' := [(5, .ref qe_5), (0, .ref q0), (1, .long x1), (3, .int x3), (4, .ref q4)]) hx hb dL_feed_18 hl (by decide) rfl (fun ls hl => ?_)
        refine lv_iconst (v := (2 : Int32)) hx hb dL_feed_20 (by decide) ?_
        have h := Option.some.inj h
        subst h
        subst hQ
        exact W.iret (v := (2 : Int32)) hx hb hr (fun t ht hW => ⟨⟨(2 : Int32), (), rfl, ⟨rfl, trivial⟩, by rw [ht]; exact hP, hD⟩, hS.F ht⟩) hS.2.2 dL_feed_21
      · have h := co_f c_6 h
        cases h
  · have h := co_s1 hz h
    refine lv_i2l (v := x_3.toInt64) hx hb dL_feed_9 rfl ?_
    obtain ⟨b_8, h⟩ := co_i h
    refine va_last hx hb hK hP hD hS 3 1 rfl rfl b_8 dL_feed_10 (fun H locs hP hD hS => ?_)
    have hP : va_P D vwCl [(q0, .inr (7, [v0_n, v0_variables, v0_store, .ref q0_tape, v0_base, v0_blamed, v0_gateList, v0_taking, v0_search, v0_rowsFresh, v0_gatesFresh, v0_latestFault, v0_latestNodes, v0_latestModel])), (q0_tape, .inr (6, [.ref q0_tape_bytes, .int u_1.2.1, v0_tape_fault, v0_tape_place, v0_tape_isEquation, v0_tape_first, v0_tape_second, v0_tape_rightIsOne])), (q0_tape_bytes, .inl (cI, n0_tape_bytes, .inl u_1.2.2)), (q4, .inl (cL, n4, .inr (.inl (vp_updL h4 (0 : Int32).toNatClampNeg x_3.toInt64))))] H := hP
    have hD : va_D A [(q0, .inr (7, [v0_n, v0_variables, v0_store, .ref q0_tape, v0_base, v0_blamed, v0_gateList, v0_taking, v0_search, v0_rowsFresh, v0_gatesFresh, v0_latestFault, v0_latestNodes, v0_latestModel])), (q0_tape, .inr (6, [.ref q0_tape_bytes, .int u_1.2.1, v0_tape_fault, v0_tape_place, v0_tape_isEquation, v0_tape_first, v0_tape_second, v0_tape_rightIsOne])), (q0_tape_bytes, .inl (cI, n0_tape_bytes, .inl u_1.2.2)), (q4, .inl (cL, n4, .inr (.inl (vp_updL h4 (0 : Int32).toNatClampNeg x_3.toInt64))))] := hD
    refine lv_goto (tgt := 22) hx hb dL_feed_11 (by decide) ?_
    refine lv_iconst (v := (0 : Int32)) hx hb dL_feed_22 (by decide) ?_
    have h := Option.some.inj h
    subst h
    subst hQ
    exact W.iret (v := (0 : Int32)) hx hb hr (fun t ht hW => ⟨⟨(0 : Int32), (), rfl, ⟨rfl, trivial⟩, by rw [ht]; exact hP, hD⟩, hS.F ht⟩) hS.2.2 dL_feed_23
theorem lk_0_L_push : Cond.classLink RL 15 "java/lang/IllegalStateException" ∈ wsL_push := by decide +kernel
abbrev rm_L_push : Room := { frames := 7, cells := 1, slots := 6, locals := 110 }
set_option maxHeartbeats 4000000 in
set_option maxRecDepth 100000 in
theorem cm_L_push (l : Launch) (hltr : l.stackTraces = false) (D : va_G) (cI cL : ClassId) (q0 q0_store q0_store_equationsBefore q0_store_clausesBefore q1 : Nat) (n0_store_equationsBefore n0_store_clausesBefore n1 : Nat) (f0_store_equationCount : Int32) (f0_store_clauseCount : Int32) (f0_store_levelCount : Int32) (h0_store_equationsBefore : Nat → Int32) (h0_store_clausesBefore : Nat → Int32) (h1 : Nat → Int64) (v0_n v0_variables v0_tape v0_base v0_blamed v0_gateList v0_taking v0_search v0_rowsFresh v0_gatesFresh v0_latestFault v0_latestNodes v0_latestModel v0_store_equations v0_store_yes v0_store_no : Value) (r0 : Int32 × Int32 × (Nat → Int32) × (Nat → Int32) × (Nat → Int64)) (hr0 : D_L_push f0_store_equationCount f0_store_clauseCount f0_store_levelCount n0_store_equationsBefore h0_store_equationsBefore n0_store_clausesBefore h0_store_clausesBefore n1 h1 = some r0) (sz : Nat) : Met l yL_push wsL_push rm_L_push (PcX D cI cL [.ref q0, .ref q1] [(q0, .inr (7, [v0_n, v0_variables, .ref q0_store, v0_tape, v0_base, v0_blamed, v0_gateList, v0_taking, v0_search, v0_rowsFresh, v0_gatesFresh, v0_latestFault, v0_latestNodes, v0_latestModel])), (q0_store, .inr (4, [v0_store_equations, v0_store_yes, v0_store_no, .int f0_store_equationCount, .int f0_store_clauseCount, .ref q0_store_equationsBefore, .ref q0_store_clausesBefore, .int f0_store_levelCount])), (q0_store_equationsBefore, .inl (cI, n0_store_equationsBefore, .inl h0_store_equationsBefore)), (q0_store_clausesBefore, .inl (cI, n0_store_clausesBefore, .inl h0_store_clausesBefore)), (q1, .inl (cL, n1, .inr (.inl h1)))] sz) (QiW D [(q0, .inr (7, [v0_n, v0_variables, .ref q0_store, v0_tape, v0_base, v0_blamed, v0_gateList, v0_taking, v0_search, v0_rowsFresh, v0_gatesFresh, v0_latestFault, v0_latestNodes, v0_latestModel])), (q0_store, .inr (4, [v0_store_equations, v0_store_yes, v0_store_no, .int f0_store_equationCount, .int f0_store_clauseCount, .ref q0_store_equationsBefore, .ref q0_store_clausesBefore, .int f0_store_levelCount])), (q0_store_equationsBefore, .inl (cI, n0_store_equationsBefore, .inl h0_store_equationsBefore)), (q0_store_clausesBefore, .inl (cI, n0_store_clausesBefore, .inl h0_store_clausesBefore)), (q1, .inl (cL, n1, .inr (.inl h1)))] r0.1 (fun _ : Unit => [(q0, .inr (7, [v0_n, v0_variables, .ref q0_store, v0_tape, v0_base, v0_blamed, v0_gateList, v0_taking, v0_search, v0_rowsFresh, v0_gatesFresh, v0_latestFault, v0_latestNodes, v0_latestModel])), (q0_store, .inr (4, [v0_store_equations, v0_store_yes, v0_store_no, .int f0_store_equationCount, .int f0_store_clauseCount, .ref q0_store_equationsBefore, .ref q0_store_clausesBefore, .int r0.2.1])), (q0_store_equationsBefore, .inl (cI, n0_store_equationsBefore, .inl r0.2.2.1)), (q0_store_clausesBefore, .inl (cI, n0_store_clausesBefore, .inl r0.2.2.2.1)), (q1, .inl (cL, n1, .inr (.inl r0.2.2.2.2)))]) tU sz) 1 6 (va_A [(q0, .inr (7, [v0_n, v0_variables, .ref q0_store, v0_tape, v0_base, v0_blamed, v0_gateList, v0_taking, v0_search, v0_rowsFresh, v0_gatesFresh, v0_latestFault, v0_latestNodes, v0_latestModel])), (q0_store, .inr (4, [v0_store_equations, v0_store_yes, v0_store_no, .int f0_store_equationCount, .int f0_store_clauseCount, .ref q0_store_equationsBefore, .ref q0_store_clausesBefore, .int f0_store_levelCount])), (q0_store_equationsBefore, .inl (cI, n0_store_equationsBefore, .inl h0_store_equationsBefore)), (q0_store_clausesBefore, .inl (cI, n0_store_clausesBefore, .inl h0_store_clausesBefore)), (q1, .inl (cL, n1, .inr (.inl h1)))] sz) := by
  refine va_MetW (hh := [(0, 8, 11, 15)]) (cc := cL_push) (maxL := 3) (ret := (some .int)) (by decide) rfl ?_
  intro p e s m args below meth c s₁ B hml hv
  obtain ⟨hargs, hsz, hP, hEV, hD0, hX⟩ := hv
  have hx := B.exec
  have hb := B.bytes
  have hr := B.returns
  have hts := atoms_spec (ws := wsL_push) B.pre
  have hown : s.vm.findClass RL = some m.cls := findClass_of_methodNamed B.named
  have hlocks := B.notSynchronized
  have hK := hEV.K
  have htab := vx_table (x := yL_cell) B (hts _ List.mem_cons_self)
  have lk_0 := hts _ lk_0_L_push
  subst hsz
  unfold QiW PoW
  have hD := hD0.self (sz := s.heap.size)
  generalize hAe : va_A [(q0, .inr (7, [v0_n, v0_variables, .ref q0_store, v0_tape, v0_base, v0_blamed, v0_gateList, v0_taking, v0_search, v0_rowsFresh, v0_gatesFresh, v0_latestFault, v0_latestNodes, v0_latestModel])), (q0_store, .inr (4, [v0_store_equations, v0_store_yes, v0_store_no, .int f0_store_equationCount, .int f0_store_clauseCount, .ref q0_store_equationsBefore, .ref q0_store_clausesBefore, .int f0_store_levelCount])), (q0_store_equationsBefore, .inl (cI, n0_store_equationsBefore, .inl h0_store_equationsBefore)), (q0_store_clausesBefore, .inl (cI, n0_store_clausesBefore, .inl h0_store_clausesBefore)), (q1, .inl (cL, n1, .inr (.inl h1)))] s.heap.size = A at hD hX ⊢
  have hA : ∀ q : Nat, s.heap.size ≤ q → A q := fun q h => by rw [← hAe]; exact Or.inr h
  have hent : entryFrame m args 3 = entryFrame m ([.ref q0, .ref q1] : List Value).toArray 3 := by rw [hargs]
  rw [hent]
  refine kx_Q (fun Q hQ => ?_)
  refine kx_H (fun H hH => ?_)
  have hP : va_P D vwCl [(q0, .inr (7, [v0_n, v0_variables, .ref q0_store, v0_tape, v0_base, v0_blamed, v0_gateList, v0_taking, v0_search, v0_rowsFresh, v0_gatesFresh, v0_latestFault, v0_latestNodes, v0_latestModel])), (q0_store, .inr (4, [v0_store_equations, v0_store_yes, v0_store_no, .int f0_store_equationCount, .int f0_store_clauseCount, .ref q0_store_equationsBefore, .ref q0_store_clausesBefore, .int f0_store_levelCount])), (q0_store_equationsBefore, .inl (cI, n0_store_equationsBefore, .inl h0_store_equationsBefore)), (q0_store_clausesBefore, .inl (cI, n0_store_clausesBefore, .inl h0_store_clausesBefore)), (q1, .inl (cL, n1, .inr (.inl h1)))] H := by rw [hH]; exact hP
  have hS : va_S A s.heap H [] := by rw [hH]; exact va_S.rf
  have hl := lv_entry ([.ref q0, .ref q1]) (n := 3) (Nat.le_of_ble_eq_true rfl)
  rw [lg_entry_eq]
  generalize (lg_sl ([.ref q0, .ref q1]) ++ List.replicate (3 - (lg_sl ([.ref q0, .ref q1])).length) Slot.unset).toArray = ls at hl ⊢
  have hl : lv_has ls 3 [(0, .ref q0), (1, .ref q1)] := hl
  have h := hr0
  unfold D_L_push at h
  refine lv_aload_n hx hb dL_push_0 rfl (lv_at hl 1 rfl) ?_
  refine lv_iconst (v := (0 : Int32)) hx hb dL_push_1 (by decide) ?_
  refine lv_aload_n hx hb dL_push_2 rfl (lv_at hl 0 rfl) ?_
  obtain ⟨u_1, hu_2, h⟩ := co_b h
  refine ky_i (ws' := [(q0, .inr (7, [v0_n, v0_variables, .ref q0_store, v0_tape, v0_base, v0_blamed, v0_gateList, v0_taking, v0_search, v0_rowsFresh, v0_gatesFresh, v0_latestFault, v0_latestNodes, v0_latestModel])), (q0_store, .inr (4, [v0_store_equations, v0_store_yes, v0_store_no, .int f0_store_equationCount, .int f0_store_clauseCount, .ref q0_store_equationsBefore, .ref q0_store_clausesBefore, .int u_1.2.1])), (q0_store_equationsBefore, .inl (cI, n0_store_equationsBefore, .inl u_1.2.2.1)), (q0_store_clausesBefore, .inl (cI, n0_store_clausesBefore, .inl u_1.2.2.2)), (q1, .inl (cL, n1, .inr (.inl h1)))]) hP hD hS hA [0, 1, 2, 3] [4] [1, 2, 3, 4, 0] rfl rfl (by decide) (by decide) rfl (by decide) (vx_runV (As := []) (rest := [.int (0 : Int32), .ref q1]) ⟨hx, hb, hml, hown, hts⟩ (cm_X7_push l hltr D cI cL (q0 := q0) (q0_store := q0_store) (q0_store_equationsBefore := q0_store_equationsBefore) (q0_store_clausesBefore := q0_store_clausesBefore) (n0_store_equationsBefore := n0_store_equationsBefore) (n0_store_clausesBefore := n0_store_clausesBefore) (f0_store_equationCount := f0_store_equationCount) (f0_store_clauseCount := f0_store_clauseCount) (f0_store_levelCount := f0_store_levelCount) (h0_store_equationsBefore := h0_store_equationsBefore) (h0_store_clausesBefore := h0_store_clausesBefore) (v0_n := v0_n) (v0_variables := v0_variables) (v0_tape := v0_tape) (v0_base := v0_base) (v0_blamed := v0_blamed) (v0_gateList := v0_gateList) (v0_taking := v0_taking) (v0_search := v0_search) (v0_rowsFresh := v0_rowsFresh) (v0_gatesFresh := v0_gatesFresh) (v0_latestFault := v0_latestFault) (v0_latestNodes := v0_latestNodes) (v0_latestModel := v0_latestModel) (v0_store_equations := v0_store_equations) (v0_store_yes := v0_store_yes) (v0_store_no := v0_store_no) (r0 := u_1) (hr0 := hu_2) (sz := H.size)) (cwV 0 hts gL_push_X7_push rfl rfl rfl (by decide +kernel) ⟨Nat.le_of_ble_eq_true rfl, Nat.le_of_ble_eq_true rfl⟩) (ky_preV hEV hX hP hD hS hA [0, 1, 2, 3] rfl (by decide) (k0 := 0) (ci := 7) rfl rfl rfl) rfl rfl hl.1 rfl (lv_room (Nat.le_of_ble_eq_true rfl)) dL_push_3 ⟨Nat.le_of_ble_eq_true rfl, Nat.le_of_ble_eq_true rfl⟩) (fun e_4 ce9 qe_5 H locs hz hP hD hS hc1 hc2 hc3 => ?_) (fun x_3 H locs hz hP hD hS => ?_)
  · have h := co_s2 hz h
    by_cases c_6 : e_4 = 1
    · subst c_6
      have h := co_t rfl h
      refine vx_catch (own := RL) (name := "java/lang/IllegalStateException") (E := exN 1) hown [] { startPc := 0, endPc := 8, handlerPc := 11, catchType := 15 } [] (by rw [htab]; rfl) (fun z9 h9 => nomatch h9) (by decide) (by decide) lk_0 (va_Nw.use rfl hX.2.2.2.1) hc1 hc2 hc3 ?_
      refine lv_astore_n (lv' := [(2, .ref qe_5), (0, .ref q0), (1, .ref q1)]) hx hb dL_push_11 rfl hl (by decide) rfl (fun ls hl => ?_)
      refine lv_iconst (v := (1 : Int32)) hx hb dL_push_12 (by decide) ?_
      have h := Option.some.inj h
      subst h
      subst hQ
      exact W.iret (v := (1 : Int32)) hx hb hr (fun t ht hW => ⟨⟨(1 : Int32), (), rfl, ⟨rfl, trivial⟩, by rw [ht]; exact hP, hD⟩, hS.F ht⟩) hS.2.2 dL_push_13
    · have h := co_f c_6 h
      cases h
  · have h := co_s1 hz h
    refine lv_i2l (v := x_3.toInt64) hx hb dL_push_6 rfl ?_
    obtain ⟨b_7, h⟩ := co_i h
    refine va_last hx hb hK hP hD hS 4 1 rfl rfl b_7 dL_push_7 (fun H locs hP hD hS => ?_)
    have hP : va_P D vwCl [(q0, .inr (7, [v0_n, v0_variables, .ref q0_store, v0_tape, v0_base, v0_blamed, v0_gateList, v0_taking, v0_search, v0_rowsFresh, v0_gatesFresh, v0_latestFault, v0_latestNodes, v0_latestModel])), (q0_store, .inr (4, [v0_store_equations, v0_store_yes, v0_store_no, .int f0_store_equationCount, .int f0_store_clauseCount, .ref q0_store_equationsBefore, .ref q0_store_clausesBefore, .int u_1.2.1])), (q0_store_equationsBefore, .inl (cI, n0_store_equationsBefore, .inl u_1.2.2.1)), (q0_store_clausesBefore, .inl (cI, n0_store_clausesBefore, .inl u_1.2.2.2)), (q1, .inl (cL, n1, .inr (.inl (vp_updL h1 (0 : Int32).toNatClampNeg x_3.toInt64))))] H := hP
    have hD : va_D A [(q0, .inr (7, [v0_n, v0_variables, .ref q0_store, v0_tape, v0_base, v0_blamed, v0_gateList, v0_taking, v0_search, v0_rowsFresh, v0_gatesFresh, v0_latestFault, v0_latestNodes, v0_latestModel])), (q0_store, .inr (4, [v0_store_equations, v0_store_yes, v0_store_no, .int f0_store_equationCount, .int f0_store_clauseCount, .ref q0_store_equationsBefore, .ref q0_store_clausesBefore, .int u_1.2.1])), (q0_store_equationsBefore, .inl (cI, n0_store_equationsBefore, .inl u_1.2.2.1)), (q0_store_clausesBefore, .inl (cI, n0_store_clausesBefore, .inl u_1.2.2.2)), (q1, .inl (cL, n1, .inr (.inl (vp_updL h1 (0 : Int32).toNatClampNeg x_3.toInt64))))] := hD
    refine lv_goto (tgt := 14) hx hb dL_push_8 (by decide) ?_
    refine lv_iconst (v := (0 : Int32)) hx hb dL_push_14 (by decide) ?_
    have h := Option.some.inj h
    subst h
    subst hQ
    exact W.iret (v := (0 : Int32)) hx hb hr (fun t ht hW => ⟨⟨(0 : Int32), (), rfl, ⟨rfl, trivial⟩, by rw [ht]; exact hP, hD⟩, hS.F ht⟩) hS.2.2 dL_push_15
theorem lk_0_L_pop : Cond.classLink RL 13 "java/lang/IllegalArgumentException" ∈ wsL_pop := by decide +kernel
abbrev rm_L_pop : Room := { frames := 7, cells := 1, slots := 6, locals := 111 }
set_option maxHeartbeats 4000000 in
set_option maxRecDepth 100000 in
theorem cm_L_pop (l : Launch) (hltr : l.stackTraces = false) (D : va_G) (cI cL : ClassId) (q0 q0_store q0_store_equationsBefore q0_store_clausesBefore q2 : Nat) (n0_store_equationsBefore n0_store_clausesBefore n2 : Nat) (f0_rowsFresh : Bool) (f0_gatesFresh : Bool) (f0_store_equationCount : Int32) (f0_store_clauseCount : Int32) (f0_store_levelCount : Int32) (h0_store_equationsBefore : Nat → Int32) (h0_store_clausesBefore : Nat → Int32) (h2 : Nat → Int64) (v0_n v0_variables v0_tape v0_base v0_blamed v0_gateList v0_taking v0_search v0_latestFault v0_latestNodes v0_latestModel v0_store_equations v0_store_yes v0_store_no : Value) (x1 : Int32) (r0 : Int32 × Bool × Bool × Int32 × Int32 × Int32 × (Nat → Int64)) (hr0 : D_L_pop f0_rowsFresh f0_gatesFresh f0_store_equationCount f0_store_clauseCount f0_store_levelCount n0_store_equationsBefore h0_store_equationsBefore n0_store_clausesBefore h0_store_clausesBefore n2 h2 x1 = some r0) (sz : Nat) : Met l yL_pop wsL_pop rm_L_pop (PcX D cI cL [.ref q0, .int x1, .ref q2] [(q0, .inr (7, [v0_n, v0_variables, .ref q0_store, v0_tape, v0_base, v0_blamed, v0_gateList, v0_taking, v0_search, .int (bI f0_rowsFresh), .int (bI f0_gatesFresh), v0_latestFault, v0_latestNodes, v0_latestModel])), (q0_store, .inr (4, [v0_store_equations, v0_store_yes, v0_store_no, .int f0_store_equationCount, .int f0_store_clauseCount, .ref q0_store_equationsBefore, .ref q0_store_clausesBefore, .int f0_store_levelCount])), (q0_store_equationsBefore, .inl (cI, n0_store_equationsBefore, .inl h0_store_equationsBefore)), (q0_store_clausesBefore, .inl (cI, n0_store_clausesBefore, .inl h0_store_clausesBefore)), (q2, .inl (cL, n2, .inr (.inl h2)))] sz) (QiW D [(q0, .inr (7, [v0_n, v0_variables, .ref q0_store, v0_tape, v0_base, v0_blamed, v0_gateList, v0_taking, v0_search, .int (bI f0_rowsFresh), .int (bI f0_gatesFresh), v0_latestFault, v0_latestNodes, v0_latestModel])), (q0_store, .inr (4, [v0_store_equations, v0_store_yes, v0_store_no, .int f0_store_equationCount, .int f0_store_clauseCount, .ref q0_store_equationsBefore, .ref q0_store_clausesBefore, .int f0_store_levelCount])), (q0_store_equationsBefore, .inl (cI, n0_store_equationsBefore, .inl h0_store_equationsBefore)), (q0_store_clausesBefore, .inl (cI, n0_store_clausesBefore, .inl h0_store_clausesBefore)), (q2, .inl (cL, n2, .inr (.inl h2)))] r0.1 (fun _ : Unit => [(q0, .inr (7, [v0_n, v0_variables, .ref q0_store, v0_tape, v0_base, v0_blamed, v0_gateList, v0_taking, v0_search, .int (bI r0.2.1), .int (bI r0.2.2.1), v0_latestFault, v0_latestNodes, v0_latestModel])), (q0_store, .inr (4, [v0_store_equations, v0_store_yes, v0_store_no, .int r0.2.2.2.1, .int r0.2.2.2.2.1, .ref q0_store_equationsBefore, .ref q0_store_clausesBefore, .int r0.2.2.2.2.2.1])), (q0_store_equationsBefore, .inl (cI, n0_store_equationsBefore, .inl h0_store_equationsBefore)), (q0_store_clausesBefore, .inl (cI, n0_store_clausesBefore, .inl h0_store_clausesBefore)), (q2, .inl (cL, n2, .inr (.inl r0.2.2.2.2.2.2)))]) tU sz) 1 6 (va_A [(q0, .inr (7, [v0_n, v0_variables, .ref q0_store, v0_tape, v0_base, v0_blamed, v0_gateList, v0_taking, v0_search, .int (bI f0_rowsFresh), .int (bI f0_gatesFresh), v0_latestFault, v0_latestNodes, v0_latestModel])), (q0_store, .inr (4, [v0_store_equations, v0_store_yes, v0_store_no, .int f0_store_equationCount, .int f0_store_clauseCount, .ref q0_store_equationsBefore, .ref q0_store_clausesBefore, .int f0_store_levelCount])), (q0_store_equationsBefore, .inl (cI, n0_store_equationsBefore, .inl h0_store_equationsBefore)), (q0_store_clausesBefore, .inl (cI, n0_store_clausesBefore, .inl h0_store_clausesBefore)), (q2, .inl (cL, n2, .inr (.inl h2)))] sz) := by
  refine va_MetW (hh := [(0, 9, 12, 13)]) (cc := cL_pop) (maxL := 4) (ret := (some .int)) (by decide) rfl ?_
  intro p e s m args below meth c s₁ B hml hv
  obtain ⟨hargs, hsz, hP, hEV, hD0, hX⟩ := hv
  have hx := B.exec
  have hb := B.bytes
  have hr := B.returns
  have hts := atoms_spec (ws := wsL_pop) B.pre
  have hown : s.vm.findClass RL = some m.cls := findClass_of_methodNamed B.named
  have hlocks := B.notSynchronized
  have hK := hEV.K
  have htab := vx_table (x := yL_cell) B (hts _ List.mem_cons_self)
  have lk_0 := hts _ lk_0_L_pop
  subst hsz
  unfold QiW PoW
  have hD := hD0.self (sz := s.heap.size)
  generalize hAe : va_A [(q0, .inr (7, [v0_n, v0_variables, .ref q0_store, v0_tape, v0_base, v0_blamed, v0_gateList, v0_taking, v0_search, .int (bI f0_rowsFresh), .int (bI f0_gatesFresh), v0_latestFault, v0_latestNodes, v0_latestModel])), (q0_store, .inr (4, [v0_store_equations, v0_store_yes, v0_store_no, .int f0_store_equationCount, .int f0_store_clauseCount, .ref q0_store_equationsBefore, .ref q0_store_clausesBefore, .int f0_store_levelCount])), (q0_store_equationsBefore, .inl (cI, n0_store_equationsBefore, .inl h0_store_equationsBefore)), (q0_store_clausesBefore, .inl (cI, n0_store_clausesBefore, .inl h0_store_clausesBefore)), (q2, .inl (cL, n2, .inr (.inl h2)))] s.heap.size = A at hD hX ⊢
  have hA : ∀ q : Nat, s.heap.size ≤ q → A q := fun q h => by rw [← hAe]; exact Or.inr h
  have hent : entryFrame m args 4 = entryFrame m ([.ref q0, .int x1, .ref q2] : List Value).toArray 4 := by rw [hargs]
  rw [hent]
  refine kx_Q (fun Q hQ => ?_)
  refine kx_H (fun H hH => ?_)
  have hP : va_P D vwCl [(q0, .inr (7, [v0_n, v0_variables, .ref q0_store, v0_tape, v0_base, v0_blamed, v0_gateList, v0_taking, v0_search, .int (bI f0_rowsFresh), .int (bI f0_gatesFresh), v0_latestFault, v0_latestNodes, v0_latestModel])), (q0_store, .inr (4, [v0_store_equations, v0_store_yes, v0_store_no, .int f0_store_equationCount, .int f0_store_clauseCount, .ref q0_store_equationsBefore, .ref q0_store_clausesBefore, .int f0_store_levelCount])), (q0_store_equationsBefore, .inl (cI, n0_store_equationsBefore, .inl h0_store_equationsBefore)), (q0_store_clausesBefore, .inl (cI, n0_store_clausesBefore, .inl h0_store_clausesBefore)), (q2, .inl (cL, n2, .inr (.inl h2)))] H := by rw [hH]; exact hP
  have hS : va_S A s.heap H [] := by rw [hH]; exact va_S.rf
  have hl := lv_entry ([.ref q0, .int x1, .ref q2]) (n := 4) (Nat.le_of_ble_eq_true rfl)
  rw [lg_entry_eq]
  generalize (lg_sl ([.ref q0, .int x1, .ref q2]) ++ List.replicate (4 - (lg_sl ([.ref q0, .int x1, .ref q2])).length) Slot.unset).toArray = ls at hl ⊢
  have hl : lv_has ls 4 [(0, .ref q0), (1, .int x1), (2, .ref q2)] := hl
  have h := hr0
  unfold D_L_pop at h
  refine lv_aload_n hx hb dL_pop_0 rfl (lv_at hl 2 rfl) ?_
  refine lv_iconst (v := (0 : Int32)) hx hb dL_pop_1 (by decide) ?_
  refine lv_aload_n hx hb dL_pop_2 rfl (lv_at hl 0 rfl) ?_
  refine lv_iload_n hx hb dL_pop_3 rfl (lv_at hl 1 rfl) ?_
  obtain ⟨u_1, hu_2, h⟩ := co_b h
  refine ky_i (ws' := [(q0, .inr (7, [v0_n, v0_variables, .ref q0_store, v0_tape, v0_base, v0_blamed, v0_gateList, v0_taking, v0_search, .int (bI u_1.2.1), .int (bI u_1.2.2.1), v0_latestFault, v0_latestNodes, v0_latestModel])), (q0_store, .inr (4, [v0_store_equations, v0_store_yes, v0_store_no, .int u_1.2.2.2.1, .int u_1.2.2.2.2.1, .ref q0_store_equationsBefore, .ref q0_store_clausesBefore, .int u_1.2.2.2.2.2])), (q0_store_equationsBefore, .inl (cI, n0_store_equationsBefore, .inl h0_store_equationsBefore)), (q0_store_clausesBefore, .inl (cI, n0_store_clausesBefore, .inl h0_store_clausesBefore)), (q2, .inl (cL, n2, .inr (.inl h2)))]) hP hD hS hA [0, 1, 2, 3] [4] [1, 2, 3, 4, 0] rfl rfl (by decide) (by decide) rfl (by decide) (vx_runV (As := [.int x1]) (rest := [.int (0 : Int32), .ref q2]) ⟨hx, hb, hml, hown, hts⟩ (cm_X7_pop l hltr D cI cL (q0 := q0) (q0_store := q0_store) (q0_store_equationsBefore := q0_store_equationsBefore) (q0_store_clausesBefore := q0_store_clausesBefore) (n0_store_equationsBefore := n0_store_equationsBefore) (n0_store_clausesBefore := n0_store_clausesBefore) (f0_rowsFresh := f0_rowsFresh) (f0_gatesFresh := f0_gatesFresh) (f0_store_equationCount := f0_store_equationCount) (f0_store_clauseCount := f0_store_clauseCount) (f0_store_levelCount := f0_store_levelCount) (h0_store_equationsBefore := h0_store_equationsBefore) (h0_store_clausesBefore := h0_store_clausesBefore) (v0_n := v0_n) (v0_variables := v0_variables) (v0_tape := v0_tape) (v0_base := v0_base) (v0_blamed := v0_blamed) (v0_gateList := v0_gateList) (v0_taking := v0_taking) (v0_search := v0_search) (v0_latestFault := v0_latestFault) (v0_latestNodes := v0_latestNodes) (v0_latestModel := v0_latestModel) (v0_store_equations := v0_store_equations) (v0_store_yes := v0_store_yes) (v0_store_no := v0_store_no) (x1 := x1) (r0 := u_1) (hr0 := hu_2) (sz := H.size)) (cwV 1 hts gL_pop_X7_pop rfl rfl rfl (by decide +kernel) ⟨Nat.le_of_ble_eq_true rfl, Nat.le_of_ble_eq_true rfl⟩) (ky_preV hEV hX hP hD hS hA [0, 1, 2, 3] rfl (by decide) (k0 := 0) (ci := 7) rfl rfl rfl) rfl rfl hl.1 rfl (lv_room (Nat.le_of_ble_eq_true rfl)) dL_pop_4 ⟨Nat.le_of_ble_eq_true rfl, Nat.le_of_ble_eq_true rfl⟩) (fun e_4 ce9 qe_5 H locs hz hP hD hS hc1 hc2 hc3 => ?_) (fun x_3 H locs hz hP hD hS => ?_)
  · have h := co_s2 hz h
    by_cases c_6 : e_4 = 0
    · subst c_6
      have h := co_t rfl h
      refine vx_catch (own := RL) (name := "java/lang/IllegalArgumentException") (E := exN 0) hown [] { startPc := 0, endPc := 9, handlerPc := 12, catchType := 13 } [] (by rw [htab]; rfl) (fun z9 h9 => nomatch h9) (by decide) (by decide) lk_0 (va_Nw.use rfl hX.2.2.1) hc1 hc2 hc3 ?_
      refine lv_astore_n (lv' := [(3, .ref qe_5), (0, .ref q0), (1, .int x1), (2, .ref q2)]) hx hb dL_pop_12 rfl hl (by decide) rfl (fun ls hl => ?_)
      refine lv_iconst (v := (1 : Int32)) hx hb dL_pop_13 (by decide) ?_
      have h := Option.some.inj h
      subst h
      subst hQ
      exact W.iret (v := (1 : Int32)) hx hb hr (fun t ht hW => ⟨⟨(1 : Int32), (), rfl, ⟨rfl, trivial⟩, by rw [ht]; exact hP, hD⟩, hS.F ht⟩) hS.2.2 dL_pop_14
    · have h := co_f c_6 h
      cases h
  · have h := co_s1 hz h
    refine lv_i2l (v := x_3.toInt64) hx hb dL_pop_7 rfl ?_
    obtain ⟨b_7, h⟩ := co_i h
    refine va_last hx hb hK hP hD hS 4 1 rfl rfl b_7 dL_pop_8 (fun H locs hP hD hS => ?_)
    have hP : va_P D vwCl [(q0, .inr (7, [v0_n, v0_variables, .ref q0_store, v0_tape, v0_base, v0_blamed, v0_gateList, v0_taking, v0_search, .int (bI u_1.2.1), .int (bI u_1.2.2.1), v0_latestFault, v0_latestNodes, v0_latestModel])), (q0_store, .inr (4, [v0_store_equations, v0_store_yes, v0_store_no, .int u_1.2.2.2.1, .int u_1.2.2.2.2.1, .ref q0_store_equationsBefore, .ref q0_store_clausesBefore, .int u_1.2.2.2.2.2])), (q0_store_equationsBefore, .inl (cI, n0_store_equationsBefore, .inl h0_store_equationsBefore)), (q0_store_clausesBefore, .inl (cI, n0_store_clausesBefore, .inl h0_store_clausesBefore)), (q2, .inl (cL, n2, .inr (.inl (vp_updL h2 (0 : Int32).toNatClampNeg x_3.toInt64))))] H := hP
    have hD : va_D A [(q0, .inr (7, [v0_n, v0_variables, .ref q0_store, v0_tape, v0_base, v0_blamed, v0_gateList, v0_taking, v0_search, .int (bI u_1.2.1), .int (bI u_1.2.2.1), v0_latestFault, v0_latestNodes, v0_latestModel])), (q0_store, .inr (4, [v0_store_equations, v0_store_yes, v0_store_no, .int u_1.2.2.2.1, .int u_1.2.2.2.2.1, .ref q0_store_equationsBefore, .ref q0_store_clausesBefore, .int u_1.2.2.2.2.2])), (q0_store_equationsBefore, .inl (cI, n0_store_equationsBefore, .inl h0_store_equationsBefore)), (q0_store_clausesBefore, .inl (cI, n0_store_clausesBefore, .inl h0_store_clausesBefore)), (q2, .inl (cL, n2, .inr (.inl (vp_updL h2 (0 : Int32).toNatClampNeg x_3.toInt64))))] := hD
    refine lv_goto (tgt := 15) hx hb dL_pop_9 (by decide) ?_
    refine lv_iconst (v := (0 : Int32)) hx hb dL_pop_15 (by decide) ?_
    have h := Option.some.inj h
    subst h
    subst hQ
    exact W.iret (v := (0 : Int32)) hx hb hr (fun t ht hW => ⟨⟨(0 : Int32), (), rfl, ⟨rfl, trivial⟩, by rw [ht]; exact hP, hD⟩, hS.F ht⟩) hS.2.2 dL_pop_16
theorem lk_0_L_told : Cond.classLink RL 13 "java/lang/IllegalArgumentException" ∈ wsL_told := by decide +kernel
theorem lk_1_L_told : Cond.classLink RL 36 "java/lang/IndexOutOfBoundsException" ∈ wsL_told := by decide +kernel
abbrev rm_L_told : Room := { frames := 7, cells := 1, slots := 6, locals := 112 }
set_option maxHeartbeats 4000000 in
set_option maxRecDepth 100000 in
theorem cm_L_told (l : Launch) (hltr : l.stackTraces = false) (D : va_G) (cI cL : ClassId) (q0 q0_store q0_store_equations q0_store_yes q0_store_no q3 : Nat) (n0_store_equations n0_store_yes n0_store_no n3 : Nat) (f0_store_equationCount : Int32) (f0_store_clauseCount : Int32) (h0_store_equations : Nat → Int64) (h0_store_yes : Nat → Int64) (h0_store_no : Nat → Int64) (h3 : Nat → Int64) (v0_n v0_variables v0_tape v0_base v0_blamed v0_gateList v0_taking v0_search v0_rowsFresh v0_gatesFresh v0_latestFault v0_latestNodes v0_latestModel v0_store_equationsBefore v0_store_clausesBefore v0_store_levelCount : Value) (x1 : Int32) (x2 : Int32) (r0 : Int32 × (Nat → Int64)) (hr0 : D_L_told f0_store_equationCount f0_store_clauseCount n0_store_equations h0_store_equations n0_store_yes h0_store_yes n0_store_no h0_store_no n3 h3 x1 x2 = some r0) (sz : Nat) : Met l yL_told wsL_told rm_L_told (PcX D cI cL [.ref q0, .int x1, .int x2, .ref q3] [(q0, .inr (7, [v0_n, v0_variables, .ref q0_store, v0_tape, v0_base, v0_blamed, v0_gateList, v0_taking, v0_search, v0_rowsFresh, v0_gatesFresh, v0_latestFault, v0_latestNodes, v0_latestModel])), (q0_store, .inr (4, [.ref q0_store_equations, .ref q0_store_yes, .ref q0_store_no, .int f0_store_equationCount, .int f0_store_clauseCount, v0_store_equationsBefore, v0_store_clausesBefore, v0_store_levelCount])), (q0_store_equations, .inl (cL, n0_store_equations, .inr (.inl h0_store_equations))), (q0_store_yes, .inl (cL, n0_store_yes, .inr (.inl h0_store_yes))), (q0_store_no, .inl (cL, n0_store_no, .inr (.inl h0_store_no))), (q3, .inl (cL, n3, .inr (.inl h3)))] sz) (QiW D [(q0, .inr (7, [v0_n, v0_variables, .ref q0_store, v0_tape, v0_base, v0_blamed, v0_gateList, v0_taking, v0_search, v0_rowsFresh, v0_gatesFresh, v0_latestFault, v0_latestNodes, v0_latestModel])), (q0_store, .inr (4, [.ref q0_store_equations, .ref q0_store_yes, .ref q0_store_no, .int f0_store_equationCount, .int f0_store_clauseCount, v0_store_equationsBefore, v0_store_clausesBefore, v0_store_levelCount])), (q0_store_equations, .inl (cL, n0_store_equations, .inr (.inl h0_store_equations))), (q0_store_yes, .inl (cL, n0_store_yes, .inr (.inl h0_store_yes))), (q0_store_no, .inl (cL, n0_store_no, .inr (.inl h0_store_no))), (q3, .inl (cL, n3, .inr (.inl h3)))] r0.1 (fun _ : Unit => [(q0, .inr (7, [v0_n, v0_variables, .ref q0_store, v0_tape, v0_base, v0_blamed, v0_gateList, v0_taking, v0_search, v0_rowsFresh, v0_gatesFresh, v0_latestFault, v0_latestNodes, v0_latestModel])), (q0_store, .inr (4, [.ref q0_store_equations, .ref q0_store_yes, .ref q0_store_no, .int f0_store_equationCount, .int f0_store_clauseCount, v0_store_equationsBefore, v0_store_clausesBefore, v0_store_levelCount])), (q0_store_equations, .inl (cL, n0_store_equations, .inr (.inl h0_store_equations))), (q0_store_yes, .inl (cL, n0_store_yes, .inr (.inl h0_store_yes))), (q0_store_no, .inl (cL, n0_store_no, .inr (.inl h0_store_no))), (q3, .inl (cL, n3, .inr (.inl r0.2)))]) tU sz) 1 6 (va_A [(q0, .inr (7, [v0_n, v0_variables, .ref q0_store, v0_tape, v0_base, v0_blamed, v0_gateList, v0_taking, v0_search, v0_rowsFresh, v0_gatesFresh, v0_latestFault, v0_latestNodes, v0_latestModel])), (q0_store, .inr (4, [.ref q0_store_equations, .ref q0_store_yes, .ref q0_store_no, .int f0_store_equationCount, .int f0_store_clauseCount, v0_store_equationsBefore, v0_store_clausesBefore, v0_store_levelCount])), (q0_store_equations, .inl (cL, n0_store_equations, .inr (.inl h0_store_equations))), (q0_store_yes, .inl (cL, n0_store_yes, .inr (.inl h0_store_yes))), (q0_store_no, .inl (cL, n0_store_no, .inr (.inl h0_store_no))), (q3, .inl (cL, n3, .inr (.inl h3)))] sz) := by
  refine va_MetW (hh := [(0, 9, 12, 36), (0, 9, 16, 13)]) (cc := cL_told) (maxL := 5) (ret := (some .int)) (by decide) rfl ?_
  intro p e s m args below meth c s₁ B hml hv
  obtain ⟨hargs, hsz, hP, hEV, hD0, hX⟩ := hv
  have hx := B.exec
  have hb := B.bytes
  have hr := B.returns
  have hts := atoms_spec (ws := wsL_told) B.pre
  have hown : s.vm.findClass RL = some m.cls := findClass_of_methodNamed B.named
  have hlocks := B.notSynchronized
  have hK := hEV.K
  have htab := vx_table (x := yL_cell) B (hts _ List.mem_cons_self)
  have lk_0 := hts _ lk_0_L_told
  have lk_1 := hts _ lk_1_L_told
  subst hsz
  unfold QiW PoW
  have hD := hD0.self (sz := s.heap.size)
  generalize hAe : va_A [(q0, .inr (7, [v0_n, v0_variables, .ref q0_store, v0_tape, v0_base, v0_blamed, v0_gateList, v0_taking, v0_search, v0_rowsFresh, v0_gatesFresh, v0_latestFault, v0_latestNodes, v0_latestModel])), (q0_store, .inr (4, [.ref q0_store_equations, .ref q0_store_yes, .ref q0_store_no, .int f0_store_equationCount, .int f0_store_clauseCount, v0_store_equationsBefore, v0_store_clausesBefore, v0_store_levelCount])), (q0_store_equations, .inl (cL, n0_store_equations, .inr (.inl h0_store_equations))), (q0_store_yes, .inl (cL, n0_store_yes, .inr (.inl h0_store_yes))), (q0_store_no, .inl (cL, n0_store_no, .inr (.inl h0_store_no))), (q3, .inl (cL, n3, .inr (.inl h3)))] s.heap.size = A at hD hX ⊢
  have hA : ∀ q : Nat, s.heap.size ≤ q → A q := fun q h => by rw [← hAe]; exact Or.inr h
  have hent : entryFrame m args 5 = entryFrame m ([.ref q0, .int x1, .int x2, .ref q3] : List Value).toArray 5 := by rw [hargs]
  rw [hent]
  refine kx_Q (fun Q hQ => ?_)
  refine kx_H (fun H hH => ?_)
  have hP : va_P D vwCl [(q0, .inr (7, [v0_n, v0_variables, .ref q0_store, v0_tape, v0_base, v0_blamed, v0_gateList, v0_taking, v0_search, v0_rowsFresh, v0_gatesFresh, v0_latestFault, v0_latestNodes, v0_latestModel])), (q0_store, .inr (4, [.ref q0_store_equations, .ref q0_store_yes, .ref q0_store_no, .int f0_store_equationCount, .int f0_store_clauseCount, v0_store_equationsBefore, v0_store_clausesBefore, v0_store_levelCount])), (q0_store_equations, .inl (cL, n0_store_equations, .inr (.inl h0_store_equations))), (q0_store_yes, .inl (cL, n0_store_yes, .inr (.inl h0_store_yes))), (q0_store_no, .inl (cL, n0_store_no, .inr (.inl h0_store_no))), (q3, .inl (cL, n3, .inr (.inl h3)))] H := by rw [hH]; exact hP
  have hS : va_S A s.heap H [] := by rw [hH]; exact va_S.rf
  have hl := lv_entry ([.ref q0, .int x1, .int x2, .ref q3]) (n := 5) (Nat.le_of_ble_eq_true rfl)
  rw [lg_entry_eq]
  generalize (lg_sl ([.ref q0, .int x1, .int x2, .ref q3]) ++ List.replicate (5 - (lg_sl ([.ref q0, .int x1, .int x2, .ref q3])).length) Slot.unset).toArray = ls at hl ⊢
  have hl : lv_has ls 5 [(0, .ref q0), (1, .int x1), (2, .int x2), (3, .ref q3)] := hl
  have h := hr0
  unfold D_L_told at h
  refine lv_aload_n hx hb dL_told_0 rfl (lv_at hl 3 rfl) ?_
  refine lv_iconst (v := (0 : Int32)) hx hb dL_told_1 (by decide) ?_
  refine lv_aload_n hx hb dL_told_2 rfl (lv_at hl 0 rfl) ?_
  refine lv_iload_n hx hb dL_told_3 rfl (lv_at hl 1 rfl) ?_
  refine lv_iload_n hx hb dL_told_4 rfl (lv_at hl 2 rfl) ?_
  obtain ⟨u_1, hu_2, h⟩ := co_b h
  refine ky_l (ws' := [(q0, .inr (7, [v0_n, v0_variables, .ref q0_store, v0_tape, v0_base, v0_blamed, v0_gateList, v0_taking, v0_search, v0_rowsFresh, v0_gatesFresh, v0_latestFault, v0_latestNodes, v0_latestModel])), (q0_store, .inr (4, [.ref q0_store_equations, .ref q0_store_yes, .ref q0_store_no, .int f0_store_equationCount, .int f0_store_clauseCount, v0_store_equationsBefore, v0_store_clausesBefore, v0_store_levelCount])), (q0_store_equations, .inl (cL, n0_store_equations, .inr (.inl h0_store_equations))), (q0_store_yes, .inl (cL, n0_store_yes, .inr (.inl h0_store_yes))), (q0_store_no, .inl (cL, n0_store_no, .inr (.inl h0_store_no))), (q3, .inl (cL, n3, .inr (.inl h3)))]) hP hD hS hA [0, 1, 2, 3, 4] [5] [1, 2, 3, 4, 5, 0] rfl rfl (by decide) (by decide) rfl (by decide) (vx_runV (As := [.int x1, .int x2]) (rest := [.int (0 : Int32), .ref q3]) ⟨hx, hb, hml, hown, hts⟩ (cm_X7_told l hltr D cI cL (q0 := q0) (q0_store := q0_store) (q0_store_equations := q0_store_equations) (q0_store_yes := q0_store_yes) (q0_store_no := q0_store_no) (n0_store_equations := n0_store_equations) (n0_store_yes := n0_store_yes) (n0_store_no := n0_store_no) (f0_store_equationCount := f0_store_equationCount) (f0_store_clauseCount := f0_store_clauseCount) (h0_store_equations := h0_store_equations) (h0_store_yes := h0_store_yes) (h0_store_no := h0_store_no) (v0_n := v0_n) (v0_variables := v0_variables) (v0_tape := v0_tape) (v0_base := v0_base) (v0_blamed := v0_blamed) (v0_gateList := v0_gateList) (v0_taking := v0_taking) (v0_search := v0_search) (v0_rowsFresh := v0_rowsFresh) (v0_gatesFresh := v0_gatesFresh) (v0_latestFault := v0_latestFault) (v0_latestNodes := v0_latestNodes) (v0_latestModel := v0_latestModel) (v0_store_equationsBefore := v0_store_equationsBefore) (v0_store_clausesBefore := v0_store_clausesBefore) (v0_store_levelCount := v0_store_levelCount) (x1 := x1) (x2 := x2) (r0 := u_1) (hr0 := hu_2) (sz := H.size)) (cwV 2 hts gL_told_X7_told rfl rfl rfl (by decide +kernel) ⟨Nat.le_of_ble_eq_true rfl, Nat.le_of_ble_eq_true rfl⟩) (ky_preV hEV hX hP hD hS hA [0, 1, 2, 3, 4] rfl (by decide) (k0 := 0) (ci := 7) rfl rfl rfl) rfl rfl hl.1 rfl (lv_room (Nat.le_of_ble_eq_true rfl)) dL_told_5 ⟨Nat.le_of_ble_eq_true rfl, Nat.le_of_ble_eq_true rfl⟩) (fun e_4 ce9 qe_5 H locs hz hP hD hS hc1 hc2 hc3 => ?_) (fun x_3 H locs hz hP hD hS => ?_)
  · have h := co_s2 hz h
    by_cases c_7 : e_4 = 2
    · subst c_7
      have h := co_t rfl h
      refine vx_catch (own := RL) (name := "java/lang/IndexOutOfBoundsException") (E := exN 2) hown [] { startPc := 0, endPc := 9, handlerPc := 12, catchType := 36 } [{ startPc := 0, endPc := 9, handlerPc := 16, catchType := 13 }] (by rw [htab]; rfl) (fun z9 h9 => nomatch h9) (by decide) (by decide) lk_1 (va_Nw.use rfl hX.2.2.2.2.1) hc1 hc2 hc3 ?_
      refine lv_astore (lv' := [(4, .ref qe_5), (0, .ref q0), (1, .int x1), (2, .int x2), (3, .ref q3)]) hx hb dL_told_12 hl (by decide) rfl (fun ls hl => ?_)
      refine lv_iconst (v := (1 : Int32)) hx hb dL_told_14 (by decide) ?_
      have h := Option.some.inj h
      subst h
      subst hQ
      exact W.iret (v := (1 : Int32)) hx hb hr (fun t ht hW => ⟨⟨(1 : Int32), (), rfl, ⟨rfl, trivial⟩, by rw [ht]; exact hP, hD⟩, hS.F ht⟩) hS.2.2 dL_told_15
    · have h := co_f c_7 h
      by_cases c_6 : e_4 = 0
      · subst c_6
        have h := co_t rfl h
        refine vx_catch (own := RL) (name := "java/lang/IllegalArgumentException") (E := exN 0) hown [{ startPc := 0, endPc := 9, handlerPc := 12, catchType := 36 }] { startPc := 0, endPc := 9, handlerPc := 16, catchType := 13 } [] (by rw [htab]; rfl) (fun z9 h9 => by rw [List.mem_singleton] at h9; subst h9; exact Or.inr ⟨by decide, "java/lang/IndexOutOfBoundsException", lk_1, hX.2.2.2.2.2.2.1⟩) (by decide) (by decide) lk_0 (va_Nw.use rfl hX.2.2.1) hc1 hc2 hc3 ?_
        refine lv_astore (lv' := [(4, .ref qe_5), (0, .ref q0), (1, .int x1), (2, .int x2), (3, .ref q3)]) hx hb dL_told_16 hl (by decide) rfl (fun ls hl => ?_)
        refine lv_iconst (v := (2 : Int32)) hx hb dL_told_18 (by decide) ?_
        have h := Option.some.inj h
        subst h
        subst hQ
        exact W.iret (v := (2 : Int32)) hx hb hr (fun t ht hW => ⟨⟨(2 : Int32), (), rfl, ⟨rfl, trivial⟩, by rw [ht]; exact hP, hD⟩, hS.F ht⟩) hS.2.2 dL_told_19
      · have h := co_f c_6 h
        cases h
  · have h := co_s1 hz h
    obtain ⟨b_8, h⟩ := co_i h
    refine va_last hx hb hK hP hD hS 5 1 rfl rfl b_8 dL_told_8 (fun H locs hP hD hS => ?_)
    have hP : va_P D vwCl [(q0, .inr (7, [v0_n, v0_variables, .ref q0_store, v0_tape, v0_base, v0_blamed, v0_gateList, v0_taking, v0_search, v0_rowsFresh, v0_gatesFresh, v0_latestFault, v0_latestNodes, v0_latestModel])), (q0_store, .inr (4, [.ref q0_store_equations, .ref q0_store_yes, .ref q0_store_no, .int f0_store_equationCount, .int f0_store_clauseCount, v0_store_equationsBefore, v0_store_clausesBefore, v0_store_levelCount])), (q0_store_equations, .inl (cL, n0_store_equations, .inr (.inl h0_store_equations))), (q0_store_yes, .inl (cL, n0_store_yes, .inr (.inl h0_store_yes))), (q0_store_no, .inl (cL, n0_store_no, .inr (.inl h0_store_no))), (q3, .inl (cL, n3, .inr (.inl (vp_updL h3 (0 : Int32).toNatClampNeg x_3))))] H := hP
    have hD : va_D A [(q0, .inr (7, [v0_n, v0_variables, .ref q0_store, v0_tape, v0_base, v0_blamed, v0_gateList, v0_taking, v0_search, v0_rowsFresh, v0_gatesFresh, v0_latestFault, v0_latestNodes, v0_latestModel])), (q0_store, .inr (4, [.ref q0_store_equations, .ref q0_store_yes, .ref q0_store_no, .int f0_store_equationCount, .int f0_store_clauseCount, v0_store_equationsBefore, v0_store_clausesBefore, v0_store_levelCount])), (q0_store_equations, .inl (cL, n0_store_equations, .inr (.inl h0_store_equations))), (q0_store_yes, .inl (cL, n0_store_yes, .inr (.inl h0_store_yes))), (q0_store_no, .inl (cL, n0_store_no, .inr (.inl h0_store_no))), (q3, .inl (cL, n3, .inr (.inl (vp_updL h3 (0 : Int32).toNatClampNeg x_3))))] := hD
    refine lv_goto (tgt := 20) hx hb dL_told_9 (by decide) ?_
    refine lv_iconst (v := (0 : Int32)) hx hb dL_told_20 (by decide) ?_
    have h := Option.some.inj h
    subst h
    subst hQ
    exact W.iret (v := (0 : Int32)) hx hb hr (fun t ht hW => ⟨⟨(0 : Int32), (), rfl, ⟨rfl, trivial⟩, by rw [ht]; exact hP, hD⟩, hS.F ht⟩) hS.2.2 dL_told_21
theorem lk_0_L_row : Cond.classLink RL 36 "java/lang/IndexOutOfBoundsException" ∈ wsL_row := by decide +kernel
abbrev rm_L_row : Room := { frames := 7, cells := 1, slots := 6, locals := 113 }
set_option maxHeartbeats 4000000 in
set_option maxRecDepth 100000 in
theorem cm_L_row (l : Launch) (hltr : l.stackTraces = false) (D : va_G) (cI cL : ClassId) (q0 q0_store q0_store_equations q0_base q0_base_byHead q2 : Nat) (n0_store_equations n0_base_byHead n2 : Nat) (f0_rowsFresh : Bool) (f0_store_equationCount : Int32) (h0_store_equations : Nat → Int64) (f0_base_n : Int32) (f0_base_impossible : Bool) (h0_base_byHead : Nat → Int64) (h2 : Nat → Int64) (v0_n v0_variables v0_tape v0_blamed v0_gateList v0_taking v0_search v0_gatesFresh v0_latestFault v0_latestNodes v0_latestModel v0_store_yes v0_store_no v0_store_clauseCount v0_store_equationsBefore v0_store_clausesBefore v0_store_levelCount : Value) (x1 : Int32) (r0 : Int32 × Bool × Bool × (Nat → Int64) × (Nat → Int64)) (hr0 : D_L_row f0_rowsFresh f0_store_equationCount n0_store_equations h0_store_equations f0_base_n f0_base_impossible n0_base_byHead h0_base_byHead n2 h2 x1 = some r0) (sz : Nat) : Met l yL_row wsL_row rm_L_row (PcX D cI cL [.ref q0, .int x1, .ref q2] [(q0, .inr (7, [v0_n, v0_variables, .ref q0_store, v0_tape, .ref q0_base, v0_blamed, v0_gateList, v0_taking, v0_search, .int (bI f0_rowsFresh), v0_gatesFresh, v0_latestFault, v0_latestNodes, v0_latestModel])), (q0_store, .inr (4, [.ref q0_store_equations, v0_store_yes, v0_store_no, .int f0_store_equationCount, v0_store_clauseCount, v0_store_equationsBefore, v0_store_clausesBefore, v0_store_levelCount])), (q0_store_equations, .inl (cL, n0_store_equations, .inr (.inl h0_store_equations))), (q0_base, .inr (2, [.int f0_base_n, .ref q0_base_byHead, .int (bI f0_base_impossible)])), (q0_base_byHead, .inl (cL, n0_base_byHead, .inr (.inl h0_base_byHead))), (q2, .inl (cL, n2, .inr (.inl h2)))] sz) (QiW D [(q0, .inr (7, [v0_n, v0_variables, .ref q0_store, v0_tape, .ref q0_base, v0_blamed, v0_gateList, v0_taking, v0_search, .int (bI f0_rowsFresh), v0_gatesFresh, v0_latestFault, v0_latestNodes, v0_latestModel])), (q0_store, .inr (4, [.ref q0_store_equations, v0_store_yes, v0_store_no, .int f0_store_equationCount, v0_store_clauseCount, v0_store_equationsBefore, v0_store_clausesBefore, v0_store_levelCount])), (q0_store_equations, .inl (cL, n0_store_equations, .inr (.inl h0_store_equations))), (q0_base, .inr (2, [.int f0_base_n, .ref q0_base_byHead, .int (bI f0_base_impossible)])), (q0_base_byHead, .inl (cL, n0_base_byHead, .inr (.inl h0_base_byHead))), (q2, .inl (cL, n2, .inr (.inl h2)))] r0.1 (fun _ : Unit => [(q0, .inr (7, [v0_n, v0_variables, .ref q0_store, v0_tape, .ref q0_base, v0_blamed, v0_gateList, v0_taking, v0_search, .int (bI r0.2.1), v0_gatesFresh, v0_latestFault, v0_latestNodes, v0_latestModel])), (q0_store, .inr (4, [.ref q0_store_equations, v0_store_yes, v0_store_no, .int f0_store_equationCount, v0_store_clauseCount, v0_store_equationsBefore, v0_store_clausesBefore, v0_store_levelCount])), (q0_store_equations, .inl (cL, n0_store_equations, .inr (.inl h0_store_equations))), (q0_base, .inr (2, [.int f0_base_n, .ref q0_base_byHead, .int (bI r0.2.2.1)])), (q0_base_byHead, .inl (cL, n0_base_byHead, .inr (.inl r0.2.2.2.1))), (q2, .inl (cL, n2, .inr (.inl r0.2.2.2.2)))]) tU sz) 1 6 (va_A [(q0, .inr (7, [v0_n, v0_variables, .ref q0_store, v0_tape, .ref q0_base, v0_blamed, v0_gateList, v0_taking, v0_search, .int (bI f0_rowsFresh), v0_gatesFresh, v0_latestFault, v0_latestNodes, v0_latestModel])), (q0_store, .inr (4, [.ref q0_store_equations, v0_store_yes, v0_store_no, .int f0_store_equationCount, v0_store_clauseCount, v0_store_equationsBefore, v0_store_clausesBefore, v0_store_levelCount])), (q0_store_equations, .inl (cL, n0_store_equations, .inr (.inl h0_store_equations))), (q0_base, .inr (2, [.int f0_base_n, .ref q0_base_byHead, .int (bI f0_base_impossible)])), (q0_base_byHead, .inl (cL, n0_base_byHead, .inr (.inl h0_base_byHead))), (q2, .inl (cL, n2, .inr (.inl h2)))] sz) := by
  refine va_MetW (hh := [(0, 8, 11, 36)]) (cc := cL_row) (maxL := 4) (ret := (some .int)) (by decide) rfl ?_
  intro p e s m args below meth c s₁ B hml hv
  obtain ⟨hargs, hsz, hP, hEV, hD0, hX⟩ := hv
  have hx := B.exec
  have hb := B.bytes
  have hr := B.returns
  have hts := atoms_spec (ws := wsL_row) B.pre
  have hown : s.vm.findClass RL = some m.cls := findClass_of_methodNamed B.named
  have hlocks := B.notSynchronized
  have hK := hEV.K
  have htab := vx_table (x := yL_cell) B (hts _ List.mem_cons_self)
  have lk_0 := hts _ lk_0_L_row
  subst hsz
  unfold QiW PoW
  have hD := hD0.self (sz := s.heap.size)
  generalize hAe : va_A [(q0, .inr (7, [v0_n, v0_variables, .ref q0_store, v0_tape, .ref q0_base, v0_blamed, v0_gateList, v0_taking, v0_search, .int (bI f0_rowsFresh), v0_gatesFresh, v0_latestFault, v0_latestNodes, v0_latestModel])), (q0_store, .inr (4, [.ref q0_store_equations, v0_store_yes, v0_store_no, .int f0_store_equationCount, v0_store_clauseCount, v0_store_equationsBefore, v0_store_clausesBefore, v0_store_levelCount])), (q0_store_equations, .inl (cL, n0_store_equations, .inr (.inl h0_store_equations))), (q0_base, .inr (2, [.int f0_base_n, .ref q0_base_byHead, .int (bI f0_base_impossible)])), (q0_base_byHead, .inl (cL, n0_base_byHead, .inr (.inl h0_base_byHead))), (q2, .inl (cL, n2, .inr (.inl h2)))] s.heap.size = A at hD hX ⊢
  have hA : ∀ q : Nat, s.heap.size ≤ q → A q := fun q h => by rw [← hAe]; exact Or.inr h
  have hent : entryFrame m args 4 = entryFrame m ([.ref q0, .int x1, .ref q2] : List Value).toArray 4 := by rw [hargs]
  rw [hent]
  refine kx_Q (fun Q hQ => ?_)
  refine kx_H (fun H hH => ?_)
  have hP : va_P D vwCl [(q0, .inr (7, [v0_n, v0_variables, .ref q0_store, v0_tape, .ref q0_base, v0_blamed, v0_gateList, v0_taking, v0_search, .int (bI f0_rowsFresh), v0_gatesFresh, v0_latestFault, v0_latestNodes, v0_latestModel])), (q0_store, .inr (4, [.ref q0_store_equations, v0_store_yes, v0_store_no, .int f0_store_equationCount, v0_store_clauseCount, v0_store_equationsBefore, v0_store_clausesBefore, v0_store_levelCount])), (q0_store_equations, .inl (cL, n0_store_equations, .inr (.inl h0_store_equations))), (q0_base, .inr (2, [.int f0_base_n, .ref q0_base_byHead, .int (bI f0_base_impossible)])), (q0_base_byHead, .inl (cL, n0_base_byHead, .inr (.inl h0_base_byHead))), (q2, .inl (cL, n2, .inr (.inl h2)))] H := by rw [hH]; exact hP
  have hS : va_S A s.heap H [] := by rw [hH]; exact va_S.rf
  have hl := lv_entry ([.ref q0, .int x1, .ref q2]) (n := 4) (Nat.le_of_ble_eq_true rfl)
  rw [lg_entry_eq]
  generalize (lg_sl ([.ref q0, .int x1, .ref q2]) ++ List.replicate (4 - (lg_sl ([.ref q0, .int x1, .ref q2])).length) Slot.unset).toArray = ls at hl ⊢
  have hl : lv_has ls 4 [(0, .ref q0), (1, .int x1), (2, .ref q2)] := hl
  have h := hr0
  unfold D_L_row at h
  refine lv_aload_n hx hb dL_row_0 rfl (lv_at hl 2 rfl) ?_
  refine lv_iconst (v := (0 : Int32)) hx hb dL_row_1 (by decide) ?_
  refine lv_aload_n hx hb dL_row_2 rfl (lv_at hl 0 rfl) ?_
  refine lv_iload_n hx hb dL_row_3 rfl (lv_at hl 1 rfl) ?_
  obtain ⟨u_1, hu_2, h⟩ := co_b h
  refine ky_l (ws' := [(q0, .inr (7, [v0_n, v0_variables, .ref q0_store, v0_tape, .ref q0_base, v0_blamed, v0_gateList, v0_taking, v0_search, .int (bI u_1.2.1), v0_gatesFresh, v0_latestFault, v0_latestNodes, v0_latestModel])), (q0_store, .inr (4, [.ref q0_store_equations, v0_store_yes, v0_store_no, .int f0_store_equationCount, v0_store_clauseCount, v0_store_equationsBefore, v0_store_clausesBefore, v0_store_levelCount])), (q0_store_equations, .inl (cL, n0_store_equations, .inr (.inl h0_store_equations))), (q0_base, .inr (2, [.int f0_base_n, .ref q0_base_byHead, .int (bI u_1.2.2.1)])), (q0_base_byHead, .inl (cL, n0_base_byHead, .inr (.inl u_1.2.2.2))), (q2, .inl (cL, n2, .inr (.inl h2)))]) hP hD hS hA [0, 1, 2, 3, 4] [5] [1, 2, 3, 4, 5, 0] rfl rfl (by decide) (by decide) rfl (by decide) (vx_runV (As := [.int x1]) (rest := [.int (0 : Int32), .ref q2]) ⟨hx, hb, hml, hown, hts⟩ (cm_X7_row l hltr D cI cL (q0 := q0) (q0_store := q0_store) (q0_store_equations := q0_store_equations) (q0_base := q0_base) (q0_base_byHead := q0_base_byHead) (n0_store_equations := n0_store_equations) (n0_base_byHead := n0_base_byHead) (f0_rowsFresh := f0_rowsFresh) (f0_store_equationCount := f0_store_equationCount) (h0_store_equations := h0_store_equations) (f0_base_n := f0_base_n) (f0_base_impossible := f0_base_impossible) (h0_base_byHead := h0_base_byHead) (v0_n := v0_n) (v0_variables := v0_variables) (v0_tape := v0_tape) (v0_blamed := v0_blamed) (v0_gateList := v0_gateList) (v0_taking := v0_taking) (v0_search := v0_search) (v0_gatesFresh := v0_gatesFresh) (v0_latestFault := v0_latestFault) (v0_latestNodes := v0_latestNodes) (v0_latestModel := v0_latestModel) (v0_store_yes := v0_store_yes) (v0_store_no := v0_store_no) (v0_store_clauseCount := v0_store_clauseCount) (v0_store_equationsBefore := v0_store_equationsBefore) (v0_store_clausesBefore := v0_store_clausesBefore) (v0_store_levelCount := v0_store_levelCount) (x1 := x1) (r0 := u_1) (hr0 := hu_2) (sz := H.size)) (cwV 1 hts gL_row_X7_row rfl rfl rfl (by decide +kernel) ⟨Nat.le_of_ble_eq_true rfl, Nat.le_of_ble_eq_true rfl⟩) (ky_preV hEV hX hP hD hS hA [0, 1, 2, 3, 4] rfl (by decide) (k0 := 0) (ci := 7) rfl rfl rfl) rfl rfl hl.1 rfl (lv_room (Nat.le_of_ble_eq_true rfl)) dL_row_4 ⟨Nat.le_of_ble_eq_true rfl, Nat.le_of_ble_eq_true rfl⟩) (fun e_4 ce9 qe_5 H locs hz hP hD hS hc1 hc2 hc3 => ?_) (fun x_3 H locs hz hP hD hS => ?_)
  · have h := co_s2 hz h
    by_cases c_6 : e_4 = 2
    · subst c_6
      have h := co_t rfl h
      refine vx_catch (own := RL) (name := "java/lang/IndexOutOfBoundsException") (E := exN 2) hown [] { startPc := 0, endPc := 8, handlerPc := 11, catchType := 36 } [] (by rw [htab]; rfl) (fun z9 h9 => nomatch h9) (by decide) (by decide) lk_0 (va_Nw.use rfl hX.2.2.2.2.1) hc1 hc2 hc3 ?_
      refine lv_astore_n (lv' := [(3, .ref qe_5), (0, .ref q0), (1, .int x1), (2, .ref q2)]) hx hb dL_row_11 rfl hl (by decide) rfl (fun ls hl => ?_)
      refine lv_iconst (v := (1 : Int32)) hx hb dL_row_12 (by decide) ?_
      have h := Option.some.inj h
      subst h
      subst hQ
      exact W.iret (v := (1 : Int32)) hx hb hr (fun t ht hW => ⟨⟨(1 : Int32), (), rfl, ⟨rfl, trivial⟩, by rw [ht]; exact hP, hD⟩, hS.F ht⟩) hS.2.2 dL_row_13
    · have h := co_f c_6 h
      cases h
  · have h := co_s1 hz h
    obtain ⟨b_7, h⟩ := co_i h
    refine va_last hx hb hK hP hD hS 5 1 rfl rfl b_7 dL_row_7 (fun H locs hP hD hS => ?_)
    have hP : va_P D vwCl [(q0, .inr (7, [v0_n, v0_variables, .ref q0_store, v0_tape, .ref q0_base, v0_blamed, v0_gateList, v0_taking, v0_search, .int (bI u_1.2.1), v0_gatesFresh, v0_latestFault, v0_latestNodes, v0_latestModel])), (q0_store, .inr (4, [.ref q0_store_equations, v0_store_yes, v0_store_no, .int f0_store_equationCount, v0_store_clauseCount, v0_store_equationsBefore, v0_store_clausesBefore, v0_store_levelCount])), (q0_store_equations, .inl (cL, n0_store_equations, .inr (.inl h0_store_equations))), (q0_base, .inr (2, [.int f0_base_n, .ref q0_base_byHead, .int (bI u_1.2.2.1)])), (q0_base_byHead, .inl (cL, n0_base_byHead, .inr (.inl u_1.2.2.2))), (q2, .inl (cL, n2, .inr (.inl (vp_updL h2 (0 : Int32).toNatClampNeg x_3))))] H := hP
    have hD : va_D A [(q0, .inr (7, [v0_n, v0_variables, .ref q0_store, v0_tape, .ref q0_base, v0_blamed, v0_gateList, v0_taking, v0_search, .int (bI u_1.2.1), v0_gatesFresh, v0_latestFault, v0_latestNodes, v0_latestModel])), (q0_store, .inr (4, [.ref q0_store_equations, v0_store_yes, v0_store_no, .int f0_store_equationCount, v0_store_clauseCount, v0_store_equationsBefore, v0_store_clausesBefore, v0_store_levelCount])), (q0_store_equations, .inl (cL, n0_store_equations, .inr (.inl h0_store_equations))), (q0_base, .inr (2, [.int f0_base_n, .ref q0_base_byHead, .int (bI u_1.2.2.1)])), (q0_base_byHead, .inl (cL, n0_base_byHead, .inr (.inl u_1.2.2.2))), (q2, .inl (cL, n2, .inr (.inl (vp_updL h2 (0 : Int32).toNatClampNeg x_3))))] := hD
    refine lv_goto (tgt := 14) hx hb dL_row_8 (by decide) ?_
    refine lv_iconst (v := (0 : Int32)) hx hb dL_row_14 (by decide) ?_
    have h := Option.some.inj h
    subst h
    subst hQ
    exact W.iret (v := (0 : Int32)) hx hb hr (fun t ht hW => ⟨⟨(0 : Int32), (), rfl, ⟨rfl, trivial⟩, by rw [ht]; exact hP, hD⟩, hS.F ht⟩) hS.2.2 dL_row_15
theorem lk_0_L_sum : Cond.classLink RL 13 "java/lang/IllegalArgumentException" ∈ wsL_sum := by decide +kernel
abbrev rm_L_sum : Room := { frames := 7, cells := 1, slots := 6, locals := 114 }
set_option maxHeartbeats 4000000 in
set_option maxRecDepth 100000 in
theorem cm_L_sum (l : Launch) (hltr : l.stackTraces = false) (D : va_G) (cI cL : ClassId) (q0 q0_store q0_store_equations q0_base q0_base_byHead q3 : Nat) (n0_store_equations n0_base_byHead n3 : Nat) (f0_variables : Int64) (f0_rowsFresh : Bool) (f0_store_equationCount : Int32) (h0_store_equations : Nat → Int64) (f0_base_n : Int32) (f0_base_impossible : Bool) (h0_base_byHead : Nat → Int64) (h3 : Nat → Int64) (v0_n v0_tape v0_blamed v0_gateList v0_taking v0_search v0_gatesFresh v0_latestFault v0_latestNodes v0_latestModel v0_store_yes v0_store_no v0_store_clauseCount v0_store_equationsBefore v0_store_clausesBefore v0_store_levelCount : Value) (x1 : Int64) (r0 : Int32 × Bool × Bool × (Nat → Int64) × (Nat → Int64)) (hr0 : D_L_sum f0_variables f0_rowsFresh f0_store_equationCount n0_store_equations h0_store_equations f0_base_n f0_base_impossible n0_base_byHead h0_base_byHead n3 h3 x1 = some r0) (sz : Nat) : Met l yL_sum wsL_sum rm_L_sum (PcX D cI cL [.ref q0, .long x1, .ref q3] [(q0, .inr (7, [v0_n, .long f0_variables, .ref q0_store, v0_tape, .ref q0_base, v0_blamed, v0_gateList, v0_taking, v0_search, .int (bI f0_rowsFresh), v0_gatesFresh, v0_latestFault, v0_latestNodes, v0_latestModel])), (q0_store, .inr (4, [.ref q0_store_equations, v0_store_yes, v0_store_no, .int f0_store_equationCount, v0_store_clauseCount, v0_store_equationsBefore, v0_store_clausesBefore, v0_store_levelCount])), (q0_store_equations, .inl (cL, n0_store_equations, .inr (.inl h0_store_equations))), (q0_base, .inr (2, [.int f0_base_n, .ref q0_base_byHead, .int (bI f0_base_impossible)])), (q0_base_byHead, .inl (cL, n0_base_byHead, .inr (.inl h0_base_byHead))), (q3, .inl (cL, n3, .inr (.inl h3)))] sz) (QiW D [(q0, .inr (7, [v0_n, .long f0_variables, .ref q0_store, v0_tape, .ref q0_base, v0_blamed, v0_gateList, v0_taking, v0_search, .int (bI f0_rowsFresh), v0_gatesFresh, v0_latestFault, v0_latestNodes, v0_latestModel])), (q0_store, .inr (4, [.ref q0_store_equations, v0_store_yes, v0_store_no, .int f0_store_equationCount, v0_store_clauseCount, v0_store_equationsBefore, v0_store_clausesBefore, v0_store_levelCount])), (q0_store_equations, .inl (cL, n0_store_equations, .inr (.inl h0_store_equations))), (q0_base, .inr (2, [.int f0_base_n, .ref q0_base_byHead, .int (bI f0_base_impossible)])), (q0_base_byHead, .inl (cL, n0_base_byHead, .inr (.inl h0_base_byHead))), (q3, .inl (cL, n3, .inr (.inl h3)))] r0.1 (fun _ : Unit => [(q0, .inr (7, [v0_n, .long f0_variables, .ref q0_store, v0_tape, .ref q0_base, v0_blamed, v0_gateList, v0_taking, v0_search, .int (bI r0.2.1), v0_gatesFresh, v0_latestFault, v0_latestNodes, v0_latestModel])), (q0_store, .inr (4, [.ref q0_store_equations, v0_store_yes, v0_store_no, .int f0_store_equationCount, v0_store_clauseCount, v0_store_equationsBefore, v0_store_clausesBefore, v0_store_levelCount])), (q0_store_equations, .inl (cL, n0_store_equations, .inr (.inl h0_store_equations))), (q0_base, .inr (2, [.int f0_base_n, .ref q0_base_byHead, .int (bI r0.2.2.1)])), (q0_base_byHead, .inl (cL, n0_base_byHead, .inr (.inl r0.2.2.2.1))), (q3, .inl (cL, n3, .inr (.inl r0.2.2.2.2)))]) tU sz) 1 6 (va_A [(q0, .inr (7, [v0_n, .long f0_variables, .ref q0_store, v0_tape, .ref q0_base, v0_blamed, v0_gateList, v0_taking, v0_search, .int (bI f0_rowsFresh), v0_gatesFresh, v0_latestFault, v0_latestNodes, v0_latestModel])), (q0_store, .inr (4, [.ref q0_store_equations, v0_store_yes, v0_store_no, .int f0_store_equationCount, v0_store_clauseCount, v0_store_equationsBefore, v0_store_clausesBefore, v0_store_levelCount])), (q0_store_equations, .inl (cL, n0_store_equations, .inr (.inl h0_store_equations))), (q0_base, .inr (2, [.int f0_base_n, .ref q0_base_byHead, .int (bI f0_base_impossible)])), (q0_base_byHead, .inl (cL, n0_base_byHead, .inr (.inl h0_base_byHead))), (q3, .inl (cL, n3, .inr (.inl h3)))] sz) := by
  refine va_MetW (hh := [(0, 9, 12, 13)]) (cc := cL_sum) (maxL := 5) (ret := (some .int)) (by decide) rfl ?_
  intro p e s m args below meth c s₁ B hml hv
  obtain ⟨hargs, hsz, hP, hEV, hD0, hX⟩ := hv
  have hx := B.exec
  have hb := B.bytes
  have hr := B.returns
  have hts := atoms_spec (ws := wsL_sum) B.pre
  have hown : s.vm.findClass RL = some m.cls := findClass_of_methodNamed B.named
  have hlocks := B.notSynchronized
  have hK := hEV.K
  have htab := vx_table (x := yL_cell) B (hts _ List.mem_cons_self)
  have lk_0 := hts _ lk_0_L_sum
  subst hsz
  unfold QiW PoW
  have hD := hD0.self (sz := s.heap.size)
  generalize hAe : va_A [(q0, .inr (7, [v0_n, .long f0_variables, .ref q0_store, v0_tape, .ref q0_base, v0_blamed, v0_gateList, v0_taking, v0_search, .int (bI f0_rowsFresh), v0_gatesFresh, v0_latestFault, v0_latestNodes, v0_latestModel])), (q0_store, .inr (4, [.ref q0_store_equations, v0_store_yes, v0_store_no, .int f0_store_equationCount, v0_store_clauseCount, v0_store_equationsBefore, v0_store_clausesBefore, v0_store_levelCount])), (q0_store_equations, .inl (cL, n0_store_equations, .inr (.inl h0_store_equations))), (q0_base, .inr (2, [.int f0_base_n, .ref q0_base_byHead, .int (bI f0_base_impossible)])), (q0_base_byHead, .inl (cL, n0_base_byHead, .inr (.inl h0_base_byHead))), (q3, .inl (cL, n3, .inr (.inl h3)))] s.heap.size = A at hD hX ⊢
  have hA : ∀ q : Nat, s.heap.size ≤ q → A q := fun q h => by rw [← hAe]; exact Or.inr h
  have hent : entryFrame m args 5 = entryFrame m ([.ref q0, .long x1, .ref q3] : List Value).toArray 5 := by rw [hargs]
  rw [hent]
  refine kx_Q (fun Q hQ => ?_)
  refine kx_H (fun H hH => ?_)
  have hP : va_P D vwCl [(q0, .inr (7, [v0_n, .long f0_variables, .ref q0_store, v0_tape, .ref q0_base, v0_blamed, v0_gateList, v0_taking, v0_search, .int (bI f0_rowsFresh), v0_gatesFresh, v0_latestFault, v0_latestNodes, v0_latestModel])), (q0_store, .inr (4, [.ref q0_store_equations, v0_store_yes, v0_store_no, .int f0_store_equationCount, v0_store_clauseCount, v0_store_equationsBefore, v0_store_clausesBefore, v0_store_levelCount])), (q0_store_equations, .inl (cL, n0_store_equations, .inr (.inl h0_store_equations))), (q0_base, .inr (2, [.int f0_base_n, .ref q0_base_byHead, .int (bI f0_base_impossible)])), (q0_base_byHead, .inl (cL, n0_base_byHead, .inr (.inl h0_base_byHead))), (q3, .inl (cL, n3, .inr (.inl h3)))] H := by rw [hH]; exact hP
  have hS : va_S A s.heap H [] := by rw [hH]; exact va_S.rf
  have hl := lv_entry ([.ref q0, .long x1, .ref q3]) (n := 5) (Nat.le_of_ble_eq_true rfl)
  rw [lg_entry_eq]
  generalize (lg_sl ([.ref q0, .long x1, .ref q3]) ++ List.replicate (5 - (lg_sl ([.ref q0, .long x1, .ref q3])).length) Slot.unset).toArray = ls at hl ⊢
  have hl : lv_has ls 5 [(0, .ref q0), (1, .long x1), (3, .ref q3)] := hl
  have h := hr0
  unfold D_L_sum at h
  refine lv_aload_n hx hb dL_sum_0 rfl (lv_at hl 2 rfl) ?_
  refine lv_iconst (v := (0 : Int32)) hx hb dL_sum_1 (by decide) ?_
  refine lv_aload_n hx hb dL_sum_2 rfl (lv_at hl 0 rfl) ?_
  refine lv_lload_n hx hb dL_sum_3 rfl (lv_at hl 1 rfl) ?_
  obtain ⟨u_1, hu_2, h⟩ := co_b h
  refine ky_i (ws' := [(q0, .inr (7, [v0_n, .long f0_variables, .ref q0_store, v0_tape, .ref q0_base, v0_blamed, v0_gateList, v0_taking, v0_search, .int (bI u_1.2.1), v0_gatesFresh, v0_latestFault, v0_latestNodes, v0_latestModel])), (q0_store, .inr (4, [.ref q0_store_equations, v0_store_yes, v0_store_no, .int f0_store_equationCount, v0_store_clauseCount, v0_store_equationsBefore, v0_store_clausesBefore, v0_store_levelCount])), (q0_store_equations, .inl (cL, n0_store_equations, .inr (.inl h0_store_equations))), (q0_base, .inr (2, [.int f0_base_n, .ref q0_base_byHead, .int (bI u_1.2.2.1)])), (q0_base_byHead, .inl (cL, n0_base_byHead, .inr (.inl u_1.2.2.2))), (q3, .inl (cL, n3, .inr (.inl h3)))]) hP hD hS hA [0, 1, 2, 3, 4] [5] [1, 2, 3, 4, 5, 0] rfl rfl (by decide) (by decide) rfl (by decide) (vx_runV (As := [.long x1]) (rest := [.int (0 : Int32), .ref q3]) ⟨hx, hb, hml, hown, hts⟩ (cm_X7_sum l hltr D cI cL (q0 := q0) (q0_store := q0_store) (q0_store_equations := q0_store_equations) (q0_base := q0_base) (q0_base_byHead := q0_base_byHead) (n0_store_equations := n0_store_equations) (n0_base_byHead := n0_base_byHead) (f0_variables := f0_variables) (f0_rowsFresh := f0_rowsFresh) (f0_store_equationCount := f0_store_equationCount) (h0_store_equations := h0_store_equations) (f0_base_n := f0_base_n) (f0_base_impossible := f0_base_impossible) (h0_base_byHead := h0_base_byHead) (v0_n := v0_n) (v0_tape := v0_tape) (v0_blamed := v0_blamed) (v0_gateList := v0_gateList) (v0_taking := v0_taking) (v0_search := v0_search) (v0_gatesFresh := v0_gatesFresh) (v0_latestFault := v0_latestFault) (v0_latestNodes := v0_latestNodes) (v0_latestModel := v0_latestModel) (v0_store_yes := v0_store_yes) (v0_store_no := v0_store_no) (v0_store_clauseCount := v0_store_clauseCount) (v0_store_equationsBefore := v0_store_equationsBefore) (v0_store_clausesBefore := v0_store_clausesBefore) (v0_store_levelCount := v0_store_levelCount) (x1 := x1) (r0 := u_1) (hr0 := hu_2) (sz := H.size)) (cwV 1 hts gL_sum_X7_sum rfl rfl rfl (by decide +kernel) ⟨Nat.le_of_ble_eq_true rfl, Nat.le_of_ble_eq_true rfl⟩) (ky_preV hEV hX hP hD hS hA [0, 1, 2, 3, 4] rfl (by decide) (k0 := 0) (ci := 7) rfl rfl rfl) rfl rfl hl.1 rfl (lv_room (Nat.le_of_ble_eq_true rfl)) dL_sum_4 ⟨Nat.le_of_ble_eq_true rfl, Nat.le_of_ble_eq_true rfl⟩) (fun e_4 ce9 qe_5 H locs hz hP hD hS hc1 hc2 hc3 => ?_) (fun x_3 H locs hz hP hD hS => ?_)
  · have h := co_s2 hz h
    by_cases c_6 : e_4 = 0
    · subst c_6
      have h := co_t rfl h
      refine vx_catch (own := RL) (name := "java/lang/IllegalArgumentException") (E := exN 0) hown [] { startPc := 0, endPc := 9, handlerPc := 12, catchType := 13 } [] (by rw [htab]; rfl) (fun z9 h9 => nomatch h9) (by decide) (by decide) lk_0 (va_Nw.use rfl hX.2.2.1) hc1 hc2 hc3 ?_
      refine lv_astore (lv' := [(4, .ref qe_5), (0, .ref q0), (1, .long x1), (3, .ref q3)]) hx hb dL_sum_12 hl (by decide) rfl (fun ls hl => ?_)
      refine lv_iconst (v := (1 : Int32)) hx hb dL_sum_14 (by decide) ?_
      have h := Option.some.inj h
      subst h
      subst hQ
      exact W.iret (v := (1 : Int32)) hx hb hr (fun t ht hW => ⟨⟨(1 : Int32), (), rfl, ⟨rfl, trivial⟩, by rw [ht]; exact hP, hD⟩, hS.F ht⟩) hS.2.2 dL_sum_15
    · have h := co_f c_6 h
      cases h
  · have h := co_s1 hz h
    refine lv_i2l (v := x_3.toInt64) hx hb dL_sum_7 rfl ?_
    obtain ⟨b_7, h⟩ := co_i h
    refine va_last hx hb hK hP hD hS 5 1 rfl rfl b_7 dL_sum_8 (fun H locs hP hD hS => ?_)
    have hP : va_P D vwCl [(q0, .inr (7, [v0_n, .long f0_variables, .ref q0_store, v0_tape, .ref q0_base, v0_blamed, v0_gateList, v0_taking, v0_search, .int (bI u_1.2.1), v0_gatesFresh, v0_latestFault, v0_latestNodes, v0_latestModel])), (q0_store, .inr (4, [.ref q0_store_equations, v0_store_yes, v0_store_no, .int f0_store_equationCount, v0_store_clauseCount, v0_store_equationsBefore, v0_store_clausesBefore, v0_store_levelCount])), (q0_store_equations, .inl (cL, n0_store_equations, .inr (.inl h0_store_equations))), (q0_base, .inr (2, [.int f0_base_n, .ref q0_base_byHead, .int (bI u_1.2.2.1)])), (q0_base_byHead, .inl (cL, n0_base_byHead, .inr (.inl u_1.2.2.2))), (q3, .inl (cL, n3, .inr (.inl (vp_updL h3 (0 : Int32).toNatClampNeg x_3.toInt64))))] H := hP
    have hD : va_D A [(q0, .inr (7, [v0_n, .long f0_variables, .ref q0_store, v0_tape, .ref q0_base, v0_blamed, v0_gateList, v0_taking, v0_search, .int (bI u_1.2.1), v0_gatesFresh, v0_latestFault, v0_latestNodes, v0_latestModel])), (q0_store, .inr (4, [.ref q0_store_equations, v0_store_yes, v0_store_no, .int f0_store_equationCount, v0_store_clauseCount, v0_store_equationsBefore, v0_store_clausesBefore, v0_store_levelCount])), (q0_store_equations, .inl (cL, n0_store_equations, .inr (.inl h0_store_equations))), (q0_base, .inr (2, [.int f0_base_n, .ref q0_base_byHead, .int (bI u_1.2.2.1)])), (q0_base_byHead, .inl (cL, n0_base_byHead, .inr (.inl u_1.2.2.2))), (q3, .inl (cL, n3, .inr (.inl (vp_updL h3 (0 : Int32).toNatClampNeg x_3.toInt64))))] := hD
    refine lv_goto (tgt := 16) hx hb dL_sum_9 (by decide) ?_
    refine lv_iconst (v := (0 : Int32)) hx hb dL_sum_16 (by decide) ?_
    have h := Option.some.inj h
    subst h
    subst hQ
    exact W.iret (v := (0 : Int32)) hx hb hr (fun t ht hW => ⟨⟨(0 : Int32), (), rfl, ⟨rfl, trivial⟩, by rw [ht]; exact hP, hD⟩, hS.F ht⟩) hS.2.2 dL_sum_17
theorem lk_0_L_follow : Cond.classLink RL 13 "java/lang/IllegalArgumentException" ∈ wsL_follow := by decide +kernel
abbrev rm_L_follow : Room := { frames := 7, cells := 1, slots := 6, locals := 176 }
set_option maxHeartbeats 4000000 in
set_option maxRecDepth 100000 in
theorem cm_L_follow (l : Launch) (hltr : l.stackTraces = false) (D : va_G) (cI cL : ClassId) (q0 q0_store q0_store_equations q0_store_yes q0_store_no q0_base q0_base_byHead q0_taking q0_taking_rows q0_taking_rows_byHead q6 : Nat) (n0_store_equations n0_store_yes n0_store_no n0_base_byHead n0_taking_rows_byHead n6 : Nat) (f0_variables : Int64) (f0_rowsFresh : Bool) (f0_store_equationCount : Int32) (f0_store_clauseCount : Int32) (h0_store_equations : Nat → Int64) (h0_store_yes : Nat → Int64) (h0_store_no : Nat → Int64) (f0_base_n : Int32) (f0_base_impossible : Bool) (h0_base_byHead : Nat → Int64) (f0_taking_n : Int32) (f0_taking_taken : Int64) (f0_taking_ones : Int64) (f0_taking_rows_n : Int32) (f0_taking_rows_impossible : Bool) (h0_taking_rows_byHead : Nat → Int64) (h6 : Nat → Int64) (v0_n v0_tape v0_blamed v0_gateList v0_search v0_gatesFresh v0_latestFault v0_latestNodes v0_latestModel v0_store_equationsBefore v0_store_clausesBefore v0_store_levelCount : Value) (x1 : Int64) (x3 : Int64) (x5 : Bool) (r0 : Int32 × Bool × Bool × (Nat → Int64) × Int64 × Int64 × Bool × (Nat → Int64) × (Nat → Int64)) (hr0 : D_L_follow f0_variables f0_rowsFresh f0_store_equationCount f0_store_clauseCount n0_store_equations h0_store_equations n0_store_yes h0_store_yes n0_store_no h0_store_no f0_base_n f0_base_impossible n0_base_byHead h0_base_byHead f0_taking_n f0_taking_taken f0_taking_ones f0_taking_rows_n f0_taking_rows_impossible n0_taking_rows_byHead h0_taking_rows_byHead n6 h6 x1 x3 x5 = some r0) (sz : Nat) : Met l yL_follow wsL_follow rm_L_follow (PcX D cI cL [.ref q0, .long x1, .long x3, .int (bI x5), .ref q6] [(q0, .inr (7, [v0_n, .long f0_variables, .ref q0_store, v0_tape, .ref q0_base, v0_blamed, v0_gateList, .ref q0_taking, v0_search, .int (bI f0_rowsFresh), v0_gatesFresh, v0_latestFault, v0_latestNodes, v0_latestModel])), (q0_store, .inr (4, [.ref q0_store_equations, .ref q0_store_yes, .ref q0_store_no, .int f0_store_equationCount, .int f0_store_clauseCount, v0_store_equationsBefore, v0_store_clausesBefore, v0_store_levelCount])), (q0_store_equations, .inl (cL, n0_store_equations, .inr (.inl h0_store_equations))), (q0_store_yes, .inl (cL, n0_store_yes, .inr (.inl h0_store_yes))), (q0_store_no, .inl (cL, n0_store_no, .inr (.inl h0_store_no))), (q0_base, .inr (2, [.int f0_base_n, .ref q0_base_byHead, .int (bI f0_base_impossible)])), (q0_base_byHead, .inl (cL, n0_base_byHead, .inr (.inl h0_base_byHead))), (q0_taking, .inr (5, [.int f0_taking_n, .ref q0_taking_rows, .long f0_taking_taken, .long f0_taking_ones])), (q0_taking_rows, .inr (2, [.int f0_taking_rows_n, .ref q0_taking_rows_byHead, .int (bI f0_taking_rows_impossible)])), (q0_taking_rows_byHead, .inl (cL, n0_taking_rows_byHead, .inr (.inl h0_taking_rows_byHead))), (q6, .inl (cL, n6, .inr (.inl h6)))] sz) (QiW D [(q0, .inr (7, [v0_n, .long f0_variables, .ref q0_store, v0_tape, .ref q0_base, v0_blamed, v0_gateList, .ref q0_taking, v0_search, .int (bI f0_rowsFresh), v0_gatesFresh, v0_latestFault, v0_latestNodes, v0_latestModel])), (q0_store, .inr (4, [.ref q0_store_equations, .ref q0_store_yes, .ref q0_store_no, .int f0_store_equationCount, .int f0_store_clauseCount, v0_store_equationsBefore, v0_store_clausesBefore, v0_store_levelCount])), (q0_store_equations, .inl (cL, n0_store_equations, .inr (.inl h0_store_equations))), (q0_store_yes, .inl (cL, n0_store_yes, .inr (.inl h0_store_yes))), (q0_store_no, .inl (cL, n0_store_no, .inr (.inl h0_store_no))), (q0_base, .inr (2, [.int f0_base_n, .ref q0_base_byHead, .int (bI f0_base_impossible)])), (q0_base_byHead, .inl (cL, n0_base_byHead, .inr (.inl h0_base_byHead))), (q0_taking, .inr (5, [.int f0_taking_n, .ref q0_taking_rows, .long f0_taking_taken, .long f0_taking_ones])), (q0_taking_rows, .inr (2, [.int f0_taking_rows_n, .ref q0_taking_rows_byHead, .int (bI f0_taking_rows_impossible)])), (q0_taking_rows_byHead, .inl (cL, n0_taking_rows_byHead, .inr (.inl h0_taking_rows_byHead))), (q6, .inl (cL, n6, .inr (.inl h6)))] r0.1 (fun _ : Unit => [(q0, .inr (7, [v0_n, .long f0_variables, .ref q0_store, v0_tape, .ref q0_base, v0_blamed, v0_gateList, .ref q0_taking, v0_search, .int (bI r0.2.1), v0_gatesFresh, v0_latestFault, v0_latestNodes, v0_latestModel])), (q0_store, .inr (4, [.ref q0_store_equations, .ref q0_store_yes, .ref q0_store_no, .int f0_store_equationCount, .int f0_store_clauseCount, v0_store_equationsBefore, v0_store_clausesBefore, v0_store_levelCount])), (q0_store_equations, .inl (cL, n0_store_equations, .inr (.inl h0_store_equations))), (q0_store_yes, .inl (cL, n0_store_yes, .inr (.inl h0_store_yes))), (q0_store_no, .inl (cL, n0_store_no, .inr (.inl h0_store_no))), (q0_base, .inr (2, [.int f0_base_n, .ref q0_base_byHead, .int (bI r0.2.2.1)])), (q0_base_byHead, .inl (cL, n0_base_byHead, .inr (.inl r0.2.2.2.1))), (q0_taking, .inr (5, [.int f0_taking_n, .ref q0_taking_rows, .long r0.2.2.2.2.1, .long r0.2.2.2.2.2.1])), (q0_taking_rows, .inr (2, [.int f0_taking_rows_n, .ref q0_taking_rows_byHead, .int (bI r0.2.2.2.2.2.2.1)])), (q0_taking_rows_byHead, .inl (cL, n0_taking_rows_byHead, .inr (.inl r0.2.2.2.2.2.2.2.1))), (q6, .inl (cL, n6, .inr (.inl r0.2.2.2.2.2.2.2.2)))]) tU sz) 1 6 (va_A [(q0, .inr (7, [v0_n, .long f0_variables, .ref q0_store, v0_tape, .ref q0_base, v0_blamed, v0_gateList, .ref q0_taking, v0_search, .int (bI f0_rowsFresh), v0_gatesFresh, v0_latestFault, v0_latestNodes, v0_latestModel])), (q0_store, .inr (4, [.ref q0_store_equations, .ref q0_store_yes, .ref q0_store_no, .int f0_store_equationCount, .int f0_store_clauseCount, v0_store_equationsBefore, v0_store_clausesBefore, v0_store_levelCount])), (q0_store_equations, .inl (cL, n0_store_equations, .inr (.inl h0_store_equations))), (q0_store_yes, .inl (cL, n0_store_yes, .inr (.inl h0_store_yes))), (q0_store_no, .inl (cL, n0_store_no, .inr (.inl h0_store_no))), (q0_base, .inr (2, [.int f0_base_n, .ref q0_base_byHead, .int (bI f0_base_impossible)])), (q0_base_byHead, .inl (cL, n0_base_byHead, .inr (.inl h0_base_byHead))), (q0_taking, .inr (5, [.int f0_taking_n, .ref q0_taking_rows, .long f0_taking_taken, .long f0_taking_ones])), (q0_taking_rows, .inr (2, [.int f0_taking_rows_n, .ref q0_taking_rows_byHead, .int (bI f0_taking_rows_impossible)])), (q0_taking_rows_byHead, .inl (cL, n0_taking_rows_byHead, .inr (.inl h0_taking_rows_byHead))), (q6, .inl (cL, n6, .inr (.inl h6)))] sz) := by
  refine va_MetW (hh := [(0, 12, 15, 13)]) (cc := cL_follow) (maxL := 8) (ret := (some .int)) (by decide) rfl ?_
  intro p e s m args below meth c s₁ B hml hv
  obtain ⟨hargs, hsz, hP, hEV, hD0, hX⟩ := hv
  have hx := B.exec
  have hb := B.bytes
  have hr := B.returns
  have hts := atoms_spec (ws := wsL_follow) B.pre
  have hown : s.vm.findClass RL = some m.cls := findClass_of_methodNamed B.named
  have hlocks := B.notSynchronized
  have hK := hEV.K
  have htab := vx_table (x := yL_cell) B (hts _ List.mem_cons_self)
  have lk_0 := hts _ lk_0_L_follow
  subst hsz
  unfold QiW PoW
  have hD := hD0.self (sz := s.heap.size)
  generalize hAe : va_A [(q0, .inr (7, [v0_n, .long f0_variables, .ref q0_store, v0_tape, .ref q0_base, v0_blamed, v0_gateList, .ref q0_taking, v0_search, .int (bI f0_rowsFresh), v0_gatesFresh, v0_latestFault, v0_latestNodes, v0_latestModel])), (q0_store, .inr (4, [.ref q0_store_equations, .ref q0_store_yes, .ref q0_store_no, .int f0_store_equationCount, .int f0_store_clauseCount, v0_store_equationsBefore, v0_store_clausesBefore, v0_store_levelCount])), (q0_store_equations, .inl (cL, n0_store_equations, .inr (.inl h0_store_equations))), (q0_store_yes, .inl (cL, n0_store_yes, .inr (.inl h0_store_yes))), (q0_store_no, .inl (cL, n0_store_no, .inr (.inl h0_store_no))), (q0_base, .inr (2, [.int f0_base_n, .ref q0_base_byHead, .int (bI f0_base_impossible)])), (q0_base_byHead, .inl (cL, n0_base_byHead, .inr (.inl h0_base_byHead))), (q0_taking, .inr (5, [.int f0_taking_n, .ref q0_taking_rows, .long f0_taking_taken, .long f0_taking_ones])), (q0_taking_rows, .inr (2, [.int f0_taking_rows_n, .ref q0_taking_rows_byHead, .int (bI f0_taking_rows_impossible)])), (q0_taking_rows_byHead, .inl (cL, n0_taking_rows_byHead, .inr (.inl h0_taking_rows_byHead))), (q6, .inl (cL, n6, .inr (.inl h6)))] s.heap.size = A at hD hX ⊢
  have hA : ∀ q : Nat, s.heap.size ≤ q → A q := fun q h => by rw [← hAe]; exact Or.inr h
  have hent : entryFrame m args 8 = entryFrame m ([.ref q0, .long x1, .long x3, .int (bI x5), .ref q6] : List Value).toArray 8 := by rw [hargs]
  rw [hent]
  refine kx_Q (fun Q hQ => ?_)
  refine kx_H (fun H hH => ?_)
  have hP : va_P D vwCl [(q0, .inr (7, [v0_n, .long f0_variables, .ref q0_store, v0_tape, .ref q0_base, v0_blamed, v0_gateList, .ref q0_taking, v0_search, .int (bI f0_rowsFresh), v0_gatesFresh, v0_latestFault, v0_latestNodes, v0_latestModel])), (q0_store, .inr (4, [.ref q0_store_equations, .ref q0_store_yes, .ref q0_store_no, .int f0_store_equationCount, .int f0_store_clauseCount, v0_store_equationsBefore, v0_store_clausesBefore, v0_store_levelCount])), (q0_store_equations, .inl (cL, n0_store_equations, .inr (.inl h0_store_equations))), (q0_store_yes, .inl (cL, n0_store_yes, .inr (.inl h0_store_yes))), (q0_store_no, .inl (cL, n0_store_no, .inr (.inl h0_store_no))), (q0_base, .inr (2, [.int f0_base_n, .ref q0_base_byHead, .int (bI f0_base_impossible)])), (q0_base_byHead, .inl (cL, n0_base_byHead, .inr (.inl h0_base_byHead))), (q0_taking, .inr (5, [.int f0_taking_n, .ref q0_taking_rows, .long f0_taking_taken, .long f0_taking_ones])), (q0_taking_rows, .inr (2, [.int f0_taking_rows_n, .ref q0_taking_rows_byHead, .int (bI f0_taking_rows_impossible)])), (q0_taking_rows_byHead, .inl (cL, n0_taking_rows_byHead, .inr (.inl h0_taking_rows_byHead))), (q6, .inl (cL, n6, .inr (.inl h6)))] H := by rw [hH]; exact hP
  have hS : va_S A s.heap H [] := by rw [hH]; exact va_S.rf
  have hl := lv_entry ([.ref q0, .long x1, .long x3, .int (bI x5), .ref q6]) (n := 8) (Nat.le_of_ble_eq_true rfl)
  rw [lg_entry_eq]
  generalize (lg_sl ([.ref q0, .long x1, .long x3, .int (bI x5), .ref q6]) ++ List.replicate (8 - (lg_sl ([.ref q0, .long x1, .long x3, .int (bI x5), .ref q6])).length) Slot.unset).toArray = ls at hl ⊢
  have hl : lv_has ls 8 [(0, .ref q0), (1, .long x1), (3, .long x3), (5, .int (bI x5)), (6, .ref q6)] := hl
  have h := hr0
  unfold D_L_follow at h
  refine lv_aload hx hb dL_follow_0 (lv_at hl 4 rfl) ?_
  refine lv_iconst (v := (0 : Int32)) hx hb dL_follow_2 (by decide) ?_
  refine lv_aload_n hx hb dL_follow_3 rfl (lv_at hl 0 rfl) ?_
  refine lv_lload_n hx hb dL_follow_4 rfl (lv_at hl 1 rfl) ?_
  refine lv_lload_n hx hb dL_follow_5 rfl (lv_at hl 2 rfl) ?_
  refine lv_iload hx hb dL_follow_6 (lv_at hl 3 rfl) ?_
  obtain ⟨u_1, hu_2, h⟩ := co_b h
  refine ky_l (ws' := [(q0, .inr (7, [v0_n, .long f0_variables, .ref q0_store, v0_tape, .ref q0_base, v0_blamed, v0_gateList, .ref q0_taking, v0_search, .int (bI u_1.2.1), v0_gatesFresh, v0_latestFault, v0_latestNodes, v0_latestModel])), (q0_store, .inr (4, [.ref q0_store_equations, .ref q0_store_yes, .ref q0_store_no, .int f0_store_equationCount, .int f0_store_clauseCount, v0_store_equationsBefore, v0_store_clausesBefore, v0_store_levelCount])), (q0_store_equations, .inl (cL, n0_store_equations, .inr (.inl h0_store_equations))), (q0_store_yes, .inl (cL, n0_store_yes, .inr (.inl h0_store_yes))), (q0_store_no, .inl (cL, n0_store_no, .inr (.inl h0_store_no))), (q0_base, .inr (2, [.int f0_base_n, .ref q0_base_byHead, .int (bI u_1.2.2.1)])), (q0_base_byHead, .inl (cL, n0_base_byHead, .inr (.inl u_1.2.2.2.1))), (q0_taking, .inr (5, [.int f0_taking_n, .ref q0_taking_rows, .long u_1.2.2.2.2.1, .long u_1.2.2.2.2.2.1])), (q0_taking_rows, .inr (2, [.int f0_taking_rows_n, .ref q0_taking_rows_byHead, .int (bI u_1.2.2.2.2.2.2.1)])), (q0_taking_rows_byHead, .inl (cL, n0_taking_rows_byHead, .inr (.inl u_1.2.2.2.2.2.2.2))), (q6, .inl (cL, n6, .inr (.inl h6)))]) hP hD hS hA [0, 1, 2, 3, 4, 5, 6, 7, 8, 9] [10] [1, 2, 3, 4, 5, 6, 7, 8, 9, 10, 0] rfl rfl (by decide) (by decide) rfl (by decide) (vx_runV (As := [.long x1, .long x3, .int (bI x5)]) (rest := [.int (0 : Int32), .ref q6]) ⟨hx, hb, hml, hown, hts⟩ (cm_X7_follow l hltr D cI cL (q0 := q0) (q0_store := q0_store) (q0_store_equations := q0_store_equations) (q0_store_yes := q0_store_yes) (q0_store_no := q0_store_no) (q0_base := q0_base) (q0_base_byHead := q0_base_byHead) (q0_taking := q0_taking) (q0_taking_rows := q0_taking_rows) (q0_taking_rows_byHead := q0_taking_rows_byHead) (n0_store_equations := n0_store_equations) (n0_store_yes := n0_store_yes) (n0_store_no := n0_store_no) (n0_base_byHead := n0_base_byHead) (n0_taking_rows_byHead := n0_taking_rows_byHead) (f0_variables := f0_variables) (f0_rowsFresh := f0_rowsFresh) (f0_store_equationCount := f0_store_equationCount) (f0_store_clauseCount := f0_store_clauseCount) (h0_store_equations := h0_store_equations) (h0_store_yes := h0_store_yes) (h0_store_no := h0_store_no) (f0_base_n := f0_base_n) (f0_base_impossible := f0_base_impossible) (h0_base_byHead := h0_base_byHead) (f0_taking_n := f0_taking_n) (f0_taking_taken := f0_taking_taken) (f0_taking_ones := f0_taking_ones) (f0_taking_rows_n := f0_taking_rows_n) (f0_taking_rows_impossible := f0_taking_rows_impossible) (h0_taking_rows_byHead := h0_taking_rows_byHead) (v0_n := v0_n) (v0_tape := v0_tape) (v0_blamed := v0_blamed) (v0_gateList := v0_gateList) (v0_search := v0_search) (v0_gatesFresh := v0_gatesFresh) (v0_latestFault := v0_latestFault) (v0_latestNodes := v0_latestNodes) (v0_latestModel := v0_latestModel) (v0_store_equationsBefore := v0_store_equationsBefore) (v0_store_clausesBefore := v0_store_clausesBefore) (v0_store_levelCount := v0_store_levelCount) (x1 := x1) (x3 := x3) (x5 := x5) (r0 := u_1) (hr0 := hu_2) (sz := H.size)) (cwV 3 hts gL_follow_X7_follow rfl rfl rfl (by decide +kernel) ⟨Nat.le_of_ble_eq_true rfl, Nat.le_of_ble_eq_true rfl⟩) (ky_preV hEV hX hP hD hS hA [0, 1, 2, 3, 4, 5, 6, 7, 8, 9] rfl (by decide) (k0 := 0) (ci := 7) rfl rfl rfl) rfl rfl hl.1 rfl (lv_room (Nat.le_of_ble_eq_true rfl)) dL_follow_8 ⟨Nat.le_of_ble_eq_true rfl, Nat.le_of_ble_eq_true rfl⟩) (fun e_4 ce9 qe_5 H locs hz hP hD hS hc1 hc2 hc3 => ?_) (fun x_3 H locs hz hP hD hS => ?_)
  · have h := co_s2 hz h
    by_cases c_6 : e_4 = 0
    · subst c_6
      have h := co_t rfl h
      refine vx_catch (own := RL) (name := "java/lang/IllegalArgumentException") (E := exN 0) hown [] { startPc := 0, endPc := 12, handlerPc := 15, catchType := 13 } [] (by rw [htab]; rfl) (fun z9 h9 => nomatch h9) (by decide) (by decide) lk_0 (va_Nw.use rfl hX.2.2.1) hc1 hc2 hc3 ?_
      refine lv_astore (lv' := [(7, .ref qe_5), (0, .ref q0), (1, .long x1), (3, .long x3), (5, .int (bI x5)), (6, .ref q6)]) hx hb dL_follow_15 hl (by decide) rfl (fun ls hl => ?_)
      refine lv_iconst (v := (1 : Int32)) hx hb dL_follow_17 (by decide) ?_
      have h := Option.some.inj h
      subst h
      subst hQ
      exact W.iret (v := (1 : Int32)) hx hb hr (fun t ht hW => ⟨⟨(1 : Int32), (), rfl, ⟨rfl, trivial⟩, by rw [ht]; exact hP, hD⟩, hS.F ht⟩) hS.2.2 dL_follow_18
    · have h := co_f c_6 h
      cases h
  · have h := co_s1 hz h
    obtain ⟨b_7, h⟩ := co_i h
    refine va_last hx hb hK hP hD hS 10 1 rfl rfl b_7 dL_follow_11 (fun H locs hP hD hS => ?_)
    have hP : va_P D vwCl [(q0, .inr (7, [v0_n, .long f0_variables, .ref q0_store, v0_tape, .ref q0_base, v0_blamed, v0_gateList, .ref q0_taking, v0_search, .int (bI u_1.2.1), v0_gatesFresh, v0_latestFault, v0_latestNodes, v0_latestModel])), (q0_store, .inr (4, [.ref q0_store_equations, .ref q0_store_yes, .ref q0_store_no, .int f0_store_equationCount, .int f0_store_clauseCount, v0_store_equationsBefore, v0_store_clausesBefore, v0_store_levelCount])), (q0_store_equations, .inl (cL, n0_store_equations, .inr (.inl h0_store_equations))), (q0_store_yes, .inl (cL, n0_store_yes, .inr (.inl h0_store_yes))), (q0_store_no, .inl (cL, n0_store_no, .inr (.inl h0_store_no))), (q0_base, .inr (2, [.int f0_base_n, .ref q0_base_byHead, .int (bI u_1.2.2.1)])), (q0_base_byHead, .inl (cL, n0_base_byHead, .inr (.inl u_1.2.2.2.1))), (q0_taking, .inr (5, [.int f0_taking_n, .ref q0_taking_rows, .long u_1.2.2.2.2.1, .long u_1.2.2.2.2.2.1])), (q0_taking_rows, .inr (2, [.int f0_taking_rows_n, .ref q0_taking_rows_byHead, .int (bI u_1.2.2.2.2.2.2.1)])), (q0_taking_rows_byHead, .inl (cL, n0_taking_rows_byHead, .inr (.inl u_1.2.2.2.2.2.2.2))), (q6, .inl (cL, n6, .inr (.inl (vp_updL h6 (0 : Int32).toNatClampNeg x_3))))] H := hP
    have hD : va_D A [(q0, .inr (7, [v0_n, .long f0_variables, .ref q0_store, v0_tape, .ref q0_base, v0_blamed, v0_gateList, .ref q0_taking, v0_search, .int (bI u_1.2.1), v0_gatesFresh, v0_latestFault, v0_latestNodes, v0_latestModel])), (q0_store, .inr (4, [.ref q0_store_equations, .ref q0_store_yes, .ref q0_store_no, .int f0_store_equationCount, .int f0_store_clauseCount, v0_store_equationsBefore, v0_store_clausesBefore, v0_store_levelCount])), (q0_store_equations, .inl (cL, n0_store_equations, .inr (.inl h0_store_equations))), (q0_store_yes, .inl (cL, n0_store_yes, .inr (.inl h0_store_yes))), (q0_store_no, .inl (cL, n0_store_no, .inr (.inl h0_store_no))), (q0_base, .inr (2, [.int f0_base_n, .ref q0_base_byHead, .int (bI u_1.2.2.1)])), (q0_base_byHead, .inl (cL, n0_base_byHead, .inr (.inl u_1.2.2.2.1))), (q0_taking, .inr (5, [.int f0_taking_n, .ref q0_taking_rows, .long u_1.2.2.2.2.1, .long u_1.2.2.2.2.2.1])), (q0_taking_rows, .inr (2, [.int f0_taking_rows_n, .ref q0_taking_rows_byHead, .int (bI u_1.2.2.2.2.2.2.1)])), (q0_taking_rows_byHead, .inl (cL, n0_taking_rows_byHead, .inr (.inl u_1.2.2.2.2.2.2.2))), (q6, .inl (cL, n6, .inr (.inl (vp_updL h6 (0 : Int32).toNatClampNeg x_3))))] := hD
    refine lv_goto (tgt := 19) hx hb dL_follow_12 (by decide) ?_
    refine lv_iconst (v := (0 : Int32)) hx hb dL_follow_19 (by decide) ?_
    have h := Option.some.inj h
    subst h
    subst hQ
    exact W.iret (v := (0 : Int32)) hx hb hr (fun t ht hW => ⟨⟨(0 : Int32), (), rfl, ⟨rfl, trivial⟩, by rw [ht]; exact hP, hD⟩, hS.F ht⟩) hS.2.2 dL_follow_20
