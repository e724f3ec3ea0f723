theorem in_X3_unpile_X2 : ∀ w ∈ wsX20, w ∈ wsX3_unpile := by decide +kernel
theorem in_X3_unpile_X3 : ∀ w ∈ wsX30, w ∈ wsX3_unpile := by decide +kernel
theorem in_X3_unpile_X5 : ∀ w ∈ wsX50, w ∈ wsX3_unpile := by decide +kernel
theorem lk_0_X3_unpile : Cond.fieldLink RX3 36 "ParityClauses$Search" "pileSize" "I" ∈ wsX3_unpile := by decide +kernel
theorem lk_1_X3_unpile : Cond.fieldLink RX3 22 "ParityClauses$Search" "pileRows" "[J" ∈ wsX3_unpile := by decide +kernel
theorem lk_2_X3_unpile : Cond.fieldLink RX3 7 "ParityClauses$Search" "n" "I" ∈ wsX3_unpile := by decide +kernel
theorem lk_3_X3_unpile : Cond.fieldLink RX3 18 "ParityClauses$Search" "start" "LParityClauses$Taking;" ∈ wsX3_unpile := by decide +kernel
theorem lk_4_X3_unpile : Cond.fieldLink RX3 82 "ParityClauses$Rows" "byHead" "[J" ∈ wsX3_unpile := by decide +kernel
theorem lk_5_X3_unpile : Cond.methodLink RX3 87 arraycopyName ∈ wsX3_unpile := by decide +kernel
theorem lk_6_X3_unpile : Cond.native arraycopyName ∈ wsX3_unpile := by decide +kernel
theorem lk_7_X3_unpile : Cond.static arraycopyName ∈ wsX3_unpile := by decide +kernel
theorem lk_8_X3_unpile : Cond.initialized "java/lang/System" ∈ wsX3_unpile := by decide +kernel
theorem lk_9_X3_unpile : Cond.fieldLink RX3 96 "ParityClauses$Rows" "impossible" "Z" ∈ wsX3_unpile := by decide +kernel
theorem lk_10_X3_unpile : Cond.fieldLink RX3 26 "ParityClauses$Search" "pileTaken" "[J" ∈ wsX3_unpile := by decide +kernel
theorem lk_11_X3_unpile : Cond.fieldLink RX3 93 "ParityClauses$Taking" "taken" "J" ∈ wsX3_unpile := by decide +kernel
theorem lk_12_X3_unpile : Cond.fieldLink RX3 29 "ParityClauses$Search" "pileOnes" "[J" ∈ wsX3_unpile := by decide +kernel
theorem lk_13_X3_unpile : Cond.fieldLink RX3 57 "ParityClauses$Taking" "ones" "J" ∈ wsX3_unpile := by decide +kernel
abbrev rm_X3_unpile : Room := { frames := 1, cells := 0, slots := 0, locals := 40 }
set_option maxHeartbeats 4000000 in
set_option maxRecDepth 100000 in
theorem cm_X3_unpile (l : Launch) (D : va_G) (cI cL : ClassId) (q0 q0_start q0_start_rows q0_start_rows_byHead q0_pileRows q0_pileTaken q0_pileOnes : Nat) (n0_start_rows_byHead n0_pileRows n0_pileTaken n0_pileOnes : Nat) (f0_n : Int32) (f0_pileSize : Int32) (f0_start_taken : Int64) (f0_start_ones : Int64) (f0_start_rows_impossible : Bool) (h0_start_rows_byHead : Nat → Int64) (h0_pileRows : Nat → Int64) (h0_pileTaken : Nat → Int64) (h0_pileOnes : Nat → Int64) (v0_nodeCount v0_modelCount v0_lastModel v0_cut v0_start_n v0_start_rows_n : Value) (r0 : Bool × Int32 × Int64 × Int64 × Bool × (Nat → Int64)) (hr0 : D_X3_unpile f0_n f0_pileSize f0_start_taken f0_start_ones f0_start_rows_impossible n0_start_rows_byHead h0_start_rows_byHead n0_pileRows h0_pileRows n0_pileTaken h0_pileTaken n0_pileOnes h0_pileOnes = some r0) (sz : Nat) : Met l yX3_unpile wsX3_unpile rm_X3_unpile (PcW D cI cL [.ref q0] [(q0, .inr (3, [.int f0_n, .ref q0_start, .ref q0_pileRows, .ref q0_pileTaken, .ref q0_pileOnes, .int f0_pileSize, v0_nodeCount, v0_modelCount, v0_lastModel, v0_cut])), (q0_start, .inr (5, [v0_start_n, .ref q0_start_rows, .long f0_start_taken, .long f0_start_ones])), (q0_start_rows, .inr (2, [v0_start_rows_n, .ref q0_start_rows_byHead, .int (bI f0_start_rows_impossible)])), (q0_start_rows_byHead, .inl (cL, n0_start_rows_byHead, .inr (.inl h0_start_rows_byHead))), (q0_pileRows, .inl (cL, n0_pileRows, .inr (.inl h0_pileRows))), (q0_pileTaken, .inl (cL, n0_pileTaken, .inr (.inl h0_pileTaken))), (q0_pileOnes, .inl (cL, n0_pileOnes, .inr (.inl h0_pileOnes)))] sz) (QiW D [(q0, .inr (3, [.int f0_n, .ref q0_start, .ref q0_pileRows, .ref q0_pileTaken, .ref q0_pileOnes, .int f0_pileSize, v0_nodeCount, v0_modelCount, v0_lastModel, v0_cut])), (q0_start, .inr (5, [v0_start_n, .ref q0_start_rows, .long f0_start_taken, .long f0_start_ones])), (q0_start_rows, .inr (2, [v0_start_rows_n, .ref q0_start_rows_byHead, .int (bI f0_start_rows_impossible)])), (q0_start_rows_byHead, .inl (cL, n0_start_rows_byHead, .inr (.inl h0_start_rows_byHead))), (q0_pileRows, .inl (cL, n0_pileRows, .inr (.inl h0_pileRows))), (q0_pileTaken, .inl (cL, n0_pileTaken, .inr (.inl h0_pileTaken))), (q0_pileOnes, .inl (cL, n0_pileOnes, .inr (.inl h0_pileOnes)))] (bI r0.1) (fun _ : Unit => [(q0, .inr (3, [.int f0_n, .ref q0_start, .ref q0_pileRows, .ref q0_pileTaken, .ref q0_pileOnes, .int r0.2.1, v0_nodeCount, v0_modelCount, v0_lastModel, v0_cut])), (q0_start, .inr (5, [v0_start_n, .ref q0_start_rows, .long r0.2.2.1, .long r0.2.2.2.1])), (q0_start_rows, .inr (2, [v0_start_rows_n, .ref q0_start_rows_byHead, .int (bI r0.2.2.2.2.1)])), (q0_start_rows_byHead, .inl (cL, n0_start_rows_byHead, .inr (.inl r0.2.2.2.2.2))), (q0_pileRows, .inl (cL, n0_pileRows, .inr (.inl h0_pileRows))), (q0_pileTaken, .inl (cL, n0_pileTaken, .inr (.inl h0_pileTaken))), (q0_pileOnes, .inl (cL, n0_pileOnes, .inr (.inl h0_pileOnes)))]) tU sz) 0 0 (va_A [(q0, .inr (3, [.int f0_n, .ref q0_start, .ref q0_pileRows, .ref q0_pileTaken, .ref q0_pileOnes, .int f0_pileSize, v0_nodeCount, v0_modelCount, v0_lastModel, v0_cut])), (q0_start, .inr (5, [v0_start_n, .ref q0_start_rows, .long f0_start_taken, .long f0_start_ones])), (q0_start_rows, .inr (2, [v0_start_rows_n, .ref q0_start_rows_byHead, .int (bI f0_start_rows_impossible)])), (q0_start_rows_byHead, .inl (cL, n0_start_rows_byHead, .inr (.inl h0_start_rows_byHead))), (q0_pileRows, .inl (cL, n0_pileRows, .inr (.inl h0_pileRows))), (q0_pileTaken, .inl (cL, n0_pileTaken, .inr (.inl h0_pileTaken))), (q0_pileOnes, .inl (cL, n0_pileOnes, .inr (.inl h0_pileOnes)))] sz) := by
  refine Met.ofW (cc := cX3_unpile) (maxL := 1) (ret := (some .boolean)) (by decide) rfl ?_
  intro p e s m args below meth c s₁ B hml hv
  obtain ⟨hargs, hsz, hP, hEV, hD0⟩ := hv
  have hx := B.exec
  have hb := B.bytes
  have hr := B.returns
  have hts := atoms_spec (ws := wsX3_unpile) B.pre
  have hown : s.vm.findClass RX3 = some m.cls := findClass_of_methodNamed B.named
  have hlocks := B.notSynchronized
  have hK := hEV.K
  have lk_0 := hts _ lk_0_X3_unpile
  have lk_1 := hts _ lk_1_X3_unpile
  have lk_2 := hts _ lk_2_X3_unpile
  have lk_3 := hts _ lk_3_X3_unpile
  have lk_4 := hts _ lk_4_X3_unpile
  have lk_5 := hts _ lk_5_X3_unpile
  have lk_6 := hts _ lk_6_X3_unpile
  have lk_7 := hts _ lk_7_X3_unpile
  have lk_8 := hts _ lk_8_X3_unpile
  have lk_9 := hts _ lk_9_X3_unpile
  have lk_10 := hts _ lk_10_X3_unpile
  have lk_11 := hts _ lk_11_X3_unpile
  have lk_12 := hts _ lk_12_X3_unpile
  have lk_13 := hts _ lk_13_X3_unpile
  subst hsz
  unfold QiW PoW
  have hD := hD0.self (sz := s.heap.size)
  generalize hAe : va_A [(q0, .inr (3, [.int f0_n, .ref q0_start, .ref q0_pileRows, .ref q0_pileTaken, .ref q0_pileOnes, .int f0_pileSize, v0_nodeCount, v0_modelCount, v0_lastModel, v0_cut])), (q0_start, .inr (5, [v0_start_n, .ref q0_start_rows, .long f0_start_taken, .long f0_start_ones])), (q0_start_rows, .inr (2, [v0_start_rows_n, .ref q0_start_rows_byHead, .int (bI f0_start_rows_impossible)])), (q0_start_rows_byHead, .inl (cL, n0_start_rows_byHead, .inr (.inl h0_start_rows_byHead))), (q0_pileRows, .inl (cL, n0_pileRows, .inr (.inl h0_pileRows))), (q0_pileTaken, .inl (cL, n0_pileTaken, .inr (.inl h0_pileTaken))), (q0_pileOnes, .inl (cL, n0_pileOnes, .inr (.inl h0_pileOnes)))] s.heap.size = A at hD ⊢
  have hA : ∀ q : Nat, s.heap.size ≤ q → A q := fun q h => by rw [← hAe]; exact Or.inr h
  have hent : entryFrame m args 1 = entryFrame m ([.ref q0] : List Value).toArray 1 := by rw [hargs]
  rw [hent]
  refine kx_Q (fun Q hQ => ?_)
  refine kx_H (fun H hH => ?_)
  have hP : va_P D vwCl [(q0, .inr (3, [.int f0_n, .ref q0_start, .ref q0_pileRows, .ref q0_pileTaken, .ref q0_pileOnes, .int f0_pileSize, v0_nodeCount, v0_modelCount, v0_lastModel, v0_cut])), (q0_start, .inr (5, [v0_start_n, .ref q0_start_rows, .long f0_start_taken, .long f0_start_ones])), (q0_start_rows, .inr (2, [v0_start_rows_n, .ref q0_start_rows_byHead, .int (bI f0_start_rows_impossible)])), (q0_start_rows_byHead, .inl (cL, n0_start_rows_byHead, .inr (.inl h0_start_rows_byHead))), (q0_pileRows, .inl (cL, n0_pileRows, .inr (.inl h0_pileRows))), (q0_pileTaken, .inl (cL, n0_pileTaken, .inr (.inl h0_pileTaken))), (q0_pileOnes, .inl (cL, n0_pileOnes, .inr (.inl h0_pileOnes)))] H := by rw [hH]; exact hP
  have hS : va_S A s.heap H [] := by rw [hH]; exact va_S.rf
  have hl := lv_entry ([.ref q0]) (n := 1) (Nat.le_of_ble_eq_true rfl)
  rw [lg_entry_eq]
  generalize (lg_sl ([.ref q0]) ++ List.replicate (1 - (lg_sl ([.ref q0])).length) Slot.unset).toArray = ls at hl ⊢
  have hl : lv_has ls 1 [(0, .ref q0)] := hl
  have h := hr0
  unfold D_X3_unpile at h
  refine lv_aload_n hx hb dX3_unpile_0 rfl (lv_at hl 0 rfl) ?_
  refine va_get (D := D) (ci := 3) (v := .int f0_pileSize) (C := RX3) (T := TX3) (N := 10) hx hb hts in_X3_unpile_X3 hown hK hP 0 rfl rfl 5 (by decide) lk_0 (fun _ h9 => h9) rfl dX3_unpile_1 ?_
  refine lv_if_gt (tgt := 9) hx hb dX3_unpile_4 (by decide) (fun c_1 => ?_) (fun c_1 => ?_)
  · have k_2 : 0 < f0_pileSize := c_1
    have h := co_t k_2 h
    refine lv_aload_n hx hb dX3_unpile_9 rfl (lv_at hl 0 rfl) ?_
    refine lv_dup hx hb dX3_unpile_10 rfl ?_
    refine va_get (D := D) (ci := 3) (v := .int f0_pileSize) (C := RX3) (T := TX3) (N := 10) hx hb hts in_X3_unpile_X3 hown hK hP 0 rfl rfl 5 (by decide) lk_0 (fun _ h9 => h9) rfl dX3_unpile_11 ?_
    refine lv_iconst (v := (1 : Int32)) hx hb dX3_unpile_14 (by decide) ?_
    refine lv_isub hx hb dX3_unpile_15 ?_
    refine va_put (D := D) (ci := 3) (v := .int (f0_pileSize - (1 : Int32))) (ty := .int) (C := RX3) (T := TX3) (N := 10) hx hb hts in_X3_unpile_X3 tyX3 tyX3_ok nmX3 hown hK hP hD hS 0 rfl rfl 5 (by decide) lk_0 (fun _ h9 => h9) rfl (by decide +kernel) rfl rfl (Nat.le_of_ble_eq_true rfl) dX3_unpile_16 (fun H locs hP hD hS => ?_)
    have hP : va_P D vwCl [(q0, .inr (3, [.int f0_n, .ref q0_start, .ref q0_pileRows, .ref q0_pileTaken, .ref q0_pileOnes, .int (f0_pileSize - (1 : Int32)), v0_nodeCount, v0_modelCount, v0_lastModel, v0_cut])), (q0_start, .inr (5, [v0_start_n, .ref q0_start_rows, .long f0_start_taken, .long f0_start_ones])), (q0_start_rows, .inr (2, [v0_start_rows_n, .ref q0_start_rows_byHead, .int (bI f0_start_rows_impossible)])), (q0_start_rows_byHead, .inl (cL, n0_start_rows_byHead, .inr (.inl h0_start_rows_byHead))), (q0_pileRows, .inl (cL, n0_pileRows, .inr (.inl h0_pileRows))), (q0_pileTaken, .inl (cL, n0_pileTaken, .inr (.inl h0_pileTaken))), (q0_pileOnes, .inl (cL, n0_pileOnes, .inr (.inl h0_pileOnes)))] H := hP
    have hD : va_D A [(q0, .inr (3, [.int f0_n, .ref q0_start, .ref q0_pileRows, .ref q0_pileTaken, .ref q0_pileOnes, .int (f0_pileSize - (1 : Int32)), v0_nodeCount, v0_modelCount, v0_lastModel, v0_cut])), (q0_start, .inr (5, [v0_start_n, .ref q0_start_rows, .long f0_start_taken, .long f0_start_ones])), (q0_start_rows, .inr (2, [v0_start_rows_n, .ref q0_start_rows_byHead, .int (bI f0_start_rows_impossible)])), (q0_start_rows_byHead, .inl (cL, n0_start_rows_byHead, .inr (.inl h0_start_rows_byHead))), (q0_pileRows, .inl (cL, n0_pileRows, .inr (.inl h0_pileRows))), (q0_pileTaken, .inl (cL, n0_pileTaken, .inr (.inl h0_pileTaken))), (q0_pileOnes, .inl (cL, n0_pileOnes, .inr (.inl h0_pileOnes)))] := hD
    refine lv_aload_n hx hb dX3_unpile_19 rfl (lv_at hl 0 rfl) ?_
    refine va_get (D := D) (ci := 3) (v := .ref q0_pileRows) (C := RX3) (T := TX3) (N := 10) hx hb hts in_X3_unpile_X3 hown hK hP 0 rfl rfl 2 (by decide) lk_1 (fun _ h9 => h9) rfl dX3_unpile_20 ?_
    refine lv_aload_n hx hb dX3_unpile_23 rfl (lv_at hl 0 rfl) ?_
    refine va_get (D := D) (ci := 3) (v := .int (f0_pileSize - (1 : Int32))) (C := RX3) (T := TX3) (N := 10) hx hb hts in_X3_unpile_X3 hown hK hP 0 rfl rfl 5 (by decide) lk_0 (fun _ h9 => h9) rfl dX3_unpile_24 ?_
    refine lv_aload_n hx hb dX3_unpile_27 rfl (lv_at hl 0 rfl) ?_
    refine va_get (D := D) (ci := 3) (v := .int f0_n) (C := RX3) (T := TX3) (N := 10) hx hb hts in_X3_unpile_X3 hown hK hP 0 rfl rfl 0 (by decide) lk_2 (fun _ h9 => h9) rfl dX3_unpile_28 ?_
    refine lv_imul hx hb dX3_unpile_31 ?_
    refine lv_aload_n hx hb dX3_unpile_32 rfl (lv_at hl 0 rfl) ?_
    refine va_get (D := D) (ci := 3) (v := .ref q0_start) (C := RX3) (T := TX3) (N := 10) hx hb hts in_X3_unpile_X3 hown hK hP 0 rfl rfl 1 (by decide) lk_3 (fun _ h9 => h9) rfl dX3_unpile_33 ?_
    refine va_getN (D := D) (ci := 5) (v := .ref q0_start_rows) (C := RX5) (T := TX5) (N := 4) (host := "ParityClauses") hx hb hts in_X3_unpile_X5 hown hK hP 1 rfl rfl 1 (by decide) (va_Nw.use rfl hEV.2.1) (fun _ h9 => h9) rfl dX3_unpile_36 ?_
    refine va_get (D := D) (ci := 2) (v := .ref q0_start_rows_byHead) (C := RX2) (T := TX2) (N := 3) hx hb hts in_X3_unpile_X2 hown hK hP 2 rfl rfl 1 (by decide) lk_4 (fun _ h9 => h9) rfl dX3_unpile_39 ?_
    refine lv_iconst (v := (0 : Int32)) hx hb dX3_unpile_42 (by decide) ?_
    refine lv_aload_n hx hb dX3_unpile_43 rfl (lv_at hl 0 rfl) ?_
    refine va_get (D := D) (ci := 3) (v := .int f0_n) (C := RX3) (T := TX3) (N := 10) hx hb hts in_X3_unpile_X3 hown hK hP 0 rfl rfl 0 (by decide) lk_2 (fun _ h9 => h9) rfl dX3_unpile_44 ?_
    obtain ⟨⟨b_31, b_32, b_33, b_34, b_35⟩, h⟩ := co_i h
    refine va_copyl (ty := .long) hx hb (by rw [hml]; exact hl.1.symm) hown lk_5 lk_6 lk_7 lk_8 hK hP hD hS 4 3 1 1 rfl rfl rfl rfl rfl b_31 b_32 b_33 b_34 b_35 (fun _ _ => rfl) (Nat.le_of_ble_eq_true rfl) (Nat.le_of_ble_eq_true rfl) dX3_unpile_47 (fun H locs hP hD hS => ?_)
    have hP : va_P D vwCl [(q0, .inr (3, [.int f0_n, .ref q0_start, .ref q0_pileRows, .ref q0_pileTaken, .ref q0_pileOnes, .int (f0_pileSize - (1 : Int32)), v0_nodeCount, v0_modelCount, v0_lastModel, v0_cut])), (q0_start, .inr (5, [v0_start_n, .ref q0_start_rows, .long f0_start_taken, .long f0_start_ones])), (q0_start_rows, .inr (2, [v0_start_rows_n, .ref q0_start_rows_byHead, .int (bI f0_start_rows_impossible)])), (q0_start_rows_byHead, .inl (cL, n0_start_rows_byHead, .inr (.inl (va_cpy h0_pileRows h0_start_rows_byHead ((f0_pileSize - (1 : Int32)) * f0_n).toNatClampNeg (0 : Int32).toNatClampNeg f0_n.toNatClampNeg)))), (q0_pileRows, .inl (cL, n0_pileRows, .inr (.inl h0_pileRows))), (q0_pileTaken, .inl (cL, n0_pileTaken, .inr (.inl h0_pileTaken))), (q0_pileOnes, .inl (cL, n0_pileOnes, .inr (.inl h0_pileOnes)))] H := hP
    have hD : va_D A [(q0, .inr (3, [.int f0_n, .ref q0_start, .ref q0_pileRows, .ref q0_pileTaken, .ref q0_pileOnes, .int (f0_pileSize - (1 : Int32)), v0_nodeCount, v0_modelCount, v0_lastModel, v0_cut])), (q0_start, .inr (5, [v0_start_n, .ref q0_start_rows, .long f0_start_taken, .long f0_start_ones])), (q0_start_rows, .inr (2, [v0_start_rows_n, .ref q0_start_rows_byHead, .int (bI f0_start_rows_impossible)])), (q0_start_rows_byHead, .inl (cL, n0_start_rows_byHead, .inr (.inl (va_cpy h0_pileRows h0_start_rows_byHead ((f0_pileSize - (1 : Int32)) * f0_n).toNatClampNeg (0 : Int32).toNatClampNeg f0_n.toNatClampNeg)))), (q0_pileRows, .inl (cL, n0_pileRows, .inr (.inl h0_pileRows))), (q0_pileTaken, .inl (cL, n0_pileTaken, .inr (.inl h0_pileTaken))), (q0_pileOnes, .inl (cL, n0_pileOnes, .inr (.inl h0_pileOnes)))] := hD
    refine lv_aload_n hx hb dX3_unpile_50 rfl (lv_at hl 0 rfl) ?_
    refine va_get (D := D) (ci := 3) (v := .ref q0_start) (C := RX3) (T := TX3) (N := 10) hx hb hts in_X3_unpile_X3 hown hK hP 0 rfl rfl 1 (by decide) lk_3 (fun _ h9 => h9) rfl dX3_unpile_51 ?_
    refine va_getN (D := D) (ci := 5) (v := .ref q0_start_rows) (C := RX5) (T := TX5) (N := 4) (host := "ParityClauses") hx hb hts in_X3_unpile_X5 hown hK hP 1 rfl rfl 1 (by decide) (va_Nw.use rfl hEV.2.1) (fun _ h9 => h9) rfl dX3_unpile_54 ?_
    refine lv_iconst (v := (0 : Int32)) hx hb dX3_unpile_57 (by decide) ?_
    refine va_put (D := D) (ci := 2) (v := .int (bI false)) (ty := .boolean) (C := RX2) (T := TX2) (N := 3) hx hb hts in_X3_unpile_X2 tyX2 tyX2_ok nmX2 hown hK hP hD hS 2 rfl rfl 2 (by decide) lk_9 (fun _ h9 => h9) rfl (by decide +kernel) (bI_n false) (bI_fit false) (Nat.le_of_ble_eq_true rfl) dX3_unpile_58 (fun H locs hP hD hS => ?_)
    have hP : va_P D vwCl [(q0, .inr (3, [.int f0_n, .ref q0_start, .ref q0_pileRows, .ref q0_pileTaken, .ref q0_pileOnes, .int (f0_pileSize - (1 : Int32)), v0_nodeCount, v0_modelCount, v0_lastModel, v0_cut])), (q0_start, .inr (5, [v0_start_n, .ref q0_start_rows, .long f0_start_taken, .long f0_start_ones])), (q0_start_rows, .inr (2, [v0_start_rows_n, .ref q0_start_rows_byHead, .int (bI false)])), (q0_start_rows_byHead, .inl (cL, n0_start_rows_byHead, .inr (.inl (va_cpy h0_pileRows h0_start_rows_byHead ((f0_pileSize - (1 : Int32)) * f0_n).toNatClampNeg (0 : Int32).toNatClampNeg f0_n.toNatClampNeg)))), (q0_pileRows, .inl (cL, n0_pileRows, .inr (.inl h0_pileRows))), (q0_pileTaken, .inl (cL, n0_pileTaken, .inr (.inl h0_pileTaken))), (q0_pileOnes, .inl (cL, n0_pileOnes, .inr (.inl h0_pileOnes)))] H := hP
    have hD : va_D A [(q0, .inr (3, [.int f0_n, .ref q0_start, .ref q0_pileRows, .ref q0_pileTaken, .ref q0_pileOnes, .int (f0_pileSize - (1 : Int32)), v0_nodeCount, v0_modelCount, v0_lastModel, v0_cut])), (q0_start, .inr (5, [v0_start_n, .ref q0_start_rows, .long f0_start_taken, .long f0_start_ones])), (q0_start_rows, .inr (2, [v0_start_rows_n, .ref q0_start_rows_byHead, .int (bI false)])), (q0_start_rows_byHead, .inl (cL, n0_start_rows_byHead, .inr (.inl (va_cpy h0_pileRows h0_start_rows_byHead ((f0_pileSize - (1 : Int32)) * f0_n).toNatClampNeg (0 : Int32).toNatClampNeg f0_n.toNatClampNeg)))), (q0_pileRows, .inl (cL, n0_pileRows, .inr (.inl h0_pileRows))), (q0_pileTaken, .inl (cL, n0_pileTaken, .inr (.inl h0_pileTaken))), (q0_pileOnes, .inl (cL, n0_pileOnes, .inr (.inl h0_pileOnes)))] := hD
    refine lv_aload_n hx hb dX3_unpile_61 rfl (lv_at hl 0 rfl) ?_
    refine va_get (D := D) (ci := 3) (v := .ref q0_start) (C := RX3) (T := TX3) (N := 10) hx hb hts in_X3_unpile_X3 hown hK hP 0 rfl rfl 1 (by decide) lk_3 (fun _ h9 => h9) rfl dX3_unpile_62 ?_
    refine lv_aload_n hx hb dX3_unpile_65 rfl (lv_at hl 0 rfl) ?_
    refine va_get (D := D) (ci := 3) (v := .ref q0_pileTaken) (C := RX3) (T := TX3) (N := 10) hx hb hts in_X3_unpile_X3 hown hK hP 0 rfl rfl 3 (by decide) lk_10 (fun _ h9 => h9) rfl dX3_unpile_66 ?_
    refine lv_aload_n hx hb dX3_unpile_69 rfl (lv_at hl 0 rfl) ?_
    refine va_get (D := D) (ci := 3) (v := .int (f0_pileSize - (1 : Int32))) (C := RX3) (T := TX3) (N := 10) hx hb hts in_X3_unpile_X3 hown hK hP 0 rfl rfl 5 (by decide) lk_0 (fun _ h9 => h9) rfl dX3_unpile_70 ?_
    obtain ⟨b_4, h⟩ := co_i h
    refine va_lald hx hb hK hP 5 1 rfl rfl b_4 dX3_unpile_73 ?_
    refine va_put (D := D) (ci := 5) (v := .long (h0_pileTaken (f0_pileSize - (1 : Int32)).toNatClampNeg)) (ty := .long) (C := RX5) (T := TX5) (N := 4) hx hb hts in_X3_unpile_X5 tyX5 tyX5_ok nmX5 hown hK hP hD hS 1 rfl rfl 2 (by decide) lk_11 (fun _ h9 => h9) rfl (by decide +kernel) rfl rfl (Nat.le_of_ble_eq_true rfl) dX3_unpile_74 (fun H locs hP hD hS => ?_)
    have hP : va_P D vwCl [(q0, .inr (3, [.int f0_n, .ref q0_start, .ref q0_pileRows, .ref q0_pileTaken, .ref q0_pileOnes, .int (f0_pileSize - (1 : Int32)), v0_nodeCount, v0_modelCount, v0_lastModel, v0_cut])), (q0_start, .inr (5, [v0_start_n, .ref q0_start_rows, .long (h0_pileTaken (f0_pileSize - (1 : Int32)).toNatClampNeg), .long f0_start_ones])), (q0_start_rows, .inr (2, [v0_start_rows_n, .ref q0_start_rows_byHead, .int (bI false)])), (q0_start_rows_byHead, .inl (cL, n0_start_rows_byHead, .inr (.inl (va_cpy h0_pileRows h0_start_rows_byHead ((f0_pileSize - (1 : Int32)) * f0_n).toNatClampNeg (0 : Int32).toNatClampNeg f0_n.toNatClampNeg)))), (q0_pileRows, .inl (cL, n0_pileRows, .inr (.inl h0_pileRows))), (q0_pileTaken, .inl (cL, n0_pileTaken, .inr (.inl h0_pileTaken))), (q0_pileOnes, .inl (cL, n0_pileOnes, .inr (.inl h0_pileOnes)))] H := hP
    have hD : va_D A [(q0, .inr (3, [.int f0_n, .ref q0_start, .ref q0_pileRows, .ref q0_pileTaken, .ref q0_pileOnes, .int (f0_pileSize - (1 : Int32)), v0_nodeCount, v0_modelCount, v0_lastModel, v0_cut])), (q0_start, .inr (5, [v0_start_n, .ref q0_start_rows, .long (h0_pileTaken (f0_pileSize - (1 : Int32)).toNatClampNeg), .long f0_start_ones])), (q0_start_rows, .inr (2, [v0_start_rows_n, .ref q0_start_rows_byHead, .int (bI false)])), (q0_start_rows_byHead, .inl (cL, n0_start_rows_byHead, .inr (.inl (va_cpy h0_pileRows h0_start_rows_byHead ((f0_pileSize - (1 : Int32)) * f0_n).toNatClampNeg (0 : Int32).toNatClampNeg f0_n.toNatClampNeg)))), (q0_pileRows, .inl (cL, n0_pileRows, .inr (.inl h0_pileRows))), (q0_pileTaken, .inl (cL, n0_pileTaken, .inr (.inl h0_pileTaken))), (q0_pileOnes, .inl (cL, n0_pileOnes, .inr (.inl h0_pileOnes)))] := hD
    refine lv_aload_n hx hb dX3_unpile_77 rfl (lv_at hl 0 rfl) ?_
    refine va_get (D := D) (ci := 3) (v := .ref q0_start) (C := RX3) (T := TX3) (N := 10) hx hb hts in_X3_unpile_X3 hown hK hP 0 rfl rfl 1 (by decide) lk_3 (fun _ h9 => h9) rfl dX3_unpile_78 ?_
    refine lv_aload_n hx hb dX3_unpile_81 rfl (lv_at hl 0 rfl) ?_
    refine va_get (D := D) (ci := 3) (v := .ref q0_pileOnes) (C := RX3) (T := TX3) (N := 10) hx hb hts in_X3_unpile_X3 hown hK hP 0 rfl rfl 4 (by decide) lk_12 (fun _ h9 => h9) rfl dX3_unpile_82 ?_
    refine lv_aload_n hx hb dX3_unpile_85 rfl (lv_at hl 0 rfl) ?_
    refine va_get (D := D) (ci := 3) (v := .int (f0_pileSize - (1 : Int32))) (C := RX3) (T := TX3) (N := 10) hx hb hts in_X3_unpile_X3 hown hK hP 0 rfl rfl 5 (by decide) lk_0 (fun _ h9 => h9) rfl dX3_unpile_86 ?_
    obtain ⟨b_5, h⟩ := co_i h
    refine va_lald hx hb hK hP 6 1 rfl rfl b_5 dX3_unpile_89 ?_
    refine va_put (D := D) (ci := 5) (v := .long (h0_pileOnes (f0_pileSize - (1 : Int32)).toNatClampNeg)) (ty := .long) (C := RX5) (T := TX5) (N := 4) hx hb hts in_X3_unpile_X5 tyX5 tyX5_ok nmX5 hown hK hP hD hS 1 rfl rfl 3 (by decide) lk_13 (fun _ h9 => h9) rfl (by decide +kernel) rfl rfl (Nat.le_of_ble_eq_true rfl) dX3_unpile_90 (fun H locs hP hD hS => ?_)
    have hP : va_P D vwCl [(q0, .inr (3, [.int f0_n, .ref q0_start, .ref q0_pileRows, .ref q0_pileTaken, .ref q0_pileOnes, .int (f0_pileSize - (1 : Int32)), v0_nodeCount, v0_modelCount, v0_lastModel, v0_cut])), (q0_start, .inr (5, [v0_start_n, .ref q0_start_rows, .long (h0_pileTaken (f0_pileSize - (1 : Int32)).toNatClampNeg), .long (h0_pileOnes (f0_pileSize - (1 : Int32)).toNatClampNeg)])), (q0_start_rows, .inr (2, [v0_start_rows_n, .ref q0_start_rows_byHead, .int (bI false)])), (q0_start_rows_byHead, .inl (cL, n0_start_rows_byHead, .inr (.inl (va_cpy h0_pileRows h0_start_rows_byHead ((f0_pileSize - (1 : Int32)) * f0_n).toNatClampNeg (0 : Int32).toNatClampNeg f0_n.toNatClampNeg)))), (q0_pileRows, .inl (cL, n0_pileRows, .inr (.inl h0_pileRows))), (q0_pileTaken, .inl (cL, n0_pileTaken, .inr (.inl h0_pileTaken))), (q0_pileOnes, .inl (cL, n0_pileOnes, .inr (.inl h0_pileOnes)))] H := hP
    have hD : va_D A [(q0, .inr (3, [.int f0_n, .ref q0_start, .ref q0_pileRows, .ref q0_pileTaken, .ref q0_pileOnes, .int (f0_pileSize - (1 : Int32)), v0_nodeCount, v0_modelCount, v0_lastModel, v0_cut])), (q0_start, .inr (5, [v0_start_n, .ref q0_start_rows, .long (h0_pileTaken (f0_pileSize - (1 : Int32)).toNatClampNeg), .long (h0_pileOnes (f0_pileSize - (1 : Int32)).toNatClampNeg)])), (q0_start_rows, .inr (2, [v0_start_rows_n, .ref q0_start_rows_byHead, .int (bI false)])), (q0_start_rows_byHead, .inl (cL, n0_start_rows_byHead, .inr (.inl (va_cpy h0_pileRows h0_start_rows_byHead ((f0_pileSize - (1 : Int32)) * f0_n).toNatClampNeg (0 : Int32).toNatClampNeg f0_n.toNatClampNeg)))), (q0_pileRows, .inl (cL, n0_pileRows, .inr (.inl h0_pileRows))), (q0_pileTaken, .inl (cL, n0_pileTaken, .inr (.inl h0_pileTaken))), (q0_pileOnes, .inl (cL, n0_pileOnes, .inr (.inl h0_pileOnes)))] := hD
    refine lv_iconst (v := (1 : Int32)) hx hb dX3_unpile_93 (by decide) ?_
    have h := Option.some.inj h
    subst h
    subst hQ
    exact W.zret (v := bI true) hx hb hr (bI_n true) (fun t ht hW => ⟨⟨bI true, (), rfl, ⟨rfl, trivial⟩, by rw [ht]; exact hP, hD⟩, hS.F ht⟩) hS.2.2 dX3_unpile_94
  · have k_2 : ¬ (0 < f0_pileSize) := c_1
    have h := co_f k_2 h
    refine lv_iconst (v := (0 : Int32)) hx hb dX3_unpile_7 (by decide) ?_
    have h := Option.some.inj h
    subst h
    subst hQ
    exact W.zret (v := bI false) hx hb hr (bI_n false) (fun t ht hW => ⟨⟨bI false, (), rfl, ⟨rfl, trivial⟩, by rw [ht]; exact hP, hD⟩, hS.F ht⟩) hS.2.2 dX3_unpile_8
theorem in_X3_run_X3 : ∀ w ∈ wsX30, w ∈ wsX3_run := by decide +kernel
theorem in_X3_run_X5 : ∀ w ∈ wsX50, w ∈ wsX3_run := by decide +kernel
theorem lk_0_X3_run : Cond.fieldLink RX3 45 "ParityClauses$Search" "cut" "Z" ∈ wsX3_run := by decide +kernel
theorem lk_1_X3_run : Cond.fieldLink RX3 39 "ParityClauses$Search" "nodeCount" "I" ∈ wsX3_run := by decide +kernel
theorem lk_2_X3_run : Cond.fieldLink RX3 18 "ParityClauses$Search" "start" "LParityClauses$Taking;" ∈ wsX3_run := by decide +kernel
theorem lk_3_X3_run : Cond.fieldLink RX3 42 "ParityClauses$Search" "modelCount" "I" ∈ wsX3_run := by decide +kernel
theorem lk_4_X3_run : Cond.fieldLink RX3 57 "ParityClauses$Taking" "ones" "J" ∈ wsX3_run := by decide +kernel
theorem lk_5_X3_run : Cond.fieldLink RX3 61 "ParityClauses$Search" "lastModel" "J" ∈ wsX3_run := by decide +kernel
abbrev rm_X3_run : Room := { frames := 6, cells := 0, slots := 0, locals := 151 }
set_option maxHeartbeats 4000000 in
set_option maxRecDepth 100000 in
theorem cm_X3_run (l : Launch) (D : va_G) (cI cL : ClassId) (q0 q0_start q0_start_rows q0_start_rows_byHead q0_pileRows q0_pileTaken q0_pileOnes q1 q1_yes q1_no : Nat) (n0_start_rows_byHead n0_pileRows n0_pileTaken n0_pileOnes n1_yes n1_no : Nat) (f0_n : Int32) (f0_pileSize : Int32) (f0_nodeCount : Int32) (f0_modelCount : Int32) (f0_lastModel : Int64) (f0_cut : Bool) (f0_start_n : Int32) (f0_start_taken : Int64) (f0_start_ones : Int64) (f0_start_rows_n : Int32) (f0_start_rows_impossible : Bool) (h0_start_rows_byHead : Nat → Int64) (h0_pileRows : Nat → Int64) (h0_pileTaken : Nat → Int64) (h0_pileOnes : Nat → Int64) (f1_clauseCount : Int32) (h1_yes : Nat → Int64) (h1_no : Nat → Int64) (v1_equations v1_equationCount v1_equationsBefore v1_clausesBefore v1_levelCount : Value) (x2 : Int32) (x3 : Bool) (r0 : Int32 × Int32 × Int32 × Int64 × Bool × Int64 × Int64 × Bool × (Nat → Int64) × (Nat → Int64) × (Nat → Int64) × (Nat → Int64)) (hr0 : D_X3_run f0_n f0_pileSize f0_nodeCount f0_modelCount f0_lastModel f0_cut f0_start_n f0_start_taken f0_start_ones f0_start_rows_n f0_start_rows_impossible n0_start_rows_byHead h0_start_rows_byHead n0_pileRows h0_pileRows n0_pileTaken h0_pileTaken n0_pileOnes h0_pileOnes f1_clauseCount n1_yes h1_yes n1_no h1_no x2 x3 = some r0) (sz : Nat) : Met l yX3_run wsX3_run rm_X3_run (PcW D cI cL [.ref q0, .ref q1, .int x2, .int (bI x3)] [(q0, .inr (3, [.int f0_n, .ref q0_start, .ref q0_pileRows, .ref q0_pileTaken, .ref q0_pileOnes, .int f0_pileSize, .int f0_nodeCount, .int f0_modelCount, .long f0_lastModel, .int (bI f0_cut)])), (q0_start, .inr (5, [.int f0_start_n, .ref q0_start_rows, .long f0_start_taken, .long f0_start_ones])), (q0_start_rows, .inr (2, [.int f0_start_rows_n, .ref q0_start_rows_byHead, .int (bI f0_start_rows_impossible)])), (q0_start_rows_byHead, .inl (cL, n0_start_rows_byHead, .inr (.inl h0_start_rows_byHead))), (q0_pileRows, .inl (cL, n0_pileRows, .inr (.inl h0_pileRows))), (q0_pileTaken, .inl (cL, n0_pileTaken, .inr (.inl h0_pileTaken))), (q0_pileOnes, .inl (cL, n0_pileOnes, .inr (.inl h0_pileOnes))), (q1, .inr (4, [v1_equations, .ref q1_yes, .ref q1_no, v1_equationCount, .int f1_clauseCount, v1_equationsBefore, v1_clausesBefore, v1_levelCount])), (q1_yes, .inl (cL, n1_yes, .inr (.inl h1_yes))), (q1_no, .inl (cL, n1_no, .inr (.inl h1_no)))] sz) (QvW D [(q0, .inr (3, [.int f0_n, .ref q0_start, .ref q0_pileRows, .ref q0_pileTaken, .ref q0_pileOnes, .int f0_pileSize, .int f0_nodeCount, .int f0_modelCount, .long f0_lastModel, .int (bI f0_cut)])), (q0_start, .inr (5, [.int f0_start_n, .ref q0_start_rows, .long f0_start_taken, .long f0_start_ones])), (q0_start_rows, .inr (2, [.int f0_start_rows_n, .ref q0_start_rows_byHead, .int (bI f0_start_rows_impossible)])), (q0_start_rows_byHead, .inl (cL, n0_start_rows_byHead, .inr (.inl h0_start_rows_byHead))), (q0_pileRows, .inl (cL, n0_pileRows, .inr (.inl h0_pileRows))), (q0_pileTaken, .inl (cL, n0_pileTaken, .inr (.inl h0_pileTaken))), (q0_pileOnes, .inl (cL, n0_pileOnes, .inr (.inl h0_pileOnes))), (q1, .inr (4, [v1_equations, .ref q1_yes, .ref q1_no, v1_equationCount, .int f1_clauseCount, v1_equationsBefore, v1_clausesBefore, v1_levelCount])), (q1_yes, .inl (cL, n1_yes, .inr (.inl h1_yes))), (q1_no, .inl (cL, n1_no, .inr (.inl h1_no)))] (fun _ : Unit => [(q0, .inr (3, [.int f0_n, .ref q0_start, .ref q0_pileRows, .ref q0_pileTaken, .ref q0_pileOnes, .int r0.1, .int r0.2.1, .int r0.2.2.1, .long r0.2.2.2.1, .int (bI r0.2.2.2.2.1)])), (q0_start, .inr (5, [.int f0_start_n, .ref q0_start_rows, .long r0.2.2.2.2.2.1, .long r0.2.2.2.2.2.2.1])), (q0_start_rows, .inr (2, [.int f0_start_rows_n, .ref q0_start_rows_byHead, .int (bI r0.2.2.2.2.2.2.2.1)])), (q0_start_rows_byHead, .inl (cL, n0_start_rows_byHead, .inr (.inl r0.2.2.2.2.2.2.2.2.1))), (q0_pileRows, .inl (cL, n0_pileRows, .inr (.inl r0.2.2.2.2.2.2.2.2.2.1))), (q0_pileTaken, .inl (cL, n0_pileTaken, .inr (.inl r0.2.2.2.2.2.2.2.2.2.2.1))), (q0_pileOnes, .inl (cL, n0_pileOnes, .inr (.inl r0.2.2.2.2.2.2.2.2.2.2.2))), (q1, .inr (4, [v1_equations, .ref q1_yes, .ref q1_no, v1_equationCount, .int f1_clauseCount, v1_equationsBefore, v1_clausesBefore, v1_levelCount])), (q1_yes, .inl (cL, n1_yes, .inr (.inl h1_yes))), (q1_no, .inl (cL, n1_no, .inr (.inl h1_no)))]) tU sz) 0 0 (va_A [(q0, .inr (3, [.int f0_n, .ref q0_start, .ref q0_pileRows, .ref q0_pileTaken, .ref q0_pileOnes, .int f0_pileSize, .int f0_nodeCount, .int f0_modelCount, .long f0_lastModel, .int (bI f0_cut)])), (q0_start, .inr (5, [.int f0_start_n, .ref q0_start_rows, .long f0_start_taken, .long f0_start_ones])), (q0_start_rows, .inr (2, [.int f0_start_rows_n, .ref q0_start_rows_byHead, .int (bI f0_start_rows_impossible)])), (q0_start_rows_byHead, .inl (cL, n0_start_rows_byHead, .inr (.inl h0_start_rows_byHead))), (q0_pileRows, .inl (cL, n0_pileRows, .inr (.inl h0_pileRows))), (q0_pileTaken, .inl (cL, n0_pileTaken, .inr (.inl h0_pileTaken))), (q0_pileOnes, .inl (cL, n0_pileOnes, .inr (.inl h0_pileOnes))), (q1, .inr (4, [v1_equations, .ref q1_yes, .ref q1_no, v1_equationCount, .int f1_clauseCount, v1_equationsBefore, v1_clausesBefore, v1_levelCount])), (q1_yes, .inl (cL, n1_yes, .inr (.inl h1_yes))), (q1_no, .inl (cL, n1_no, .inr (.inl h1_no)))] sz) := by
  refine Met.ofW (cc := cX3_run) (maxL := 6) (ret := none) (by decide) rfl ?_
  intro p e s m args below meth c s₁ B hml hv
  obtain ⟨hargs, hsz, hP, hEV, hD0⟩ := hv
  have hx := B.exec
  have hb := B.bytes
  have hr := B.returns
  have hts := atoms_spec (ws := wsX3_run) B.pre
  have hown : s.vm.findClass RX3 = some m.cls := findClass_of_methodNamed B.named
  have hlocks := B.notSynchronized
  have hK := hEV.K
  have lk_0 := hts _ lk_0_X3_run
  have lk_1 := hts _ lk_1_X3_run
  have lk_2 := hts _ lk_2_X3_run
  have lk_3 := hts _ lk_3_X3_run
  have lk_4 := hts _ lk_4_X3_run
  have lk_5 := hts _ lk_5_X3_run
  subst hsz
  unfold QvW PoW
  have hD := hD0.self (sz := s.heap.size)
  generalize hAe : va_A [(q0, .inr (3, [.int f0_n, .ref q0_start, .ref q0_pileRows, .ref q0_pileTaken, .ref q0_pileOnes, .int f0_pileSize, .int f0_nodeCount, .int f0_modelCount, .long f0_lastModel, .int (bI f0_cut)])), (q0_start, .inr (5, [.int f0_start_n, .ref q0_start_rows, .long f0_start_taken, .long f0_start_ones])), (q0_start_rows, .inr (2, [.int f0_start_rows_n, .ref q0_start_rows_byHead, .int (bI f0_start_rows_impossible)])), (q0_start_rows_byHead, .inl (cL, n0_start_rows_byHead, .inr (.inl h0_start_rows_byHead))), (q0_pileRows, .inl (cL, n0_pileRows, .inr (.inl h0_pileRows))), (q0_pileTaken, .inl (cL, n0_pileTaken, .inr (.inl h0_pileTaken))), (q0_pileOnes, .inl (cL, n0_pileOnes, .inr (.inl h0_pileOnes))), (q1, .inr (4, [v1_equations, .ref q1_yes, .ref q1_no, v1_equationCount, .int f1_clauseCount, v1_equationsBefore, v1_clausesBefore, v1_levelCount])), (q1_yes, .inl (cL, n1_yes, .inr (.inl h1_yes))), (q1_no, .inl (cL, n1_no, .inr (.inl h1_no)))] s.heap.size = A at hD ⊢
  have hA : ∀ q : Nat, s.heap.size ≤ q → A q := fun q h => by rw [← hAe]; exact Or.inr h
  have hent : entryFrame m args 6 = entryFrame m ([.ref q0, .ref q1, .int x2, .int (bI x3)] : List Value).toArray 6 := by rw [hargs]
  rw [hent]
  refine kx_Q (fun Q hQ => ?_)
  refine kx_H (fun H hH => ?_)
  have hP : va_P D vwCl [(q0, .inr (3, [.int f0_n, .ref q0_start, .ref q0_pileRows, .ref q0_pileTaken, .ref q0_pileOnes, .int f0_pileSize, .int f0_nodeCount, .int f0_modelCount, .long f0_lastModel, .int (bI f0_cut)])), (q0_start, .inr (5, [.int f0_start_n, .ref q0_start_rows, .long f0_start_taken, .long f0_start_ones])), (q0_start_rows, .inr (2, [.int f0_start_rows_n, .ref q0_start_rows_byHead, .int (bI f0_start_rows_impossible)])), (q0_start_rows_byHead, .inl (cL, n0_start_rows_byHead, .inr (.inl h0_start_rows_byHead))), (q0_pileRows, .inl (cL, n0_pileRows, .inr (.inl h0_pileRows))), (q0_pileTaken, .inl (cL, n0_pileTaken, .inr (.inl h0_pileTaken))), (q0_pileOnes, .inl (cL, n0_pileOnes, .inr (.inl h0_pileOnes))), (q1, .inr (4, [v1_equations, .ref q1_yes, .ref q1_no, v1_equationCount, .int f1_clauseCount, v1_equationsBefore, v1_clausesBefore, v1_levelCount])), (q1_yes, .inl (cL, n1_yes, .inr (.inl h1_yes))), (q1_no, .inl (cL, n1_no, .inr (.inl h1_no)))] H := by rw [hH]; exact hP
  have hS : va_S A s.heap H [] := by rw [hH]; exact va_S.rf
  have hl := lv_entry ([.ref q0, .ref q1, .int x2, .int (bI x3)]) (n := 6) (Nat.le_of_ble_eq_true rfl)
  rw [lg_entry_eq]
  generalize (lg_sl ([.ref q0, .ref q1, .int x2, .int (bI x3)]) ++ List.replicate (6 - (lg_sl ([.ref q0, .ref q1, .int x2, .int (bI x3)])).length) Slot.unset).toArray = ls at hl ⊢
  have hl : lv_has ls 6 [(0, .ref q0), (1, .ref q1), (2, .int x2), (3, .int (bI x3))] := hl
  have hloop : ∀ n9 : Nat, (∀ (x4 : Int32) (f0_pileSize : Int32) (f0_nodeCount : Int32) (f0_modelCount : Int32) (f0_lastModel : Int64) (f0_cut : Bool) (f0_start_taken : Int64) (f0_start_ones : Int64) (f0_start_rows_impossible : Bool) (h0_start_rows_byHead : Nat → Int64) (h0_pileRows : Nat → Int64) (h0_pileTaken : Nat → Int64) (h0_pileOnes : Nat → Int64), iter (st_X3_run f0_n f0_start_n f0_start_rows_n n0_start_rows_byHead n0_pileRows n0_pileTaken n0_pileOnes f1_clauseCount n1_yes h1_yes n1_no h1_no x2 x3) n9 (x4, f0_pileSize, f0_nodeCount, f0_modelCount, f0_lastModel, f0_cut, f0_start_taken, f0_start_ones, f0_start_rows_impossible, h0_start_rows_byHead, h0_pileRows, h0_pileTaken, h0_pileOnes) = some r0 → ∀ (H : Heap) (locs : List Loc) (ls : Array Slot), va_P D vwCl [(q0, .inr (3, [.int f0_n, .ref q0_start, .ref q0_pileRows, .ref q0_pileTaken, .ref q0_pileOnes, .int f0_pileSize, .int f0_nodeCount, .int f0_modelCount, .long f0_lastModel, .int (bI f0_cut)])), (q0_start, .inr (5, [.int f0_start_n, .ref q0_start_rows, .long f0_start_taken, .long f0_start_ones])), (q0_start_rows, .inr (2, [.int f0_start_rows_n, .ref q0_start_rows_byHead, .int (bI f0_start_rows_impossible)])), (q0_start_rows_byHead, .inl (cL, n0_start_rows_byHead, .inr (.inl h0_start_rows_byHead))), (q0_pileRows, .inl (cL, n0_pileRows, .inr (.inl h0_pileRows))), (q0_pileTaken, .inl (cL, n0_pileTaken, .inr (.inl h0_pileTaken))), (q0_pileOnes, .inl (cL, n0_pileOnes, .inr (.inl h0_pileOnes))), (q1, .inr (4, [v1_equations, .ref q1_yes, .ref q1_no, v1_equationCount, .int f1_clauseCount, v1_equationsBefore, v1_clausesBefore, v1_levelCount])), (q1_yes, .inl (cL, n1_yes, .inr (.inl h1_yes))), (q1_no, .inl (cL, n1_no, .inr (.inl h1_no)))] H → va_D A [(q0, .inr (3, [.int f0_n, .ref q0_start, .ref q0_pileRows, .ref q0_pileTaken, .ref q0_pileOnes, .int f0_pileSize, .int f0_nodeCount, .int f0_modelCount, .long f0_lastModel, .int (bI f0_cut)])), (q0_start, .inr (5, [.int f0_start_n, .ref q0_start_rows, .long f0_start_taken, .long f0_start_ones])), (q0_start_rows, .inr (2, [.int f0_start_rows_n, .ref q0_start_rows_byHead, .int (bI f0_start_rows_impossible)])), (q0_start_rows_byHead, .inl (cL, n0_start_rows_byHead, .inr (.inl h0_start_rows_byHead))), (q0_pileRows, .inl (cL, n0_pileRows, .inr (.inl h0_pileRows))), (q0_pileTaken, .inl (cL, n0_pileTaken, .inr (.inl h0_pileTaken))), (q0_pileOnes, .inl (cL, n0_pileOnes, .inr (.inl h0_pileOnes))), (q1, .inr (4, [v1_equations, .ref q1_yes, .ref q1_no, v1_equationCount, .int f1_clauseCount, v1_equationsBefore, v1_clausesBefore, v1_levelCount])), (q1_yes, .inl (cL, n1_yes, .inr (.inl h1_yes))), (q1_no, .inl (cL, n1_no, .inr (.inl h1_no)))] → va_S A s.heap H locs → lv_has ls 6 [(0, .ref q0), (1, .ref q1), (2, .int x2), (3, .int (bI x3)), (4, .int x4)] → W p l e (headSpec wsX3_run rm_X3_run).room s m args below meth c H locs 0 0 Q (F0 m 3 ls [])) := by
    intro n9
    induction n9 with
    | zero => exact (fun _ _ _ _ _ _ _ _ _ _ _ _ _ h => nomatch h)
    | succ n9 ih =>
      intro x4 f0_pileSize f0_nodeCount f0_modelCount f0_lastModel f0_cut f0_start_taken f0_start_ones f0_start_rows_impossible h0_start_rows_byHead h0_pileRows h0_pileTaken h0_pileOnes h H locs ls hP hD hS hl
      have h : run1 (iter (st_X3_run f0_n f0_start_n f0_start_rows_n n0_start_rows_byHead n0_pileRows n0_pileTaken n0_pileOnes f1_clauseCount n1_yes h1_yes n1_no h1_no x2 x3) n9) (b_X3_run_3 f0_n f0_start_n f0_start_rows_n n0_start_rows_byHead n0_pileRows n0_pileTaken n0_pileOnes f1_clauseCount n1_yes h1_yes n1_no h1_no x2 x3 x4 f0_pileSize f0_nodeCount f0_modelCount f0_lastModel f0_cut f0_start_taken f0_start_ones f0_start_rows_impossible h0_start_rows_byHead h0_pileRows h0_pileTaken h0_pileOnes) = some r0 := h
      unfold b_X3_run_3 at h
      refine lv_iload hx hb dX3_run_3 (lv_at hl 4 rfl) ?_
      refine lv_iload_n hx hb dX3_run_5 rfl (lv_at hl 2 rfl) ?_
      refine lv_icmp_ge (tgt := 132) hx hb dX3_run_6 (by decide) (fun c_1 => ?_) (fun c_1 => ?_)
      · have k_2 : x2 ≤ x4 := c_1
        have h := cw_t k_2 h
        refine lv_aload_n hx hb dX3_run_132 rfl (lv_at hl 0 rfl) ?_
        refine lv_iconst (v := (1 : Int32)) hx hb dX3_run_133 (by decide) ?_
        refine va_put (D := D) (ci := 3) (v := .int (bI true)) (ty := .boolean) (C := RX3) (T := TX3) (N := 10) hx hb hts in_X3_run_X3 tyX3 tyX3_ok nmX3 hown hK hP hD hS 0 rfl rfl 9 (by decide) lk_0 (fun _ h9 => h9) rfl (by decide +kernel) (bI_n true) (bI_fit true) (Nat.le_of_ble_eq_true rfl) dX3_run_134 (fun H locs hP hD hS => ?_)
        have hP : va_P D vwCl [(q0, .inr (3, [.int f0_n, .ref q0_start, .ref q0_pileRows, .ref q0_pileTaken, .ref q0_pileOnes, .int f0_pileSize, .int f0_nodeCount, .int f0_modelCount, .long f0_lastModel, .int (bI true)])), (q0_start, .inr (5, [.int f0_start_n, .ref q0_start_rows, .long f0_start_taken, .long f0_start_ones])), (q0_start_rows, .inr (2, [.int f0_start_rows_n, .ref q0_start_rows_byHead, .int (bI f0_start_rows_impossible)])), (q0_start_rows_byHead, .inl (cL, n0_start_rows_byHead, .inr (.inl h0_start_rows_byHead))), (q0_pileRows, .inl (cL, n0_pileRows, .inr (.inl h0_pileRows))), (q0_pileTaken, .inl (cL, n0_pileTaken, .inr (.inl h0_pileTaken))), (q0_pileOnes, .inl (cL, n0_pileOnes, .inr (.inl h0_pileOnes))), (q1, .inr (4, [v1_equations, .ref q1_yes, .ref q1_no, v1_equationCount, .int f1_clauseCount, v1_equationsBefore, v1_clausesBefore, v1_levelCount])), (q1_yes, .inl (cL, n1_yes, .inr (.inl h1_yes))), (q1_no, .inl (cL, n1_no, .inr (.inl h1_no)))] H := hP
        have hD : va_D A [(q0, .inr (3, [.int f0_n, .ref q0_start, .ref q0_pileRows, .ref q0_pileTaken, .ref q0_pileOnes, .int f0_pileSize, .int f0_nodeCount, .int f0_modelCount, .long f0_lastModel, .int (bI true)])), (q0_start, .inr (5, [.int f0_start_n, .ref q0_start_rows, .long f0_start_taken, .long f0_start_ones])), (q0_start_rows, .inr (2, [.int f0_start_rows_n, .ref q0_start_rows_byHead, .int (bI f0_start_rows_impossible)])), (q0_start_rows_byHead, .inl (cL, n0_start_rows_byHead, .inr (.inl h0_start_rows_byHead))), (q0_pileRows, .inl (cL, n0_pileRows, .inr (.inl h0_pileRows))), (q0_pileTaken, .inl (cL, n0_pileTaken, .inr (.inl h0_pileTaken))), (q0_pileOnes, .inl (cL, n0_pileOnes, .inr (.inl h0_pileOnes))), (q1, .inr (4, [v1_equations, .ref q1_yes, .ref q1_no, v1_equationCount, .int f1_clauseCount, v1_equationsBefore, v1_clausesBefore, v1_levelCount])), (q1_yes, .inl (cL, n1_yes, .inr (.inl h1_yes))), (q1_no, .inl (cL, n1_no, .inr (.inl h1_no)))] := hD
        have h := Option.some.inj h
        subst h
        subst hQ
        exact W.vret hx hb hr (fun t ht hW => ⟨⟨(), rfl, trivial, by rw [ht]; exact hP, hD⟩, hS.F ht⟩) hS.2.2 dX3_run_137
      · have k_2 : ¬ (x2 ≤ x4) := c_1
        have h := cw_f k_2 h
        refine lv_aload_n hx hb dX3_run_9 rfl (lv_at hl 0 rfl) ?_
        refine lv_dup hx hb dX3_run_10 rfl ?_
        refine va_get (D := D) (ci := 3) (v := .int f0_nodeCount) (C := RX3) (T := TX3) (N := 10) hx hb hts in_X3_run_X3 hown hK hP 0 rfl rfl 6 (by decide) lk_1 (fun _ h9 => h9) rfl dX3_run_11 ?_
        refine lv_iconst (v := (1 : Int32)) hx hb dX3_run_14 (by decide) ?_
        refine lv_iadd hx hb dX3_run_15 ?_
        refine va_put (D := D) (ci := 3) (v := .int (f0_nodeCount + (1 : Int32))) (ty := .int) (C := RX3) (T := TX3) (N := 10) hx hb hts in_X3_run_X3 tyX3 tyX3_ok nmX3 hown hK hP hD hS 0 rfl rfl 6 (by decide) lk_1 (fun _ h9 => h9) rfl (by decide +kernel) rfl rfl (Nat.le_of_ble_eq_true rfl) dX3_run_16 (fun H locs hP hD hS => ?_)
        have hP : va_P D vwCl [(q0, .inr (3, [.int f0_n, .ref q0_start, .ref q0_pileRows, .ref q0_pileTaken, .ref q0_pileOnes, .int f0_pileSize, .int (f0_nodeCount + (1 : Int32)), .int f0_modelCount, .long f0_lastModel, .int (bI f0_cut)])), (q0_start, .inr (5, [.int f0_start_n, .ref q0_start_rows, .long f0_start_taken, .long f0_start_ones])), (q0_start_rows, .inr (2, [.int f0_start_rows_n, .ref q0_start_rows_byHead, .int (bI f0_start_rows_impossible)])), (q0_start_rows_byHead, .inl (cL, n0_start_rows_byHead, .inr (.inl h0_start_rows_byHead))), (q0_pileRows, .inl (cL, n0_pileRows, .inr (.inl h0_pileRows))), (q0_pileTaken, .inl (cL, n0_pileTaken, .inr (.inl h0_pileTaken))), (q0_pileOnes, .inl (cL, n0_pileOnes, .inr (.inl h0_pileOnes))), (q1, .inr (4, [v1_equations, .ref q1_yes, .ref q1_no, v1_equationCount, .int f1_clauseCount, v1_equationsBefore, v1_clausesBefore, v1_levelCount])), (q1_yes, .inl (cL, n1_yes, .inr (.inl h1_yes))), (q1_no, .inl (cL, n1_no, .inr (.inl h1_no)))] H := hP
        have hD : va_D A [(q0, .inr (3, [.int f0_n, .ref q0_start, .ref q0_pileRows, .ref q0_pileTaken, .ref q0_pileOnes, .int f0_pileSize, .int (f0_nodeCount + (1 : Int32)), .int f0_modelCount, .long f0_lastModel, .int (bI f0_cut)])), (q0_start, .inr (5, [.int f0_start_n, .ref q0_start_rows, .long f0_start_taken, .long f0_start_ones])), (q0_start_rows, .inr (2, [.int f0_start_rows_n, .ref q0_start_rows_byHead, .int (bI f0_start_rows_impossible)])), (q0_start_rows_byHead, .inl (cL, n0_start_rows_byHead, .inr (.inl h0_start_rows_byHead))), (q0_pileRows, .inl (cL, n0_pileRows, .inr (.inl h0_pileRows))), (q0_pileTaken, .inl (cL, n0_pileTaken, .inr (.inl h0_pileTaken))), (q0_pileOnes, .inl (cL, n0_pileOnes, .inr (.inl h0_pileOnes))), (q1, .inr (4, [v1_equations, .ref q1_yes, .ref q1_no, v1_equationCount, .int f1_clauseCount, v1_equationsBefore, v1_clausesBefore, v1_levelCount])), (q1_yes, .inl (cL, n1_yes, .inr (.inl h1_yes))), (q1_no, .inl (cL, n1_no, .inr (.inl h1_no)))] := hD
        refine lv_aload_n hx hb dX3_run_19 rfl (lv_at hl 0 rfl) ?_
        refine va_get (D := D) (ci := 3) (v := .ref q0_start) (C := RX3) (T := TX3) (N := 10) hx hb hts in_X3_run_X3 hown hK hP 0 rfl rfl 1 (by decide) lk_2 (fun _ h9 => h9) rfl dX3_run_20 ?_
        refine lv_aload_n hx hb dX3_run_23 rfl (lv_at hl 1 rfl) ?_
        obtain ⟨u_3, hu_4, h⟩ := cw_b h
        refine kx_i (ws' := fun _ => [(q0, .inr (3, [.int f0_n, .ref q0_start, .ref q0_pileRows, .ref q0_pileTaken, .ref q0_pileOnes, .int f0_pileSize, .int (f0_nodeCount + (1 : Int32)), .int f0_modelCount, .long f0_lastModel, .int (bI f0_cut)])), (q0_start, .inr (5, [.int f0_start_n, .ref q0_start_rows, .long u_3.2.1, .long u_3.2.2.1])), (q0_start_rows, .inr (2, [.int f0_start_rows_n, .ref q0_start_rows_byHead, .int (bI u_3.2.2.2.1)])), (q0_start_rows_byHead, .inl (cL, n0_start_rows_byHead, .inr (.inl u_3.2.2.2.2))), (q0_pileRows, .inl (cL, n0_pileRows, .inr (.inl h0_pileRows))), (q0_pileTaken, .inl (cL, n0_pileTaken, .inr (.inl h0_pileTaken))), (q0_pileOnes, .inl (cL, n0_pileOnes, .inr (.inl h0_pileOnes))), (q1, .inr (4, [v1_equations, .ref q1_yes, .ref q1_no, v1_equationCount, .int f1_clauseCount, v1_equationsBefore, v1_clausesBefore, v1_levelCount])), (q1_yes, .inl (cL, n1_yes, .inr (.inl h1_yes))), (q1_no, .inl (cL, n1_no, .inr (.inl h1_no)))]) hP hD hS hA [1, 2, 3, 7, 8, 9] [0, 4, 5, 6] [0, 4, 5, 6, 1, 2, 3, 7, 8, 9] rfl rfl (by decide) (by decide) (fun _ => rfl) (by decide) (va_runV (As := [.ref q1]) (rest := []) ⟨hx, hb, hml, hown, hts⟩ (cm_X5_spread l D cI cL (q0 := q0_start) (q0_rows := q0_start_rows) (q0_rows_byHead := q0_start_rows_byHead) (q1 := q1) (q1_yes := q1_yes) (q1_no := q1_no) (n0_rows_byHead := n0_start_rows_byHead) (n1_yes := n1_yes) (n1_no := n1_no) (f0_n := f0_start_n) (f0_taken := f0_start_taken) (f0_ones := f0_start_ones) (f0_rows_n := f0_start_rows_n) (f0_rows_impossible := f0_start_rows_impossible) (h0_rows_byHead := h0_start_rows_byHead) (f1_clauseCount := f1_clauseCount) (h1_yes := h1_yes) (h1_no := h1_no) (v1_equations := v1_equations) (v1_equationCount := v1_equationCount) (v1_equationsBefore := v1_equationsBefore) (v1_clausesBefore := v1_clausesBefore) (v1_levelCount := v1_levelCount) (r0 := u_3) (hr0 := hu_4) (sz := H.size)) (cwV 1 hts gX3_run_X5_spread rfl rfl rfl (by decide +kernel) ⟨Nat.le_of_ble_eq_true rfl, Nat.le_of_ble_eq_true rfl⟩) (kx_preV hEV hP hD [1, 2, 3, 7, 8, 9] rfl (by decide) (k0 := 1) (ci := 5) rfl rfl rfl) rfl rfl hl.1 rfl (lv_room (Nat.le_of_ble_eq_true rfl)) dX3_run_24 ⟨Nat.le_of_ble_eq_true rfl, Nat.le_of_ble_eq_true rfl⟩) (fun _ H locs _ hP hD hS => ?_)
        refine lv_istore (lv' := [(5, .int (bI u_3.1)), (0, .ref q0), (1, .ref q1), (2, .int x2), (3, .int (bI x3)), (4, .int x4)]) hx hb dX3_run_27 hl (by decide) rfl (fun ls hl => ?_)
        refine lv_iload hx hb dX3_run_29 (lv_at hl 0 rfl) ?_
        refine lv_if_eq (tgt := 73) hx hb dX3_run_31 (by decide) (fun c_5 => ?_) (fun c_5 => ?_)
        · have k_6 : ¬ (u_3.1 = true) := (kx_z c_5)
          have h := cw_f k_6 h
          refine lv_iload hx hb dX3_run_73 (lv_at hl 0 rfl) ?_
          refine lv_if_eq (tgt := 100) hx hb dX3_run_75 (by decide) (fun c_7 => ?_) (fun c_7 => ?_)
          · refine lv_aload_n hx hb dX3_run_100 rfl (lv_at hl 1 rfl) ?_
            obtain ⟨u_8, hu_9, h⟩ := cw_b h
            refine kx_i (ws' := fun _ => [(q0, .inr (3, [.int f0_n, .ref q0_start, .ref q0_pileRows, .ref q0_pileTaken, .ref q0_pileOnes, .int u_8.2.1, .int (f0_nodeCount + (1 : Int32)), .int f0_modelCount, .long f0_lastModel, .int (bI f0_cut)])), (q0_start, .inr (5, [.int f0_start_n, .ref q0_start_rows, .long u_8.2.2.1, .long u_8.2.2.2.1])), (q0_start_rows, .inr (2, [.int f0_start_rows_n, .ref q0_start_rows_byHead, .int (bI u_8.2.2.2.2.1)])), (q0_start_rows_byHead, .inl (cL, n0_start_rows_byHead, .inr (.inl u_8.2.2.2.2.2))), (q0_pileRows, .inl (cL, n0_pileRows, .inr (.inl h0_pileRows))), (q0_pileTaken, .inl (cL, n0_pileTaken, .inr (.inl h0_pileTaken))), (q0_pileOnes, .inl (cL, n0_pileOnes, .inr (.inl h0_pileOnes))), (q1, .inr (4, [v1_equations, .ref q1_yes, .ref q1_no, v1_equationCount, .int f1_clauseCount, v1_equationsBefore, v1_clausesBefore, v1_levelCount])), (q1_yes, .inl (cL, n1_yes, .inr (.inl h1_yes))), (q1_no, .inl (cL, n1_no, .inr (.inl h1_no)))]) hP hD hS hA [0, 1, 2, 3, 4, 5, 6] [7, 8, 9] [3, 4, 5, 6, 7, 8, 9, 0, 1, 2] rfl rfl (by decide) (by decide) (fun _ => rfl) (by decide) (va_runV (As := []) (rest := []) ⟨hx, hb, hml, hown, hts⟩ (cm_X3_unpile l D cI cL (q0 := q0) (q0_start := q0_start) (q0_start_rows := q0_start_rows) (q0_start_rows_byHead := q0_start_rows_byHead) (q0_pileRows := q0_pileRows) (q0_pileTaken := q0_pileTaken) (q0_pileOnes := q0_pileOnes) (n0_start_rows_byHead := n0_start_rows_byHead) (n0_pileRows := n0_pileRows) (n0_pileTaken := n0_pileTaken) (n0_pileOnes := n0_pileOnes) (f0_n := f0_n) (f0_pileSize := f0_pileSize) (f0_start_taken := u_3.2.1) (f0_start_ones := u_3.2.2.1) (f0_start_rows_impossible := u_3.2.2.2.1) (h0_start_rows_byHead := u_3.2.2.2.2) (h0_pileRows := h0_pileRows) (h0_pileTaken := h0_pileTaken) (h0_pileOnes := h0_pileOnes) (v0_nodeCount := .int (f0_nodeCount + (1 : Int32))) (v0_modelCount := .int f0_modelCount) (v0_lastModel := .long f0_lastModel) (v0_cut := .int (bI f0_cut)) (v0_start_n := .int f0_start_n) (v0_start_rows_n := .int f0_start_rows_n) (r0 := u_8) (hr0 := hu_9) (sz := H.size)) (cwV 0 hts gX3_run_X3_unpile rfl rfl rfl (by decide +kernel) ⟨Nat.le_of_ble_eq_true rfl, Nat.le_of_ble_eq_true rfl⟩) (kx_preV hEV hP hD [0, 1, 2, 3, 4, 5, 6] rfl (by decide) (k0 := 0) (ci := 3) rfl rfl rfl) rfl rfl hl.1 rfl (lv_room (Nat.le_of_ble_eq_true rfl)) dX3_run_101 ⟨Nat.le_of_ble_eq_true rfl, Nat.le_of_ble_eq_true rfl⟩) (fun _ H locs _ hP hD hS => ?_)
            refine lv_if_eq (tgt := 125) hx hb dX3_run_104 (by decide) (fun c_10 => ?_) (fun c_10 => ?_)
            · have k_11 : ¬ (u_8.1 = true) := (kx_z c_10)
              have h := cw_f k_11 h
              have h := Option.some.inj h
              subst h
              subst hQ
              exact W.vret hx hb hr (fun t ht hW => ⟨⟨(), rfl, trivial, by rw [ht]; exact hP, hD⟩, hS.F ht⟩) hS.2.2 dX3_run_125
            · have k_11 : u_8.1 = true := (kx_nz c_10)
              have h := cw_t k_11 h
              refine lv_aload_n hx hb dX3_run_107 rfl (lv_at hl 1 rfl) ?_
              refine va_get (D := D) (ci := 3) (v := .ref q0_start) (C := RX3) (T := TX3) (N := 10) hx hb hts in_X3_run_X3 hown hK hP 0 rfl rfl 1 (by decide) lk_2 (fun _ h9 => h9) rfl dX3_run_108 ?_
              refine lv_aload_n hx hb dX3_run_111 rfl (lv_at hl 1 rfl) ?_
              refine va_get (D := D) (ci := 3) (v := .ref q0_start) (C := RX3) (T := TX3) (N := 10) hx hb hts in_X3_run_X3 hown hK hP 0 rfl rfl 1 (by decide) lk_2 (fun _ h9 => h9) rfl dX3_run_112 ?_
              obtain ⟨u_12, hu_13, h⟩ := cw_b h
              refine kx_i (ws' := fun _ => [(q0, .inr (3, [.int f0_n, .ref q0_start, .ref q0_pileRows, .ref q0_pileTaken, .ref q0_pileOnes, .int u_8.2.1, .int (f0_nodeCount + (1 : Int32)), .int f0_modelCount, .long f0_lastModel, .int (bI f0_cut)])), (q0_start, .inr (5, [.int f0_start_n, .ref q0_start_rows, .long u_8.2.2.1, .long u_8.2.2.2.1])), (q0_start_rows, .inr (2, [.int f0_start_rows_n, .ref q0_start_rows_byHead, .int (bI u_8.2.2.2.2.1)])), (q0_start_rows_byHead, .inl (cL, n0_start_rows_byHead, .inr (.inl u_8.2.2.2.2.2))), (q0_pileRows, .inl (cL, n0_pileRows, .inr (.inl h0_pileRows))), (q0_pileTaken, .inl (cL, n0_pileTaken, .inr (.inl h0_pileTaken))), (q0_pileOnes, .inl (cL, n0_pileOnes, .inr (.inl h0_pileOnes))), (q1, .inr (4, [v1_equations, .ref q1_yes, .ref q1_no, v1_equationCount, .int f1_clauseCount, v1_equationsBefore, v1_clausesBefore, v1_levelCount])), (q1_yes, .inl (cL, n1_yes, .inr (.inl h1_yes))), (q1_no, .inl (cL, n1_no, .inr (.inl h1_no)))]) hP hD hS hA [1] [0, 2, 3, 4, 5, 6, 7, 8, 9] [0, 9, 1, 2, 3, 4, 5, 6, 7, 8] rfl rfl (by decide) (by decide) (fun _ => rfl) (by decide) (va_runV (As := []) (rest := [.ref q0_start]) ⟨hx, hb, hml, hown, hts⟩ (cm_X5_leastOpen l D cI cL (q0 := q0_start) (f0_taken := u_8.2.2.1) (v0_n := .int f0_start_n) (v0_rows := .ref q0_start_rows) (v0_ones := .long u_8.2.2.2.1) (r0 := u_12) (hr0 := hu_13) (sz := H.size)) (cwV 0 hts gX3_run_X5_leastOpen rfl rfl rfl (by decide +kernel) ⟨Nat.le_of_ble_eq_true rfl, Nat.le_of_ble_eq_true rfl⟩) (kx_preV hEV hP hD [1] rfl (by decide) (k0 := 1) (ci := 5) rfl rfl rfl) rfl rfl hl.1 rfl (lv_room (Nat.le_of_ble_eq_true rfl)) dX3_run_115 ⟨Nat.le_of_ble_eq_true rfl, Nat.le_of_ble_eq_true rfl⟩) (fun _ H locs _ hP hD hS => ?_)
              refine lv_iconst (v := (1 : Int32)) hx hb dX3_run_118 (by decide) ?_
              obtain ⟨u_14, hu_15, h⟩ := cw_b h
              refine kx_v (ws' := fun _ => [(q0, .inr (3, [.int f0_n, .ref q0_start, .ref q0_pileRows, .ref q0_pileTaken, .ref q0_pileOnes, .int u_8.2.1, .int (f0_nodeCount + (1 : Int32)), .int f0_modelCount, .long f0_lastModel, .int (bI f0_cut)])), (q0_start, .inr (5, [.int f0_start_n, .ref q0_start_rows, .long u_14.1, .long u_14.2.1])), (q0_start_rows, .inr (2, [.int f0_start_rows_n, .ref q0_start_rows_byHead, .int (bI u_14.2.2.1)])), (q0_start_rows_byHead, .inl (cL, n0_start_rows_byHead, .inr (.inl u_14.2.2.2))), (q0_pileRows, .inl (cL, n0_pileRows, .inr (.inl h0_pileRows))), (q0_pileTaken, .inl (cL, n0_pileTaken, .inr (.inl h0_pileTaken))), (q0_pileOnes, .inl (cL, n0_pileOnes, .inr (.inl h0_pileOnes))), (q1, .inr (4, [v1_equations, .ref q1_yes, .ref q1_no, v1_equationCount, .int f1_clauseCount, v1_equationsBefore, v1_clausesBefore, v1_levelCount])), (q1_yes, .inl (cL, n1_yes, .inr (.inl h1_yes))), (q1_no, .inl (cL, n1_no, .inr (.inl h1_no)))]) hP hD hS hA [1, 2, 3] [0, 4, 5, 6, 7, 8, 9] [0, 7, 8, 9, 1, 2, 3, 4, 5, 6] rfl rfl (by decide) (by decide) (fun _ => rfl) (by decide) (va_runV (As := [.int u_12, .int (bI true)]) (rest := []) ⟨hx, hb, hml, hown, hts⟩ (cm_X5_take l D cI cL (q0 := q0_start) (q0_rows := q0_start_rows) (q0_rows_byHead := q0_start_rows_byHead) (n0_rows_byHead := n0_start_rows_byHead) (f0_taken := u_8.2.2.1) (f0_ones := u_8.2.2.2.1) (f0_rows_n := f0_start_rows_n) (f0_rows_impossible := u_8.2.2.2.2.1) (h0_rows_byHead := u_8.2.2.2.2.2) (v0_n := .int f0_start_n) (x1 := u_12) (x2 := true) (r0 := u_14) (hr0 := hu_15) (sz := H.size)) (cwV 2 hts gX3_run_X5_take rfl rfl rfl (by decide +kernel) ⟨Nat.le_of_ble_eq_true rfl, Nat.le_of_ble_eq_true rfl⟩) (kx_preV hEV hP hD [1, 2, 3] rfl (by decide) (k0 := 1) (ci := 5) rfl rfl rfl) rfl rfl hl.1 rfl (lv_room (Nat.le_of_ble_eq_true rfl)) dX3_run_119 ⟨Nat.le_of_ble_eq_true rfl, Nat.le_of_ble_eq_true rfl⟩) (fun _ H locs _ hP hD hS => ?_)
              refine lv_goto (tgt := 126) hx hb dX3_run_122 (by decide) ?_
              refine lv_iinc (v := x4 + (1 : Int32)) (lv' := [(4, .int (x4 + (1 : Int32))), (5, .int (bI u_3.1)), (0, .ref q0), (1, .ref q1), (2, .int x2), (3, .int (bI x3))]) hx hb dX3_run_126 hl (k := 5) rfl rfl (by decide) rfl (fun ls hl => ?_)
              refine lv_goto (tgt := 3) hx hb dX3_run_129 (by decide) ?_
              exact ih _ _ _ _ _ _ _ _ _ _ _ _ _ h _ _ _ hP hD hS (lv_sub hl [2, 3, 4, 5, 0] rfl)
          · exact absurd (kx_nz c_7) k_6
        · have k_6 : u_3.1 = true := (kx_nz c_5)
          have h := cw_t k_6 h
          refine lv_aload_n hx hb dX3_run_34 rfl (lv_at hl 1 rfl) ?_
          refine va_get (D := D) (ci := 3) (v := .ref q0_start) (C := RX3) (T := TX3) (N := 10) hx hb hts in_X3_run_X3 hown hK hP 0 rfl rfl 1 (by decide) lk_2 (fun _ h9 => h9) rfl dX3_run_35 ?_
          obtain ⟨u_16, hu_17, h⟩ := cw_b h
          refine kx_i (ws' := fun _ => [(q0, .inr (3, [.int f0_n, .ref q0_start, .ref q0_pileRows, .ref q0_pileTaken, .ref q0_pileOnes, .int f0_pileSize, .int (f0_nodeCount + (1 : Int32)), .int f0_modelCount, .long f0_lastModel, .int (bI f0_cut)])), (q0_start, .inr (5, [.int f0_start_n, .ref q0_start_rows, .long u_3.2.1, .long u_3.2.2.1])), (q0_start_rows, .inr (2, [.int f0_start_rows_n, .ref q0_start_rows_byHead, .int (bI u_3.2.2.2.1)])), (q0_start_rows_byHead, .inl (cL, n0_start_rows_byHead, .inr (.inl u_3.2.2.2.2))), (q0_pileRows, .inl (cL, n0_pileRows, .inr (.inl h0_pileRows))), (q0_pileTaken, .inl (cL, n0_pileTaken, .inr (.inl h0_pileTaken))), (q0_pileOnes, .inl (cL, n0_pileOnes, .inr (.inl h0_pileOnes))), (q1, .inr (4, [v1_equations, .ref q1_yes, .ref q1_no, v1_equationCount, .int f1_clauseCount, v1_equationsBefore, v1_clausesBefore, v1_levelCount])), (q1_yes, .inl (cL, n1_yes, .inr (.inl h1_yes))), (q1_no, .inl (cL, n1_no, .inr (.inl h1_no)))]) hP hD hS hA [1] [0, 2, 3, 4, 5, 6, 7, 8, 9] [0, 9, 1, 2, 3, 4, 5, 6, 7, 8] rfl rfl (by decide) (by decide) (fun _ => rfl) (by decide) (va_runV (As := []) (rest := []) ⟨hx, hb, hml, hown, hts⟩ (cm_X5_isFull l D cI cL (q0 := q0_start) (f0_n := f0_start_n) (f0_taken := u_3.2.1) (v0_rows := .ref q0_start_rows) (v0_ones := .long u_3.2.2.1) (r0 := u_16) (hr0 := hu_17) (sz := H.size)) (cwV 0 hts gX3_run_X5_isFull rfl rfl rfl (by decide +kernel) ⟨Nat.le_of_ble_eq_true rfl, Nat.le_of_ble_eq_true rfl⟩) (kx_preV hEV hP hD [1] rfl (by decide) (k0 := 1) (ci := 5) rfl rfl rfl) rfl rfl hl.1 rfl (lv_room (Nat.le_of_ble_eq_true rfl)) dX3_run_38 ⟨Nat.le_of_ble_eq_true rfl, Nat.le_of_ble_eq_true rfl⟩) (fun _ H locs _ hP hD hS => ?_)
          refine lv_if_eq (tgt := 73) hx hb dX3_run_41 (by decide) (fun c_18 => ?_) (fun c_18 => ?_)
          · have k_19 : ¬ (u_16 = true) := (kx_z c_18)
            have h := cw_f k_19 h
            refine lv_iload hx hb dX3_run_73 (lv_at hl 0 rfl) ?_
            refine lv_if_eq (tgt := 100) hx hb dX3_run_75 (by decide) (fun c_20 => ?_) (fun c_20 => ?_)
            · exact absurd k_6 (kx_z c_20)
            · refine lv_aload_n hx hb dX3_run_78 rfl (lv_at hl 1 rfl) ?_
              obtain ⟨u_21, hu_22, h⟩ := cw_b h
              refine kx_v (ws' := fun _ => [(q0, .inr (3, [.int f0_n, .ref q0_start, .ref q0_pileRows, .ref q0_pileTaken, .ref q0_pileOnes, .int u_21.1, .int (f0_nodeCount + (1 : Int32)), .int f0_modelCount, .long f0_lastModel, .int (bI f0_cut)])), (q0_start, .inr (5, [.int f0_start_n, .ref q0_start_rows, .long u_3.2.1, .long u_3.2.2.1])), (q0_start_rows, .inr (2, [.int f0_start_rows_n, .ref q0_start_rows_byHead, .int (bI u_3.2.2.2.1)])), (q0_start_rows_byHead, .inl (cL, n0_start_rows_byHead, .inr (.inl u_3.2.2.2.2))), (q0_pileRows, .inl (cL, n0_pileRows, .inr (.inl u_21.2.1))), (q0_pileTaken, .inl (cL, n0_pileTaken, .inr (.inl u_21.2.2.1))), (q0_pileOnes, .inl (cL, n0_pileOnes, .inr (.inl u_21.2.2.2))), (q1, .inr (4, [v1_equations, .ref q1_yes, .ref q1_no, v1_equationCount, .int f1_clauseCount, v1_equationsBefore, v1_clausesBefore, v1_levelCount])), (q1_yes, .inl (cL, n1_yes, .inr (.inl h1_yes))), (q1_no, .inl (cL, n1_no, .inr (.inl h1_no)))]) hP hD hS hA [0, 1, 2, 3, 4, 5, 6] [7, 8, 9] [3, 4, 5, 6, 7, 8, 9, 0, 1, 2] rfl rfl (by decide) (by decide) (fun _ => rfl) (by decide) (va_runV (As := []) (rest := []) ⟨hx, hb, hml, hown, hts⟩ (cm_X3_pile l D cI cL (q0 := q0) (q0_start := q0_start) (q0_start_rows := q0_start_rows) (q0_start_rows_byHead := q0_start_rows_byHead) (q0_pileRows := q0_pileRows) (q0_pileTaken := q0_pileTaken) (q0_pileOnes := q0_pileOnes) (n0_start_rows_byHead := n0_start_rows_byHead) (n0_pileRows := n0_pileRows) (n0_pileTaken := n0_pileTaken) (n0_pileOnes := n0_pileOnes) (f0_n := f0_n) (f0_pileSize := f0_pileSize) (f0_start_taken := u_3.2.1) (f0_start_ones := u_3.2.2.1) (h0_start_rows_byHead := u_3.2.2.2.2) (h0_pileRows := h0_pileRows) (h0_pileTaken := h0_pileTaken) (h0_pileOnes := h0_pileOnes) (v0_nodeCount := .int (f0_nodeCount + (1 : Int32))) (v0_modelCount := .int f0_modelCount) (v0_lastModel := .long f0_lastModel) (v0_cut := .int (bI f0_cut)) (v0_start_n := .int f0_start_n) (v0_start_rows_n := .int f0_start_rows_n) (v0_start_rows_impossible := .int (bI u_3.2.2.2.1)) (r0 := u_21) (hr0 := hu_22) (sz := H.size)) (cwV 0 hts gX3_run_X3_pile rfl rfl rfl (by decide +kernel) ⟨Nat.le_of_ble_eq_true rfl, Nat.le_of_ble_eq_true rfl⟩) (kx_preV hEV hP hD [0, 1, 2, 3, 4, 5, 6] rfl (by decide) (k0 := 0) (ci := 3) rfl rfl rfl) rfl rfl hl.1 rfl (lv_room (Nat.le_of_ble_eq_true rfl)) dX3_run_79 ⟨Nat.le_of_ble_eq_true rfl, Nat.le_of_ble_eq_true rfl⟩) (fun _ H locs _ hP hD hS => ?_)
              refine lv_aload_n hx hb dX3_run_82 rfl (lv_at hl 1 rfl) ?_
              refine va_get (D := D) (ci := 3) (v := .ref q0_start) (C := RX3) (T := TX3) (N := 10) hx hb hts in_X3_run_X3 hown hK hP 0 rfl rfl 1 (by decide) lk_2 (fun _ h9 => h9) rfl dX3_run_83 ?_
              refine lv_aload_n hx hb dX3_run_86 rfl (lv_at hl 1 rfl) ?_
              refine va_get (D := D) (ci := 3) (v := .ref q0_start) (C := RX3) (T := TX3) (N := 10) hx hb hts in_X3_run_X3 hown hK hP 0 rfl rfl 1 (by decide) lk_2 (fun _ h9 => h9) rfl dX3_run_87 ?_
              obtain ⟨u_23, hu_24, h⟩ := cw_b h
              refine kx_i (ws' := fun _ => [(q0, .inr (3, [.int f0_n, .ref q0_start, .ref q0_pileRows, .ref q0_pileTaken, .ref q0_pileOnes, .int u_21.1, .int (f0_nodeCount + (1 : Int32)), .int f0_modelCount, .long f0_lastModel, .int (bI f0_cut)])), (q0_start, .inr (5, [.int f0_start_n, .ref q0_start_rows, .long u_3.2.1, .long u_3.2.2.1])), (q0_start_rows, .inr (2, [.int f0_start_rows_n, .ref q0_start_rows_byHead, .int (bI u_3.2.2.2.1)])), (q0_start_rows_byHead, .inl (cL, n0_start_rows_byHead, .inr (.inl u_3.2.2.2.2))), (q0_pileRows, .inl (cL, n0_pileRows, .inr (.inl u_21.2.1))), (q0_pileTaken, .inl (cL, n0_pileTaken, .inr (.inl u_21.2.2.1))), (q0_pileOnes, .inl (cL, n0_pileOnes, .inr (.inl u_21.2.2.2))), (q1, .inr (4, [v1_equations, .ref q1_yes, .ref q1_no, v1_equationCount, .int f1_clauseCount, v1_equationsBefore, v1_clausesBefore, v1_levelCount])), (q1_yes, .inl (cL, n1_yes, .inr (.inl h1_yes))), (q1_no, .inl (cL, n1_no, .inr (.inl h1_no)))]) hP hD hS hA [1] [0, 2, 3, 4, 5, 6, 7, 8, 9] [0, 9, 1, 2, 3, 4, 5, 6, 7, 8] rfl rfl (by decide) (by decide) (fun _ => rfl) (by decide) (va_runV (As := []) (rest := [.ref q0_start]) ⟨hx, hb, hml, hown, hts⟩ (cm_X5_leastOpen l D cI cL (q0 := q0_start) (f0_taken := u_3.2.1) (v0_n := .int f0_start_n) (v0_rows := .ref q0_start_rows) (v0_ones := .long u_3.2.2.1) (r0 := u_23) (hr0 := hu_24) (sz := H.size)) (cwV 0 hts gX3_run_X5_leastOpen rfl rfl rfl (by decide +kernel) ⟨Nat.le_of_ble_eq_true rfl, Nat.le_of_ble_eq_true rfl⟩) (kx_preV hEV hP hD [1] rfl (by decide) (k0 := 1) (ci := 5) rfl rfl rfl) rfl rfl hl.1 rfl (lv_room (Nat.le_of_ble_eq_true rfl)) dX3_run_90 ⟨Nat.le_of_ble_eq_true rfl, Nat.le_of_ble_eq_true rfl⟩) (fun _ H locs _ hP hD hS => ?_)
              refine lv_iconst (v := (0 : Int32)) hx hb dX3_run_93 (by decide) ?_
              obtain ⟨u_25, hu_26, h⟩ := cw_b h
              refine kx_v (ws' := fun _ => [(q0, .inr (3, [.int f0_n, .ref q0_start, .ref q0_pileRows, .ref q0_pileTaken, .ref q0_pileOnes, .int u_21.1, .int (f0_nodeCount + (1 : Int32)), .int f0_modelCount, .long f0_lastModel, .int (bI f0_cut)])), (q0_start, .inr (5, [.int f0_start_n, .ref q0_start_rows, .long u_25.1, .long u_25.2.1])), (q0_start_rows, .inr (2, [.int f0_start_rows_n, .ref q0_start_rows_byHead, .int (bI u_25.2.2.1)])), (q0_start_rows_byHead, .inl (cL, n0_start_rows_byHead, .inr (.inl u_25.2.2.2))), (q0_pileRows, .inl (cL, n0_pileRows, .inr (.inl u_21.2.1))), (q0_pileTaken, .inl (cL, n0_pileTaken, .inr (.inl u_21.2.2.1))), (q0_pileOnes, .inl (cL, n0_pileOnes, .inr (.inl u_21.2.2.2))), (q1, .inr (4, [v1_equations, .ref q1_yes, .ref q1_no, v1_equationCount, .int f1_clauseCount, v1_equationsBefore, v1_clausesBefore, v1_levelCount])), (q1_yes, .inl (cL, n1_yes, .inr (.inl h1_yes))), (q1_no, .inl (cL, n1_no, .inr (.inl h1_no)))]) hP hD hS hA [1, 2, 3] [0, 4, 5, 6, 7, 8, 9] [0, 7, 8, 9, 1, 2, 3, 4, 5, 6] rfl rfl (by decide) (by decide) (fun _ => rfl) (by decide) (va_runV (As := [.int u_23, .int (bI false)]) (rest := []) ⟨hx, hb, hml, hown, hts⟩ (cm_X5_take l D cI cL (q0 := q0_start) (q0_rows := q0_start_rows) (q0_rows_byHead := q0_start_rows_byHead) (n0_rows_byHead := n0_start_rows_byHead) (f0_taken := u_3.2.1) (f0_ones := u_3.2.2.1) (f0_rows_n := f0_start_rows_n) (f0_rows_impossible := u_3.2.2.2.1) (h0_rows_byHead := u_3.2.2.2.2) (v0_n := .int f0_start_n) (x1 := u_23) (x2 := false) (r0 := u_25) (hr0 := hu_26) (sz := H.size)) (cwV 2 hts gX3_run_X5_take rfl rfl rfl (by decide +kernel) ⟨Nat.le_of_ble_eq_true rfl, Nat.le_of_ble_eq_true rfl⟩) (kx_preV hEV hP hD [1, 2, 3] rfl (by decide) (k0 := 1) (ci := 5) rfl rfl rfl) rfl rfl hl.1 rfl (lv_room (Nat.le_of_ble_eq_true rfl)) dX3_run_94 ⟨Nat.le_of_ble_eq_true rfl, Nat.le_of_ble_eq_true rfl⟩) (fun _ H locs _ hP hD hS => ?_)
              refine lv_goto (tgt := 126) hx hb dX3_run_97 (by decide) ?_
              refine lv_iinc (v := x4 + (1 : Int32)) (lv' := [(4, .int (x4 + (1 : Int32))), (5, .int (bI u_3.1)), (0, .ref q0), (1, .ref q1), (2, .int x2), (3, .int (bI x3))]) hx hb dX3_run_126 hl (k := 5) rfl rfl (by decide) rfl (fun ls hl => ?_)
              refine lv_goto (tgt := 3) hx hb dX3_run_129 (by decide) ?_
              exact ih _ _ _ _ _ _ _ _ _ _ _ _ _ h _ _ _ hP hD hS (lv_sub hl [2, 3, 4, 5, 0] rfl)
          · have k_19 : u_16 = true := (kx_nz c_18)
            have h := cw_t k_19 h
            refine lv_aload_n hx hb dX3_run_44 rfl (lv_at hl 1 rfl) ?_
            refine lv_dup hx hb dX3_run_45 rfl ?_
            refine va_get (D := D) (ci := 3) (v := .int f0_modelCount) (C := RX3) (T := TX3) (N := 10) hx hb hts in_X3_run_X3 hown hK hP 0 rfl rfl 7 (by decide) lk_3 (fun _ h9 => h9) rfl dX3_run_46 ?_
            refine lv_iconst (v := (1 : Int32)) hx hb dX3_run_49 (by decide) ?_
            refine lv_iadd hx hb dX3_run_50 ?_
            refine va_put (D := D) (ci := 3) (v := .int (f0_modelCount + (1 : Int32))) (ty := .int) (C := RX3) (T := TX3) (N := 10) hx hb hts in_X3_run_X3 tyX3 tyX3_ok nmX3 hown hK hP hD hS 0 rfl rfl 7 (by decide) lk_3 (fun _ h9 => h9) rfl (by decide +kernel) rfl rfl (Nat.le_of_ble_eq_true rfl) dX3_run_51 (fun H locs hP hD hS => ?_)
            have hP : va_P D vwCl [(q0, .inr (3, [.int f0_n, .ref q0_start, .ref q0_pileRows, .ref q0_pileTaken, .ref q0_pileOnes, .int f0_pileSize, .int (f0_nodeCount + (1 : Int32)), .int (f0_modelCount + (1 : Int32)), .long f0_lastModel, .int (bI f0_cut)])), (q0_start, .inr (5, [.int f0_start_n, .ref q0_start_rows, .long u_3.2.1, .long u_3.2.2.1])), (q0_start_rows, .inr (2, [.int f0_start_rows_n, .ref q0_start_rows_byHead, .int (bI u_3.2.2.2.1)])), (q0_start_rows_byHead, .inl (cL, n0_start_rows_byHead, .inr (.inl u_3.2.2.2.2))), (q0_pileRows, .inl (cL, n0_pileRows, .inr (.inl h0_pileRows))), (q0_pileTaken, .inl (cL, n0_pileTaken, .inr (.inl h0_pileTaken))), (q0_pileOnes, .inl (cL, n0_pileOnes, .inr (.inl h0_pileOnes))), (q1, .inr (4, [v1_equations, .ref q1_yes, .ref q1_no, v1_equationCount, .int f1_clauseCount, v1_equationsBefore, v1_clausesBefore, v1_levelCount])), (q1_yes, .inl (cL, n1_yes, .inr (.inl h1_yes))), (q1_no, .inl (cL, n1_no, .inr (.inl h1_no)))] H := hP
            have hD : va_D A [(q0, .inr (3, [.int f0_n, .ref q0_start, .ref q0_pileRows, .ref q0_pileTaken, .ref q0_pileOnes, .int f0_pileSize, .int (f0_nodeCount + (1 : Int32)), .int (f0_modelCount + (1 : Int32)), .long f0_lastModel, .int (bI f0_cut)])), (q0_start, .inr (5, [.int f0_start_n, .ref q0_start_rows, .long u_3.2.1, .long u_3.2.2.1])), (q0_start_rows, .inr (2, [.int f0_start_rows_n, .ref q0_start_rows_byHead, .int (bI u_3.2.2.2.1)])), (q0_start_rows_byHead, .inl (cL, n0_start_rows_byHead, .inr (.inl u_3.2.2.2.2))), (q0_pileRows, .inl (cL, n0_pileRows, .inr (.inl h0_pileRows))), (q0_pileTaken, .inl (cL, n0_pileTaken, .inr (.inl h0_pileTaken))), (q0_pileOnes, .inl (cL, n0_pileOnes, .inr (.inl h0_pileOnes))), (q1, .inr (4, [v1_equations, .ref q1_yes, .ref q1_no, v1_equationCount, .int f1_clauseCount, v1_equationsBefore, v1_clausesBefore, v1_levelCount])), (q1_yes, .inl (cL, n1_yes, .inr (.inl h1_yes))), (q1_no, .inl (cL, n1_no, .inr (.inl h1_no)))] := hD
            refine lv_aload_n hx hb dX3_run_54 rfl (lv_at hl 1 rfl) ?_
            refine lv_aload_n hx hb dX3_run_55 rfl (lv_at hl 1 rfl) ?_
            refine va_get (D := D) (ci := 3) (v := .ref q0_start) (C := RX3) (T := TX3) (N := 10) hx hb hts in_X3_run_X3 hown hK hP 0 rfl rfl 1 (by decide) lk_2 (fun _ h9 => h9) rfl dX3_run_56 ?_
            refine va_get (D := D) (ci := 5) (v := .long u_3.2.2.1) (C := RX5) (T := TX5) (N := 4) hx hb hts in_X3_run_X5 hown hK hP 1 rfl rfl 3 (by decide) lk_4 (fun _ h9 => h9) rfl dX3_run_59 ?_
            refine va_put (D := D) (ci := 3) (v := .long u_3.2.2.1) (ty := .long) (C := RX3) (T := TX3) (N := 10) hx hb hts in_X3_run_X3 tyX3 tyX3_ok nmX3 hown hK hP hD hS 0 rfl rfl 8 (by decide) lk_5 (fun _ h9 => h9) rfl (by decide +kernel) rfl rfl (Nat.le_of_ble_eq_true rfl) dX3_run_62 (fun H locs hP hD hS => ?_)
            have hP : va_P D vwCl [(q0, .inr (3, [.int f0_n, .ref q0_start, .ref q0_pileRows, .ref q0_pileTaken, .ref q0_pileOnes, .int f0_pileSize, .int (f0_nodeCount + (1 : Int32)), .int (f0_modelCount + (1 : Int32)), .long u_3.2.2.1, .int (bI f0_cut)])), (q0_start, .inr (5, [.int f0_start_n, .ref q0_start_rows, .long u_3.2.1, .long u_3.2.2.1])), (q0_start_rows, .inr (2, [.int f0_start_rows_n, .ref q0_start_rows_byHead, .int (bI u_3.2.2.2.1)])), (q0_start_rows_byHead, .inl (cL, n0_start_rows_byHead, .inr (.inl u_3.2.2.2.2))), (q0_pileRows, .inl (cL, n0_pileRows, .inr (.inl h0_pileRows))), (q0_pileTaken, .inl (cL, n0_pileTaken, .inr (.inl h0_pileTaken))), (q0_pileOnes, .inl (cL, n0_pileOnes, .inr (.inl h0_pileOnes))), (q1, .inr (4, [v1_equations, .ref q1_yes, .ref q1_no, v1_equationCount, .int f1_clauseCount, v1_equationsBefore, v1_clausesBefore, v1_levelCount])), (q1_yes, .inl (cL, n1_yes, .inr (.inl h1_yes))), (q1_no, .inl (cL, n1_no, .inr (.inl h1_no)))] H := hP
            have hD : va_D A [(q0, .inr (3, [.int f0_n, .ref q0_start, .ref q0_pileRows, .ref q0_pileTaken, .ref q0_pileOnes, .int f0_pileSize, .int (f0_nodeCount + (1 : Int32)), .int (f0_modelCount + (1 : Int32)), .long u_3.2.2.1, .int (bI f0_cut)])), (q0_start, .inr (5, [.int f0_start_n, .ref q0_start_rows, .long u_3.2.1, .long u_3.2.2.1])), (q0_start_rows, .inr (2, [.int f0_start_rows_n, .ref q0_start_rows_byHead, .int (bI u_3.2.2.2.1)])), (q0_start_rows_byHead, .inl (cL, n0_start_rows_byHead, .inr (.inl u_3.2.2.2.2))), (q0_pileRows, .inl (cL, n0_pileRows, .inr (.inl h0_pileRows))), (q0_pileTaken, .inl (cL, n0_pileTaken, .inr (.inl h0_pileTaken))), (q0_pileOnes, .inl (cL, n0_pileOnes, .inr (.inl h0_pileOnes))), (q1, .inr (4, [v1_equations, .ref q1_yes, .ref q1_no, v1_equationCount, .int f1_clauseCount, v1_equationsBefore, v1_clausesBefore, v1_levelCount])), (q1_yes, .inl (cL, n1_yes, .inr (.inl h1_yes))), (q1_no, .inl (cL, n1_no, .inr (.inl h1_no)))] := hD
            refine lv_iload_n hx hb dX3_run_65 rfl (lv_at hl 4 rfl) ?_
            refine lv_if_eq (tgt := 70) hx hb dX3_run_66 (by decide) (fun c_27 => ?_) (fun c_27 => ?_)
            · have k_28 : ¬ (x3 = true) := (kx_z c_27)
              have h := cw_f k_28 h
              refine lv_iconst (v := (0 : Int32)) hx hb dX3_run_70 (by decide) ?_
              refine lv_istore (lv' := [(5, .int (0 : Int32)), (0, .ref q0), (1, .ref q1), (2, .int x2), (3, .int (bI x3)), (4, .int x4)]) hx hb dX3_run_71 hl (by decide) rfl (fun ls hl => ?_)
              refine lv_iload hx hb dX3_run_73 (lv_at hl 0 rfl) ?_
              refine lv_if_eq (tgt := 100) hx hb dX3_run_75 (by decide) (fun c_29 => ?_) (fun c_29 => ?_)
              · refine lv_aload_n hx hb dX3_run_100 rfl (lv_at hl 1 rfl) ?_
                obtain ⟨u_30, hu_31, h⟩ := cw_b h
                refine kx_i (ws' := fun _ => [(q0, .inr (3, [.int f0_n, .ref q0_start, .ref q0_pileRows, .ref q0_pileTaken, .ref q0_pileOnes, .int u_30.2.1, .int (f0_nodeCount + (1 : Int32)), .int (f0_modelCount + (1 : Int32)), .long u_3.2.2.1, .int (bI f0_cut)])), (q0_start, .inr (5, [.int f0_start_n, .ref q0_start_rows, .long u_30.2.2.1, .long u_30.2.2.2.1])), (q0_start_rows, .inr (2, [.int f0_start_rows_n, .ref q0_start_rows_byHead, .int (bI u_30.2.2.2.2.1)])), (q0_start_rows_byHead, .inl (cL, n0_start_rows_byHead, .inr (.inl u_30.2.2.2.2.2))), (q0_pileRows, .inl (cL, n0_pileRows, .inr (.inl h0_pileRows))), (q0_pileTaken, .inl (cL, n0_pileTaken, .inr (.inl h0_pileTaken))), (q0_pileOnes, .inl (cL, n0_pileOnes, .inr (.inl h0_pileOnes))), (q1, .inr (4, [v1_equations, .ref q1_yes, .ref q1_no, v1_equationCount, .int f1_clauseCount, v1_equationsBefore, v1_clausesBefore, v1_levelCount])), (q1_yes, .inl (cL, n1_yes, .inr (.inl h1_yes))), (q1_no, .inl (cL, n1_no, .inr (.inl h1_no)))]) hP hD hS hA [0, 1, 2, 3, 4, 5, 6] [7, 8, 9] [3, 4, 5, 6, 7, 8, 9, 0, 1, 2] rfl rfl (by decide) (by decide) (fun _ => rfl) (by decide) (va_runV (As := []) (rest := []) ⟨hx, hb, hml, hown, hts⟩ (cm_X3_unpile l D cI cL (q0 := q0) (q0_start := q0_start) (q0_start_rows := q0_start_rows) (q0_start_rows_byHead := q0_start_rows_byHead) (q0_pileRows := q0_pileRows) (q0_pileTaken := q0_pileTaken) (q0_pileOnes := q0_pileOnes) (n0_start_rows_byHead := n0_start_rows_byHead) (n0_pileRows := n0_pileRows) (n0_pileTaken := n0_pileTaken) (n0_pileOnes := n0_pileOnes) (f0_n := f0_n) (f0_pileSize := f0_pileSize) (f0_start_taken := u_3.2.1) (f0_start_ones := u_3.2.2.1) (f0_start_rows_impossible := u_3.2.2.2.1) (h0_start_rows_byHead := u_3.2.2.2.2) (h0_pileRows := h0_pileRows) (h0_pileTaken := h0_pileTaken) (h0_pileOnes := h0_pileOnes) (v0_nodeCount := .int (f0_nodeCount + (1 : Int32))) (v0_modelCount := .int (f0_modelCount + (1 : Int32))) (v0_lastModel := .long u_3.2.2.1) (v0_cut := .int (bI f0_cut)) (v0_start_n := .int f0_start_n) (v0_start_rows_n := .int f0_start_rows_n) (r0 := u_30) (hr0 := hu_31) (sz := H.size)) (cwV 0 hts gX3_run_X3_unpile rfl rfl rfl (by decide +kernel) ⟨Nat.le_of_ble_eq_true rfl, Nat.le_of_ble_eq_true rfl⟩) (kx_preV hEV hP hD [0, 1, 2, 3, 4, 5, 6] rfl (by decide) (k0 := 0) (ci := 3) rfl rfl rfl) rfl rfl hl.1 rfl (lv_room (Nat.le_of_ble_eq_true rfl)) dX3_run_101 ⟨Nat.le_of_ble_eq_true rfl, Nat.le_of_ble_eq_true rfl⟩) (fun _ H locs _ hP hD hS => ?_)
                refine lv_if_eq (tgt := 125) hx hb dX3_run_104 (by decide) (fun c_32 => ?_) (fun c_32 => ?_)
                · have k_33 : ¬ (u_30.1 = true) := (kx_z c_32)
                  have h := cw_f k_33 h
                  have h := Option.some.inj h
                  subst h
                  subst hQ
                  exact W.vret hx hb hr (fun t ht hW => ⟨⟨(), rfl, trivial, by rw [ht]; exact hP, hD⟩, hS.F ht⟩) hS.2.2 dX3_run_125
                · have k_33 : u_30.1 = true := (kx_nz c_32)
                  have h := cw_t k_33 h
                  refine lv_aload_n hx hb dX3_run_107 rfl (lv_at hl 1 rfl) ?_
                  refine va_get (D := D) (ci := 3) (v := .ref q0_start) (C := RX3) (T := TX3) (N := 10) hx hb hts in_X3_run_X3 hown hK hP 0 rfl rfl 1 (by decide) lk_2 (fun _ h9 => h9) rfl dX3_run_108 ?_
                  refine lv_aload_n hx hb dX3_run_111 rfl (lv_at hl 1 rfl) ?_
                  refine va_get (D := D) (ci := 3) (v := .ref q0_start) (C := RX3) (T := TX3) (N := 10) hx hb hts in_X3_run_X3 hown hK hP 0 rfl rfl 1 (by decide) lk_2 (fun _ h9 => h9) rfl dX3_run_112 ?_
                  obtain ⟨u_34, hu_35, h⟩ := cw_b h
                  refine kx_i (ws' := fun _ => [(q0, .inr (3, [.int f0_n, .ref q0_start, .ref q0_pileRows, .ref q0_pileTaken, .ref q0_pileOnes, .int u_30.2.1, .int (f0_nodeCount + (1 : Int32)), .int (f0_modelCount + (1 : Int32)), .long u_3.2.2.1, .int (bI f0_cut)])), (q0_start, .inr (5, [.int f0_start_n, .ref q0_start_rows, .long u_30.2.2.1, .long u_30.2.2.2.1])), (q0_start_rows, .inr (2, [.int f0_start_rows_n, .ref q0_start_rows_byHead, .int (bI u_30.2.2.2.2.1)])), (q0_start_rows_byHead, .inl (cL, n0_start_rows_byHead, .inr (.inl u_30.2.2.2.2.2))), (q0_pileRows, .inl (cL, n0_pileRows, .inr (.inl h0_pileRows))), (q0_pileTaken, .inl (cL, n0_pileTaken, .inr (.inl h0_pileTaken))), (q0_pileOnes, .inl (cL, n0_pileOnes, .inr (.inl h0_pileOnes))), (q1, .inr (4, [v1_equations, .ref q1_yes, .ref q1_no, v1_equationCount, .int f1_clauseCount, v1_equationsBefore, v1_clausesBefore, v1_levelCount])), (q1_yes, .inl (cL, n1_yes, .inr (.inl h1_yes))), (q1_no, .inl (cL, n1_no, .inr (.inl h1_no)))]) hP hD hS hA [1] [0, 2, 3, 4, 5, 6, 7, 8, 9] [0, 9, 1, 2, 3, 4, 5, 6, 7, 8] rfl rfl (by decide) (by decide) (fun _ => rfl) (by decide) (va_runV (As := []) (rest := [.ref q0_start]) ⟨hx, hb, hml, hown, hts⟩ (cm_X5_leastOpen l D cI cL (q0 := q0_start) (f0_taken := u_30.2.2.1) (v0_n := .int f0_start_n) (v0_rows := .ref q0_start_rows) (v0_ones := .long u_30.2.2.2.1) (r0 := u_34) (hr0 := hu_35) (sz := H.size)) (cwV 0 hts gX3_run_X5_leastOpen rfl rfl rfl (by decide +kernel) ⟨Nat.le_of_ble_eq_true rfl, Nat.le_of_ble_eq_true rfl⟩) (kx_preV hEV hP hD [1] rfl (by decide) (k0 := 1) (ci := 5) rfl rfl rfl) rfl rfl hl.1 rfl (lv_room (Nat.le_of_ble_eq_true rfl)) dX3_run_115 ⟨Nat.le_of_ble_eq_true rfl, Nat.le_of_ble_eq_true rfl⟩) (fun _ H locs _ hP hD hS => ?_)
                  refine lv_iconst (v := (1 : Int32)) hx hb dX3_run_118 (by decide) ?_
                  obtain ⟨u_36, hu_37, h⟩ := cw_b h
                  refine kx_v (ws' := fun _ => [(q0, .inr (3, [.int f0_n, .ref q0_start, .ref q0_pileRows, .ref q0_pileTaken, .ref q0_pileOnes, .int u_30.2.1, .int (f0_nodeCount + (1 : Int32)), .int (f0_modelCount + (1 : Int32)), .long u_3.2.2.1, .int (bI f0_cut)])), (q0_start, .inr (5, [.int f0_start_n, .ref q0_start_rows, .long u_36.1, .long u_36.2.1])), (q0_start_rows, .inr (2, [.int f0_start_rows_n, .ref q0_start_rows_byHead, .int (bI u_36.2.2.1)])), (q0_start_rows_byHead, .inl (cL, n0_start_rows_byHead, .inr (.inl u_36.2.2.2))), (q0_pileRows, .inl (cL, n0_pileRows, .inr (.inl h0_pileRows))), (q0_pileTaken, .inl (cL, n0_pileTaken, .inr (.inl h0_pileTaken))), (q0_pileOnes, .inl (cL, n0_pileOnes, .inr (.inl h0_pileOnes))), (q1, .inr (4, [v1_equations, .ref q1_yes, .ref q1_no, v1_equationCount, .int f1_clauseCount, v1_equationsBefore, v1_clausesBefore, v1_levelCount])), (q1_yes, .inl (cL, n1_yes, .inr (.inl h1_yes))), (q1_no, .inl (cL, n1_no, .inr (.inl h1_no)))]) hP hD hS hA [1, 2, 3] [0, 4, 5, 6, 7, 8, 9] [0, 7, 8, 9, 1, 2, 3, 4, 5, 6] rfl rfl (by decide) (by decide) (fun _ => rfl) (by decide) (va_runV (As := [.int u_34, .int (bI true)]) (rest := []) ⟨hx, hb, hml, hown, hts⟩ (cm_X5_take l D cI cL (q0 := q0_start) (q0_rows := q0_start_rows) (q0_rows_byHead := q0_start_rows_byHead) (n0_rows_byHead := n0_start_rows_byHead) (f0_taken := u_30.2.2.1) (f0_ones := u_30.2.2.2.1) (f0_rows_n := f0_start_rows_n) (f0_rows_impossible := u_30.2.2.2.2.1) (h0_rows_byHead := u_30.2.2.2.2.2) (v0_n := .int f0_start_n) (x1 := u_34) (x2 := true) (r0 := u_36) (hr0 := hu_37) (sz := H.size)) (cwV 2 hts gX3_run_X5_take rfl rfl rfl (by decide +kernel) ⟨Nat.le_of_ble_eq_true rfl, Nat.le_of_ble_eq_true rfl⟩) (kx_preV hEV hP hD [1, 2, 3] rfl (by decide) (k0 := 1) (ci := 5) rfl rfl rfl) rfl rfl hl.1 rfl (lv_room (Nat.le_of_ble_eq_true rfl)) dX3_run_119 ⟨Nat.le_of_ble_eq_true rfl, Nat.le_of_ble_eq_true rfl⟩) (fun _ H locs _ hP hD hS => ?_)
                  refine lv_goto (tgt := 126) hx hb dX3_run_122 (by decide) ?_
                  refine lv_iinc (v := x4 + (1 : Int32)) (lv' := [(4, .int (x4 + (1 : Int32))), (5, .int (0 : Int32)), (0, .ref q0), (1, .ref q1), (2, .int x2), (3, .int (bI x3))]) hx hb dX3_run_126 hl (k := 5) rfl rfl (by decide) rfl (fun ls hl => ?_)
                  refine lv_goto (tgt := 3) hx hb dX3_run_129 (by decide) ?_
                  exact ih _ _ _ _ _ _ _ _ _ _ _ _ _ h _ _ _ hP hD hS (lv_sub hl [2, 3, 4, 5, 0] rfl)
              · exact absurd c_29 (by decide)
            · have k_28 : x3 = true := (kx_nz c_27)
              have h := cw_t k_28 h
              have h := Option.some.inj h
              subst h
              subst hQ
              exact W.vret hx hb hr (fun t ht hW => ⟨⟨(), rfl, trivial, by rw [ht]; exact hP, hD⟩, hS.F ht⟩) hS.2.2 dX3_run_69
  have h := hr0
  unfold D_X3_run at h
  refine lv_iconst (v := (0 : Int32)) hx hb dX3_run_0 (by decide) ?_
  refine lv_istore (lv' := [(4, .int (0 : Int32)), (0, .ref q0), (1, .ref q1), (2, .int x2), (3, .int (bI x3))]) hx hb dX3_run_1 hl (by decide) rfl (fun ls hl => ?_)
  obtain ⟨n9, hn9⟩ := runw_some h
  exact (hloop n9) _ _ _ _ _ _ _ _ _ _ _ _ _ hn9 _ _ _ hP hD hS (lv_sub hl [1, 2, 3, 4, 0] rfl)
theorem in_X4_addEquation_X4 : ∀ w ∈ wsX40, w ∈ wsX4_addEquation := by decide +kernel
theorem lk_0_X4_addEquation : Cond.fieldLink RX4 28 "ParityClauses$Store" "equationCount" "I" ∈ wsX4_addEquation := by decide +kernel
theorem lk_1_X4_addEquation : Cond.fieldLink RX4 9 "ParityClauses$Store" "equations" "[J" ∈ wsX4_addEquation := by decide +kernel
abbrev rm_X4_addEquation : Room := { frames := 0, cells := 0, slots := 0, locals := 0 }
set_option maxHeartbeats 4000000 in
set_option maxRecDepth 100000 in
theorem cm_X4_addEquation (l : Launch) (D : va_G) (cI cL : ClassId) (q0 q0_equations : Nat) (n0_equations : Nat) (f0_equationCount : Int32) (h0_equations : Nat → Int64) (v0_yes v0_no v0_clauseCount v0_equationsBefore v0_clausesBefore v0_levelCount : Value) (x1 : Int64) (r0 : Bool × Int32 × (Nat → Int64)) (hr0 : D_X4_addEquation f0_equationCount n0_equations h0_equations x1 = some r0) (sz : Nat) : Met l yX4_addEquation wsX4_addEquation rm_X4_addEquation (PcW D cI cL [.ref q0, .long x1] [(q0, .inr (4, [.ref q0_equations, v0_yes, v0_no, .int f0_equationCount, v0_clauseCount, v0_equationsBefore, v0_clausesBefore, v0_levelCount])), (q0_equations, .inl (cL, n0_equations, .inr (.inl h0_equations)))] sz) (QiW D [(q0, .inr (4, [.ref q0_equations, v0_yes, v0_no, .int f0_equationCount, v0_clauseCount, v0_equationsBefore, v0_clausesBefore, v0_levelCount])), (q0_equations, .inl (cL, n0_equations, .inr (.inl h0_equations)))] (bI r0.1) (fun _ : Unit => [(q0, .inr (4, [.ref q0_equations, v0_yes, v0_no, .int r0.2.1, v0_clauseCount, v0_equationsBefore, v0_clausesBefore, v0_levelCount])), (q0_equations, .inl (cL, n0_equations, .inr (.inl r0.2.2)))]) tU sz) 0 0 (va_A [(q0, .inr (4, [.ref q0_equations, v0_yes, v0_no, .int f0_equationCount, v0_clauseCount, v0_equationsBefore, v0_clausesBefore, v0_levelCount])), (q0_equations, .inl (cL, n0_equations, .inr (.inl h0_equations)))] sz) := by
  refine Met.ofW (cc := cX4_addEquation) (maxL := 3) (ret := (some .boolean)) (by decide) rfl ?_
  intro p e s m args below meth c s₁ B hml hv
  obtain ⟨hargs, hsz, hP, hEV, hD0⟩ := hv
  have hx := B.exec
  have hb := B.bytes
  have hr := B.returns
  have hts := atoms_spec (ws := wsX4_addEquation) B.pre
  have hown : s.vm.findClass RX4 = some m.cls := findClass_of_methodNamed B.named
  have hlocks := B.notSynchronized
  have hK := hEV.K
  have lk_0 := hts _ lk_0_X4_addEquation
  have lk_1 := hts _ lk_1_X4_addEquation
  subst hsz
  unfold QiW PoW
  have hD := hD0.self (sz := s.heap.size)
  generalize hAe : va_A [(q0, .inr (4, [.ref q0_equations, v0_yes, v0_no, .int f0_equationCount, v0_clauseCount, v0_equationsBefore, v0_clausesBefore, v0_levelCount])), (q0_equations, .inl (cL, n0_equations, .inr (.inl h0_equations)))] s.heap.size = A at hD ⊢
  have hA : ∀ q : Nat, s.heap.size ≤ q → A q := fun q h => by rw [← hAe]; exact Or.inr h
  have hent : entryFrame m args 3 = entryFrame m ([.ref q0, .long x1] : List Value).toArray 3 := by rw [hargs]
  rw [hent]
  refine kx_Q (fun Q hQ => ?_)
  refine kx_H (fun H hH => ?_)
  have hP : va_P D vwCl [(q0, .inr (4, [.ref q0_equations, v0_yes, v0_no, .int f0_equationCount, v0_clauseCount, v0_equationsBefore, v0_clausesBefore, v0_levelCount])), (q0_equations, .inl (cL, n0_equations, .inr (.inl h0_equations)))] H := by rw [hH]; exact hP
  have hS : va_S A s.heap H [] := by rw [hH]; exact va_S.rf
  have hl := lv_entry ([.ref q0, .long x1]) (n := 3) (Nat.le_of_ble_eq_true rfl)
  rw [lg_entry_eq]
  generalize (lg_sl ([.ref q0, .long x1]) ++ List.replicate (3 - (lg_sl ([.ref q0, .long x1])).length) Slot.unset).toArray = ls at hl ⊢
  have hl : lv_has ls 3 [(0, .ref q0), (1, .long x1)] := hl
  have h := hr0
  unfold D_X4_addEquation at h
  refine lv_aload_n hx hb dX4_addEquation_0 rfl (lv_at hl 0 rfl) ?_
  refine va_get (D := D) (ci := 4) (v := .int f0_equationCount) (C := RX4) (T := TX4) (N := 8) hx hb hts in_X4_addEquation_X4 hown hK hP 0 rfl rfl 3 (by decide) lk_0 (fun _ h9 => h9) rfl dX4_addEquation_1 ?_
  refine lv_bipush (v := (60 : Int32)) hx hb dX4_addEquation_4 (by decide) ?_
  refine lv_icmp_lt (tgt := 11) hx hb dX4_addEquation_6 (by decide) (fun c_1 => ?_) (fun c_1 => ?_)
  · have k_2 : f0_equationCount < (60 : Int32) := c_1
    have h := co_t k_2 h
    refine lv_aload_n hx hb dX4_addEquation_11 rfl (lv_at hl 0 rfl) ?_
    refine va_get (D := D) (ci := 4) (v := .ref q0_equations) (C := RX4) (T := TX4) (N := 8) hx hb hts in_X4_addEquation_X4 hown hK hP 0 rfl rfl 0 (by decide) lk_1 (fun _ h9 => h9) rfl dX4_addEquation_12 ?_
    refine lv_aload_n hx hb dX4_addEquation_15 rfl (lv_at hl 0 rfl) ?_
    refine va_get (D := D) (ci := 4) (v := .int f0_equationCount) (C := RX4) (T := TX4) (N := 8) hx hb hts in_X4_addEquation_X4 hown hK hP 0 rfl rfl 3 (by decide) lk_0 (fun _ h9 => h9) rfl dX4_addEquation_16 ?_
    refine lv_lload_n hx hb dX4_addEquation_19 rfl (lv_at hl 1 rfl) ?_
    obtain ⟨b_3, h⟩ := co_i h
    refine va_last hx hb hK hP hD hS 1 1 rfl rfl b_3 dX4_addEquation_20 (fun H locs hP hD hS => ?_)
    have hP : va_P D vwCl [(q0, .inr (4, [.ref q0_equations, v0_yes, v0_no, .int f0_equationCount, v0_clauseCount, v0_equationsBefore, v0_clausesBefore, v0_levelCount])), (q0_equations, .inl (cL, n0_equations, .inr (.inl (vp_updL h0_equations f0_equationCount.toNatClampNeg x1))))] H := hP
    have hD : va_D A [(q0, .inr (4, [.ref q0_equations, v0_yes, v0_no, .int f0_equationCount, v0_clauseCount, v0_equationsBefore, v0_clausesBefore, v0_levelCount])), (q0_equations, .inl (cL, n0_equations, .inr (.inl (vp_updL h0_equations f0_equationCount.toNatClampNeg x1))))] := hD
    refine lv_aload_n hx hb dX4_addEquation_21 rfl (lv_at hl 0 rfl) ?_
    refine lv_dup hx hb dX4_addEquation_22 rfl ?_
    refine va_get (D := D) (ci := 4) (v := .int f0_equationCount) (C := RX4) (T := TX4) (N := 8) hx hb hts in_X4_addEquation_X4 hown hK hP 0 rfl rfl 3 (by decide) lk_0 (fun _ h9 => h9) rfl dX4_addEquation_23 ?_
    refine lv_iconst (v := (1 : Int32)) hx hb dX4_addEquation_26 (by decide) ?_
    refine lv_iadd hx hb dX4_addEquation_27 ?_
    refine va_put (D := D) (ci := 4) (v := .int (f0_equationCount + (1 : Int32))) (ty := .int) (C := RX4) (T := TX4) (N := 8) hx hb hts in_X4_addEquation_X4 tyX4 tyX4_ok nmX4 hown hK hP hD hS 0 rfl rfl 3 (by decide) lk_0 (fun _ h9 => h9) rfl (by decide +kernel) rfl rfl (Nat.le_of_ble_eq_true rfl) dX4_addEquation_28 (fun H locs hP hD hS => ?_)
    have hP : va_P D vwCl [(q0, .inr (4, [.ref q0_equations, v0_yes, v0_no, .int (f0_equationCount + (1 : Int32)), v0_clauseCount, v0_equationsBefore, v0_clausesBefore, v0_levelCount])), (q0_equations, .inl (cL, n0_equations, .inr (.inl (vp_updL h0_equations f0_equationCount.toNatClampNeg x1))))] H := hP
    have hD : va_D A [(q0, .inr (4, [.ref q0_equations, v0_yes, v0_no, .int (f0_equationCount + (1 : Int32)), v0_clauseCount, v0_equationsBefore, v0_clausesBefore, v0_levelCount])), (q0_equations, .inl (cL, n0_equations, .inr (.inl (vp_updL h0_equations f0_equationCount.toNatClampNeg x1))))] := hD
    refine lv_iconst (v := (1 : Int32)) hx hb dX4_addEquation_31 (by decide) ?_
    have h := Option.some.inj h
    subst h
    subst hQ
    exact W.zret (v := bI true) hx hb hr (bI_n true) (fun t ht hW => ⟨⟨bI true, (), rfl, ⟨rfl, trivial⟩, by rw [ht]; exact hP, hD⟩, hS.F ht⟩) hS.2.2 dX4_addEquation_32
  · have k_2 : ¬ (f0_equationCount < (60 : Int32)) := c_1
    have h := co_f k_2 h
    refine lv_iconst (v := (0 : Int32)) hx hb dX4_addEquation_9 (by decide) ?_
    have h := Option.some.inj h
    subst h
    subst hQ
    exact W.zret (v := bI false) hx hb hr (bI_n false) (fun t ht hW => ⟨⟨bI false, (), rfl, ⟨rfl, trivial⟩, by rw [ht]; exact hP, hD⟩, hS.F ht⟩) hS.2.2 dX4_addEquation_10
theorem in_X4_addClause_X4 : ∀ w ∈ wsX40, w ∈ wsX4_addClause := by decide +kernel
theorem lk_0_X4_addClause : Cond.fieldLink RX4 32 "ParityClauses$Store" "clauseCount" "I" ∈ wsX4_addClause := by decide +kernel
theorem lk_1_X4_addClause : Cond.fieldLink RX4 15 "ParityClauses$Store" "yes" "[J" ∈ wsX4_addClause := by decide +kernel
theorem lk_2_X4_addClause : Cond.fieldLink RX4 18 "ParityClauses$Store" "no" "[J" ∈ wsX4_addClause := by decide +kernel
abbrev rm_X4_addClause : Room := { frames := 0, cells := 0, slots := 0, locals := 0 }
set_option maxHeartbeats 4000000 in
set_option maxRecDepth 100000 in
theorem cm_X4_addClause (l : Launch) (D : va_G) (cI cL : ClassId) (q0 q0_yes q0_no : Nat) (n0_yes n0_no : Nat) (f0_clauseCount : Int32) (h0_yes : Nat → Int64) (h0_no : Nat → Int64) (v0_equations v0_equationCount v0_equationsBefore v0_clausesBefore v0_levelCount : Value) (x1 : Int64) (x3 : Int64) (r0 : Bool × Int32 × (Nat → Int64) × (Nat → Int64)) (hr0 : D_X4_addClause f0_clauseCount n0_yes h0_yes n0_no h0_no x1 x3 = some r0) (sz : Nat) : Met l yX4_addClause wsX4_addClause rm_X4_addClause (PcW D cI cL [.ref q0, .long x1, .long x3] [(q0, .inr (4, [v0_equations, .ref q0_yes, .ref q0_no, v0_equationCount, .int f0_clauseCount, v0_equationsBefore, v0_clausesBefore, v0_levelCount])), (q0_yes, .inl (cL, n0_yes, .inr (.inl h0_yes))), (q0_no, .inl (cL, n0_no, .inr (.inl h0_no)))] sz) (QiW D [(q0, .inr (4, [v0_equations, .ref q0_yes, .ref q0_no, v0_equationCount, .int f0_clauseCount, v0_equationsBefore, v0_clausesBefore, v0_levelCount])), (q0_yes, .inl (cL, n0_yes, .inr (.inl h0_yes))), (q0_no, .inl (cL, n0_no, .inr (.inl h0_no)))] (bI r0.1) (fun _ : Unit => [(q0, .inr (4, [v0_equations, .ref q0_yes, .ref q0_no, v0_equationCount, .int r0.2.1, v0_equationsBefore, v0_clausesBefore, v0_levelCount])), (q0_yes, .inl (cL, n0_yes, .inr (.inl r0.2.2.1))), (q0_no, .inl (cL, n0_no, .inr (.inl r0.2.2.2)))]) tU sz) 0 0 (va_A [(q0, .inr (4, [v0_equations, .ref q0_yes, .ref q0_no, v0_equationCount, .int f0_clauseCount, v0_equationsBefore, v0_clausesBefore, v0_levelCount])), (q0_yes, .inl (cL, n0_yes, .inr (.inl h0_yes))), (q0_no, .inl (cL, n0_no, .inr (.inl h0_no)))] sz) := by
  refine Met.ofW (cc := cX4_addClause) (maxL := 5) (ret := (some .boolean)) (by decide) rfl ?_
  intro p e s m args below meth c s₁ B hml hv
  obtain ⟨hargs, hsz, hP, hEV, hD0⟩ := hv
  have hx := B.exec
  have hb := B.bytes
  have hr := B.returns
  have hts := atoms_spec (ws := wsX4_addClause) B.pre
  have hown : s.vm.findClass RX4 = some m.cls := findClass_of_methodNamed B.named
  have hlocks := B.notSynchronized
  have hK := hEV.K
  have lk_0 := hts _ lk_0_X4_addClause
  have lk_1 := hts _ lk_1_X4_addClause
  have lk_2 := hts _ lk_2_X4_addClause
  subst hsz
  unfold QiW PoW
  have hD := hD0.self (sz := s.heap.size)
  generalize hAe : va_A [(q0, .inr (4, [v0_equations, .ref q0_yes, .ref q0_no, v0_equationCount, .int f0_clauseCount, v0_equationsBefore, v0_clausesBefore, v0_levelCount])), (q0_yes, .inl (cL, n0_yes, .inr (.inl h0_yes))), (q0_no, .inl (cL, n0_no, .inr (.inl h0_no)))] s.heap.size = A at hD ⊢
  have hA : ∀ q : Nat, s.heap.size ≤ q → A q := fun q h => by rw [← hAe]; exact Or.inr h
  have hent : entryFrame m args 5 = entryFrame m ([.ref q0, .long x1, .long x3] : List Value).toArray 5 := by rw [hargs]
  rw [hent]
  refine kx_Q (fun Q hQ => ?_)
  refine kx_H (fun H hH => ?_)
  have hP : va_P D vwCl [(q0, .inr (4, [v0_equations, .ref q0_yes, .ref q0_no, v0_equationCount, .int f0_clauseCount, v0_equationsBefore, v0_clausesBefore, v0_levelCount])), (q0_yes, .inl (cL, n0_yes, .inr (.inl h0_yes))), (q0_no, .inl (cL, n0_no, .inr (.inl h0_no)))] H := by rw [hH]; exact hP
  have hS : va_S A s.heap H [] := by rw [hH]; exact va_S.rf
  have hl := lv_entry ([.ref q0, .long x1, .long x3]) (n := 5) (Nat.le_of_ble_eq_true rfl)
  rw [lg_entry_eq]
  generalize (lg_sl ([.ref q0, .long x1, .long x3]) ++ List.replicate (5 - (lg_sl ([.ref q0, .long x1, .long x3])).length) Slot.unset).toArray = ls at hl ⊢
  have hl : lv_has ls 5 [(0, .ref q0), (1, .long x1), (3, .long x3)] := hl
  have h := hr0
  unfold D_X4_addClause at h
  refine lv_aload_n hx hb dX4_addClause_0 rfl (lv_at hl 0 rfl) ?_
  refine va_get (D := D) (ci := 4) (v := .int f0_clauseCount) (C := RX4) (T := TX4) (N := 8) hx hb hts in_X4_addClause_X4 hown hK hP 0 rfl rfl 4 (by decide) lk_0 (fun _ h9 => h9) rfl dX4_addClause_1 ?_
  refine lv_bipush (v := (60 : Int32)) hx hb dX4_addClause_4 (by decide) ?_
  refine lv_icmp_lt (tgt := 11) hx hb dX4_addClause_6 (by decide) (fun c_1 => ?_) (fun c_1 => ?_)
  · have k_2 : f0_clauseCount < (60 : Int32) := c_1
    have h := co_t k_2 h
    refine lv_aload_n hx hb dX4_addClause_11 rfl (lv_at hl 0 rfl) ?_
    refine va_get (D := D) (ci := 4) (v := .ref q0_yes) (C := RX4) (T := TX4) (N := 8) hx hb hts in_X4_addClause_X4 hown hK hP 0 rfl rfl 1 (by decide) lk_1 (fun _ h9 => h9) rfl dX4_addClause_12 ?_
    refine lv_aload_n hx hb dX4_addClause_15 rfl (lv_at hl 0 rfl) ?_
    refine va_get (D := D) (ci := 4) (v := .int f0_clauseCount) (C := RX4) (T := TX4) (N := 8) hx hb hts in_X4_addClause_X4 hown hK hP 0 rfl rfl 4 (by decide) lk_0 (fun _ h9 => h9) rfl dX4_addClause_16 ?_
    refine lv_lload_n hx hb dX4_addClause_19 rfl (lv_at hl 1 rfl) ?_
    obtain ⟨b_3, h⟩ := co_i h
    refine va_last hx hb hK hP hD hS 1 1 rfl rfl b_3 dX4_addClause_20 (fun H locs hP hD hS => ?_)
    have hP : va_P D vwCl [(q0, .inr (4, [v0_equations, .ref q0_yes, .ref q0_no, v0_equationCount, .int f0_clauseCount, v0_equationsBefore, v0_clausesBefore, v0_levelCount])), (q0_yes, .inl (cL, n0_yes, .inr (.inl (vp_updL h0_yes f0_clauseCount.toNatClampNeg x1)))), (q0_no, .inl (cL, n0_no, .inr (.inl h0_no)))] H := hP
    have hD : va_D A [(q0, .inr (4, [v0_equations, .ref q0_yes, .ref q0_no, v0_equationCount, .int f0_clauseCount, v0_equationsBefore, v0_clausesBefore, v0_levelCount])), (q0_yes, .inl (cL, n0_yes, .inr (.inl (vp_updL h0_yes f0_clauseCount.toNatClampNeg x1)))), (q0_no, .inl (cL, n0_no, .inr (.inl h0_no)))] := hD
    refine lv_aload_n hx hb dX4_addClause_21 rfl (lv_at hl 0 rfl) ?_
    refine va_get (D := D) (ci := 4) (v := .ref q0_no) (C := RX4) (T := TX4) (N := 8) hx hb hts in_X4_addClause_X4 hown hK hP 0 rfl rfl 2 (by decide) lk_2 (fun _ h9 => h9) rfl dX4_addClause_22 ?_
    refine lv_aload_n hx hb dX4_addClause_25 rfl (lv_at hl 0 rfl) ?_
    refine va_get (D := D) (ci := 4) (v := .int f0_clauseCount) (C := RX4) (T := TX4) (N := 8) hx hb hts in_X4_addClause_X4 hown hK hP 0 rfl rfl 4 (by decide) lk_0 (fun _ h9 => h9) rfl dX4_addClause_26 ?_
    refine lv_lload_n hx hb dX4_addClause_29 rfl (lv_at hl 2 rfl) ?_
    obtain ⟨b_4, h⟩ := co_i h
    refine va_last hx hb hK hP hD hS 2 1 rfl rfl b_4 dX4_addClause_30 (fun H locs hP hD hS => ?_)
    have hP : va_P D vwCl [(q0, .inr (4, [v0_equations, .ref q0_yes, .ref q0_no, v0_equationCount, .int f0_clauseCount, v0_equationsBefore, v0_clausesBefore, v0_levelCount])), (q0_yes, .inl (cL, n0_yes, .inr (.inl (vp_updL h0_yes f0_clauseCount.toNatClampNeg x1)))), (q0_no, .inl (cL, n0_no, .inr (.inl (vp_updL h0_no f0_clauseCount.toNatClampNeg x3))))] H := hP
    have hD : va_D A [(q0, .inr (4, [v0_equations, .ref q0_yes, .ref q0_no, v0_equationCount, .int f0_clauseCount, v0_equationsBefore, v0_clausesBefore, v0_levelCount])), (q0_yes, .inl (cL, n0_yes, .inr (.inl (vp_updL h0_yes f0_clauseCount.toNatClampNeg x1)))), (q0_no, .inl (cL, n0_no, .inr (.inl (vp_updL h0_no f0_clauseCount.toNatClampNeg x3))))] := hD
    refine lv_aload_n hx hb dX4_addClause_31 rfl (lv_at hl 0 rfl) ?_
    refine lv_dup hx hb dX4_addClause_32 rfl ?_
    refine va_get (D := D) (ci := 4) (v := .int f0_clauseCount) (C := RX4) (T := TX4) (N := 8) hx hb hts in_X4_addClause_X4 hown hK hP 0 rfl rfl 4 (by decide) lk_0 (fun _ h9 => h9) rfl dX4_addClause_33 ?_
    refine lv_iconst (v := (1 : Int32)) hx hb dX4_addClause_36 (by decide) ?_
    refine lv_iadd hx hb dX4_addClause_37 ?_
    refine va_put (D := D) (ci := 4) (v := .int (f0_clauseCount + (1 : Int32))) (ty := .int) (C := RX4) (T := TX4) (N := 8) hx hb hts in_X4_addClause_X4 tyX4 tyX4_ok nmX4 hown hK hP hD hS 0 rfl rfl 4 (by decide) lk_0 (fun _ h9 => h9) rfl (by decide +kernel) rfl rfl (Nat.le_of_ble_eq_true rfl) dX4_addClause_38 (fun H locs hP hD hS => ?_)
    have hP : va_P D vwCl [(q0, .inr (4, [v0_equations, .ref q0_yes, .ref q0_no, v0_equationCount, .int (f0_clauseCount + (1 : Int32)), v0_equationsBefore, v0_clausesBefore, v0_levelCount])), (q0_yes, .inl (cL, n0_yes, .inr (.inl (vp_updL h0_yes f0_clauseCount.toNatClampNeg x1)))), (q0_no, .inl (cL, n0_no, .inr (.inl (vp_updL h0_no f0_clauseCount.toNatClampNeg x3))))] H := hP
    have hD : va_D A [(q0, .inr (4, [v0_equations, .ref q0_yes, .ref q0_no, v0_equationCount, .int (f0_clauseCount + (1 : Int32)), v0_equationsBefore, v0_clausesBefore, v0_levelCount])), (q0_yes, .inl (cL, n0_yes, .inr (.inl (vp_updL h0_yes f0_clauseCount.toNatClampNeg x1)))), (q0_no, .inl (cL, n0_no, .inr (.inl (vp_updL h0_no f0_clauseCount.toNatClampNeg x3))))] := hD
    refine lv_iconst (v := (1 : Int32)) hx hb dX4_addClause_41 (by decide) ?_
    have h := Option.some.inj h
    subst h
    subst hQ
    exact W.zret (v := bI true) hx hb hr (bI_n true) (fun t ht hW => ⟨⟨bI true, (), rfl, ⟨rfl, trivial⟩, by rw [ht]; exact hP, hD⟩, hS.F ht⟩) hS.2.2 dX4_addClause_42
  · have k_2 : ¬ (f0_clauseCount < (60 : Int32)) := c_1
    have h := co_f k_2 h
    refine lv_iconst (v := (0 : Int32)) hx hb dX4_addClause_9 (by decide) ?_
    have h := Option.some.inj h
    subst h
    subst hQ
    exact W.zret (v := bI false) hx hb hr (bI_n false) (fun t ht hW => ⟨⟨bI false, (), rfl, ⟨rfl, trivial⟩, by rw [ht]; exact hP, hD⟩, hS.F ht⟩) hS.2.2 dX4_addClause_10
theorem in_X4_addLevel_X4 : ∀ w ∈ wsX40, w ∈ wsX4_addLevel := by decide +kernel
theorem lk_0_X4_addLevel : Cond.fieldLink RX4 35 "ParityClauses$Store" "levelCount" "I" ∈ wsX4_addLevel := by decide +kernel
theorem lk_1_X4_addLevel : Cond.fieldLink RX4 21 "ParityClauses$Store" "equationsBefore" "[I" ∈ wsX4_addLevel := by decide +kernel
theorem lk_2_X4_addLevel : Cond.fieldLink RX4 28 "ParityClauses$Store" "equationCount" "I" ∈ wsX4_addLevel := by decide +kernel
theorem lk_3_X4_addLevel : Cond.fieldLink RX4 25 "ParityClauses$Store" "clausesBefore" "[I" ∈ wsX4_addLevel := by decide +kernel
theorem lk_4_X4_addLevel : Cond.fieldLink RX4 32 "ParityClauses$Store" "clauseCount" "I" ∈ wsX4_addLevel := by decide +kernel
abbrev rm_X4_addLevel : Room := { frames := 0, cells := 0, slots := 0, locals := 0 }
set_option maxHeartbeats 4000000 in
set_option maxRecDepth 100000 in
theorem cm_X4_addLevel (l : Launch) (D : va_G) (cI cL : ClassId) (q0 q0_equationsBefore q0_clausesBefore : Nat) (n0_equationsBefore n0_clausesBefore : Nat) (f0_equationCount : Int32) (f0_clauseCount : Int32) (f0_levelCount : Int32) (h0_equationsBefore : Nat → Int32) (h0_clausesBefore : Nat → Int32) (v0_equations v0_yes v0_no : Value) (r0 : Int32 × (Nat → Int32) × (Nat → Int32)) (hr0 : D_X4_addLevel f0_equationCount f0_clauseCount f0_levelCount n0_equationsBefore h0_equationsBefore n0_clausesBefore h0_clausesBefore = some r0) (sz : Nat) : Met l yX4_addLevel wsX4_addLevel rm_X4_addLevel (PcW D cI cL [.ref q0] [(q0, .inr (4, [v0_equations, v0_yes, v0_no, .int f0_equationCount, .int f0_clauseCount, .ref q0_equationsBefore, .ref q0_clausesBefore, .int f0_levelCount])), (q0_equationsBefore, .inl (cI, n0_equationsBefore, .inl h0_equationsBefore)), (q0_clausesBefore, .inl (cI, n0_clausesBefore, .inl h0_clausesBefore))] sz) (QvW D [(q0, .inr (4, [v0_equations, v0_yes, v0_no, .int f0_equationCount, .int f0_clauseCount, .ref q0_equationsBefore, .ref q0_clausesBefore, .int f0_levelCount])), (q0_equationsBefore, .inl (cI, n0_equationsBefore, .inl h0_equationsBefore)), (q0_clausesBefore, .inl (cI, n0_clausesBefore, .inl h0_clausesBefore))] (fun _ : Unit => [(q0, .inr (4, [v0_equations, v0_yes, v0_no, .int f0_equationCount, .int f0_clauseCount, .ref q0_equationsBefore, .ref q0_clausesBefore, .int r0.1])), (q0_equationsBefore, .inl (cI, n0_equationsBefore, .inl r0.2.1)), (q0_clausesBefore, .inl (cI, n0_clausesBefore, .inl r0.2.2))]) tU sz) 0 0 (va_A [(q0, .inr (4, [v0_equations, v0_yes, v0_no, .int f0_equationCount, .int f0_clauseCount, .ref q0_equationsBefore, .ref q0_clausesBefore, .int f0_levelCount])), (q0_equationsBefore, .inl (cI, n0_equationsBefore, .inl h0_equationsBefore)), (q0_clausesBefore, .inl (cI, n0_clausesBefore, .inl h0_clausesBefore))] sz) := by
  refine Met.ofW (cc := cX4_addLevel) (maxL := 1) (ret := none) (by decide) rfl ?_
  intro p e s m args below meth c s₁ B hml hv
  obtain ⟨hargs, hsz, hP, hEV, hD0⟩ := hv
  have hx := B.exec
  have hb := B.bytes
  have hr := B.returns
  have hts := atoms_spec (ws := wsX4_addLevel) B.pre
  have hown : s.vm.findClass RX4 = some m.cls := findClass_of_methodNamed B.named
  have hlocks := B.notSynchronized
  have hK := hEV.K
  have lk_0 := hts _ lk_0_X4_addLevel
  have lk_1 := hts _ lk_1_X4_addLevel
  have lk_2 := hts _ lk_2_X4_addLevel
  have lk_3 := hts _ lk_3_X4_addLevel
  have lk_4 := hts _ lk_4_X4_addLevel
  subst hsz
  unfold QvW PoW
  have hD := hD0.self (sz := s.heap.size)
  generalize hAe : va_A [(q0, .inr (4, [v0_equations, v0_yes, v0_no, .int f0_equationCount, .int f0_clauseCount, .ref q0_equationsBefore, .ref q0_clausesBefore, .int f0_levelCount])), (q0_equationsBefore, .inl (cI, n0_equationsBefore, .inl h0_equationsBefore)), (q0_clausesBefore, .inl (cI, n0_clausesBefore, .inl h0_clausesBefore))] s.heap.size = A at hD ⊢
  have hA : ∀ q : Nat, s.heap.size ≤ q → A q := fun q h => by rw [← hAe]; exact Or.inr h
  have hent : entryFrame m args 1 = entryFrame m ([.ref q0] : List Value).toArray 1 := by rw [hargs]
  rw [hent]
  refine kx_Q (fun Q hQ => ?_)
  refine kx_H (fun H hH => ?_)
  have hP : va_P D vwCl [(q0, .inr (4, [v0_equations, v0_yes, v0_no, .int f0_equationCount, .int f0_clauseCount, .ref q0_equationsBefore, .ref q0_clausesBefore, .int f0_levelCount])), (q0_equationsBefore, .inl (cI, n0_equationsBefore, .inl h0_equationsBefore)), (q0_clausesBefore, .inl (cI, n0_clausesBefore, .inl h0_clausesBefore))] H := by rw [hH]; exact hP
  have hS : va_S A s.heap H [] := by rw [hH]; exact va_S.rf
  have hl := lv_entry ([.ref q0]) (n := 1) (Nat.le_of_ble_eq_true rfl)
  rw [lg_entry_eq]
  generalize (lg_sl ([.ref q0]) ++ List.replicate (1 - (lg_sl ([.ref q0])).length) Slot.unset).toArray = ls at hl ⊢
  have hl : lv_has ls 1 [(0, .ref q0)] := hl
  have h := hr0
  unfold D_X4_addLevel at h
  refine lv_aload_n hx hb dX4_addLevel_0 rfl (lv_at hl 0 rfl) ?_
  refine va_get (D := D) (ci := 4) (v := .int f0_levelCount) (C := RX4) (T := TX4) (N := 8) hx hb hts in_X4_addLevel_X4 hown hK hP 0 rfl rfl 7 (by decide) lk_0 (fun _ h9 => h9) rfl dX4_addLevel_1 ?_
  refine lv_bipush (v := (20 : Int32)) hx hb dX4_addLevel_4 (by decide) ?_
  refine lv_icmp_ge (tgt := 45) hx hb dX4_addLevel_6 (by decide) (fun c_1 => ?_) (fun c_1 => ?_)
  · have k_2 : (20 : Int32) ≤ f0_levelCount := c_1
    have h := co_t k_2 h
    have h := Option.some.inj h
    subst h
    subst hQ
    exact W.vret hx hb hr (fun t ht hW => ⟨⟨(), rfl, trivial, by rw [ht]; exact hP, hD⟩, hS.F ht⟩) hS.2.2 dX4_addLevel_45
  · have k_2 : ¬ ((20 : Int32) ≤ f0_levelCount) := c_1
    have h := co_f k_2 h
    refine lv_aload_n hx hb dX4_addLevel_9 rfl (lv_at hl 0 rfl) ?_
    refine va_get (D := D) (ci := 4) (v := .ref q0_equationsBefore) (C := RX4) (T := TX4) (N := 8) hx hb hts in_X4_addLevel_X4 hown hK hP 0 rfl rfl 5 (by decide) lk_1 (fun _ h9 => h9) rfl dX4_addLevel_10 ?_
    refine lv_aload_n hx hb dX4_addLevel_13 rfl (lv_at hl 0 rfl) ?_
    refine va_get (D := D) (ci := 4) (v := .int f0_levelCount) (C := RX4) (T := TX4) (N := 8) hx hb hts in_X4_addLevel_X4 hown hK hP 0 rfl rfl 7 (by decide) lk_0 (fun _ h9 => h9) rfl dX4_addLevel_14 ?_
    refine lv_aload_n hx hb dX4_addLevel_17 rfl (lv_at hl 0 rfl) ?_
    refine va_get (D := D) (ci := 4) (v := .int f0_equationCount) (C := RX4) (T := TX4) (N := 8) hx hb hts in_X4_addLevel_X4 hown hK hP 0 rfl rfl 3 (by decide) lk_2 (fun _ h9 => h9) rfl dX4_addLevel_18 ?_
    obtain ⟨b_3, h⟩ := co_i h
    refine va_iast hx hb hK hP hD hS 1 0 rfl rfl b_3 dX4_addLevel_21 (fun H locs hP hD hS => ?_)
    have hP : va_P D vwCl [(q0, .inr (4, [v0_equations, v0_yes, v0_no, .int f0_equationCount, .int f0_clauseCount, .ref q0_equationsBefore, .ref q0_clausesBefore, .int f0_levelCount])), (q0_equationsBefore, .inl (cI, n0_equationsBefore, .inl (upd h0_equationsBefore f0_levelCount.toNatClampNeg f0_equationCount))), (q0_clausesBefore, .inl (cI, n0_clausesBefore, .inl h0_clausesBefore))] H := hP
    have hD : va_D A [(q0, .inr (4, [v0_equations, v0_yes, v0_no, .int f0_equationCount, .int f0_clauseCount, .ref q0_equationsBefore, .ref q0_clausesBefore, .int f0_levelCount])), (q0_equationsBefore, .inl (cI, n0_equationsBefore, .inl (upd h0_equationsBefore f0_levelCount.toNatClampNeg f0_equationCount))), (q0_clausesBefore, .inl (cI, n0_clausesBefore, .inl h0_clausesBefore))] := hD
    refine lv_aload_n hx hb dX4_addLevel_22 rfl (lv_at hl 0 rfl) ?_
    refine va_get (D := D) (ci := 4) (v := .ref q0_clausesBefore) (C := RX4) (T := TX4) (N := 8) hx hb hts in_X4_addLevel_X4 hown hK hP 0 rfl rfl 6 (by decide) lk_3 (fun _ h9 => h9) rfl dX4_addLevel_23 ?_
    refine lv_aload_n hx hb dX4_addLevel_26 rfl (lv_at hl 0 rfl) ?_
    refine va_get (D := D) (ci := 4) (v := .int f0_levelCount) (C := RX4) (T := TX4) (N := 8) hx hb hts in_X4_addLevel_X4 hown hK hP 0 rfl rfl 7 (by decide) lk_0 (fun _ h9 => h9) rfl dX4_addLevel_27 ?_
    refine lv_aload_n hx hb dX4_addLevel_30 rfl (lv_at hl 0 rfl) ?_
    refine va_get (D := D) (ci := 4) (v := .int f0_clauseCount) (C := RX4) (T := TX4) (N := 8) hx hb hts in_X4_addLevel_X4 hown hK hP 0 rfl rfl 4 (by decide) lk_4 (fun _ h9 => h9) rfl dX4_addLevel_31 ?_
    obtain ⟨b_4, h⟩ := co_i h
    refine va_iast hx hb hK hP hD hS 2 0 rfl rfl b_4 dX4_addLevel_34 (fun H locs hP hD hS => ?_)
    have hP : va_P D vwCl [(q0, .inr (4, [v0_equations, v0_yes, v0_no, .int f0_equationCount, .int f0_clauseCount, .ref q0_equationsBefore, .ref q0_clausesBefore, .int f0_levelCount])), (q0_equationsBefore, .inl (cI, n0_equationsBefore, .inl (upd h0_equationsBefore f0_levelCount.toNatClampNeg f0_equationCount))), (q0_clausesBefore, .inl (cI, n0_clausesBefore, .inl (upd h0_clausesBefore f0_levelCount.toNatClampNeg f0_clauseCount)))] H := hP
    have hD : va_D A [(q0, .inr (4, [v0_equations, v0_yes, v0_no, .int f0_equationCount, .int f0_clauseCount, .ref q0_equationsBefore, .ref q0_clausesBefore, .int f0_levelCount])), (q0_equationsBefore, .inl (cI, n0_equationsBefore, .inl (upd h0_equationsBefore f0_levelCount.toNatClampNeg f0_equationCount))), (q0_clausesBefore, .inl (cI, n0_clausesBefore, .inl (upd h0_clausesBefore f0_levelCount.toNatClampNeg f0_clauseCount)))] := hD
    refine lv_aload_n hx hb dX4_addLevel_35 rfl (lv_at hl 0 rfl) ?_
    refine lv_dup hx hb dX4_addLevel_36 rfl ?_
    refine va_get (D := D) (ci := 4) (v := .int f0_levelCount) (C := RX4) (T := TX4) (N := 8) hx hb hts in_X4_addLevel_X4 hown hK hP 0 rfl rfl 7 (by decide) lk_0 (fun _ h9 => h9) rfl dX4_addLevel_37 ?_
    refine lv_iconst (v := (1 : Int32)) hx hb dX4_addLevel_40 (by decide) ?_
    refine lv_iadd hx hb dX4_addLevel_41 ?_
    refine va_put (D := D) (ci := 4) (v := .int (f0_levelCount + (1 : Int32))) (ty := .int) (C := RX4) (T := TX4) (N := 8) hx hb hts in_X4_addLevel_X4 tyX4 tyX4_ok nmX4 hown hK hP hD hS 0 rfl rfl 7 (by decide) lk_0 (fun _ h9 => h9) rfl (by decide +kernel) rfl rfl (Nat.le_of_ble_eq_true rfl) dX4_addLevel_42 (fun H locs hP hD hS => ?_)
    have hP : va_P D vwCl [(q0, .inr (4, [v0_equations, v0_yes, v0_no, .int f0_equationCount, .int f0_clauseCount, .ref q0_equationsBefore, .ref q0_clausesBefore, .int (f0_levelCount + (1 : Int32))])), (q0_equationsBefore, .inl (cI, n0_equationsBefore, .inl (upd h0_equationsBefore f0_levelCount.toNatClampNeg f0_equationCount))), (q0_clausesBefore, .inl (cI, n0_clausesBefore, .inl (upd h0_clausesBefore f0_levelCount.toNatClampNeg f0_clauseCount)))] H := hP
    have hD : va_D A [(q0, .inr (4, [v0_equations, v0_yes, v0_no, .int f0_equationCount, .int f0_clauseCount, .ref q0_equationsBefore, .ref q0_clausesBefore, .int (f0_levelCount + (1 : Int32))])), (q0_equationsBefore, .inl (cI, n0_equationsBefore, .inl (upd h0_equationsBefore f0_levelCount.toNatClampNeg f0_equationCount))), (q0_clausesBefore, .inl (cI, n0_clausesBefore, .inl (upd h0_clausesBefore f0_levelCount.toNatClampNeg f0_clauseCount)))] := hD
    have h := Option.some.inj h
    subst h
    subst hQ
    exact W.vret hx hb hr (fun t ht hW => ⟨⟨(), rfl, trivial, by rw [ht]; exact hP, hD⟩, hS.F ht⟩) hS.2.2 dX4_addLevel_45
theorem in_X4_cutTo_X4 : ∀ w ∈ wsX40, w ∈ wsX4_cutTo := by decide +kernel
theorem lk_0_X4_cutTo : Cond.fieldLink RX4 28 "ParityClauses$Store" "equationCount" "I" ∈ wsX4_cutTo := by decide +kernel
theorem lk_1_X4_cutTo : Cond.fieldLink RX4 32 "ParityClauses$Store" "clauseCount" "I" ∈ wsX4_cutTo := by decide +kernel
abbrev rm_X4_cutTo : Room := { frames := 0, cells := 0, slots := 0, locals := 0 }
set_option maxHeartbeats 4000000 in
set_option maxRecDepth 100000 in
theorem cm_X4_cutTo (l : Launch) (D : va_G) (cI cL : ClassId) (q0 : Nat) (f0_equationCount : Int32) (f0_clauseCount : Int32) (v0_equations v0_yes v0_no v0_equationsBefore v0_clausesBefore v0_levelCount : Value) (x1 : Int32) (x2 : Int32) (r0 : Int32 × Int32) (hr0 : D_X4_cutTo f0_equationCount f0_clauseCount x1 x2 = some r0) (sz : Nat) : Met l yX4_cutTo wsX4_cutTo rm_X4_cutTo (PcW D cI cL [.ref q0, .int x1, .int x2] [(q0, .inr (4, [v0_equations, v0_yes, v0_no, .int f0_equationCount, .int f0_clauseCount, v0_equationsBefore, v0_clausesBefore, v0_levelCount]))] sz) (QvW D [(q0, .inr (4, [v0_equations, v0_yes, v0_no, .int f0_equationCount, .int f0_clauseCount, v0_equationsBefore, v0_clausesBefore, v0_levelCount]))] (fun _ : Unit => [(q0, .inr (4, [v0_equations, v0_yes, v0_no, .int r0.1, .int r0.2, v0_equationsBefore, v0_clausesBefore, v0_levelCount]))]) tU sz) 0 0 (va_A [(q0, .inr (4, [v0_equations, v0_yes, v0_no, .int f0_equationCount, .int f0_clauseCount, v0_equationsBefore, v0_clausesBefore, v0_levelCount]))] sz) := by
  refine Met.ofW (cc := cX4_cutTo) (maxL := 3) (ret := none) (by decide) rfl ?_
  intro p e s m args below meth c s₁ B hml hv
  obtain ⟨hargs, hsz, hP, hEV, hD0⟩ := hv
  have hx := B.exec
  have hb := B.bytes
  have hr := B.returns
  have hts := atoms_spec (ws := wsX4_cutTo) B.pre
  have hown : s.vm.findClass RX4 = some m.cls := findClass_of_methodNamed B.named
  have hlocks := B.notSynchronized
  have hK := hEV.K
  have lk_0 := hts _ lk_0_X4_cutTo
  have lk_1 := hts _ lk_1_X4_cutTo
  subst hsz
  unfold QvW PoW
  have hD := hD0.self (sz := s.heap.size)
  generalize hAe : va_A [(q0, .inr (4, [v0_equations, v0_yes, v0_no, .int f0_equationCount, .int f0_clauseCount, v0_equationsBefore, v0_clausesBefore, v0_levelCount]))] s.heap.size = A at hD ⊢
  have hA : ∀ q : Nat, s.heap.size ≤ q → A q := fun q h => by rw [← hAe]; exact Or.inr h
  have hent : entryFrame m args 3 = entryFrame m ([.ref q0, .int x1, .int x2] : List Value).toArray 3 := by rw [hargs]
  rw [hent]
  refine kx_Q (fun Q hQ => ?_)
  refine kx_H (fun H hH => ?_)
  have hP : va_P D vwCl [(q0, .inr (4, [v0_equations, v0_yes, v0_no, .int f0_equationCount, .int f0_clauseCount, v0_equationsBefore, v0_clausesBefore, v0_levelCount]))] H := by rw [hH]; exact hP
  have hS : va_S A s.heap H [] := by rw [hH]; exact va_S.rf
  have hl := lv_entry ([.ref q0, .int x1, .int x2]) (n := 3) (Nat.le_of_ble_eq_true rfl)
  rw [lg_entry_eq]
  generalize (lg_sl ([.ref q0, .int x1, .int x2]) ++ List.replicate (3 - (lg_sl ([.ref q0, .int x1, .int x2])).length) Slot.unset).toArray = ls at hl ⊢
  have hl : lv_has ls 3 [(0, .ref q0), (1, .int x1), (2, .int x2)] := hl
  have h := hr0
  unfold D_X4_cutTo at h
  refine lv_aload_n hx hb dX4_cutTo_0 rfl (lv_at hl 0 rfl) ?_
  refine lv_iload_n hx hb dX4_cutTo_1 rfl (lv_at hl 1 rfl) ?_
  refine va_put (D := D) (ci := 4) (v := .int x1) (ty := .int) (C := RX4) (T := TX4) (N := 8) hx hb hts in_X4_cutTo_X4 tyX4 tyX4_ok nmX4 hown hK hP hD hS 0 rfl rfl 3 (by decide) lk_0 (fun _ h9 => h9) rfl (by decide +kernel) rfl rfl (Nat.le_of_ble_eq_true rfl) dX4_cutTo_2 (fun H locs hP hD hS => ?_)
  have hP : va_P D vwCl [(q0, .inr (4, [v0_equations, v0_yes, v0_no, .int x1, .int f0_clauseCount, v0_equationsBefore, v0_clausesBefore, v0_levelCount]))] H := hP
  have hD : va_D A [(q0, .inr (4, [v0_equations, v0_yes, v0_no, .int x1, .int f0_clauseCount, v0_equationsBefore, v0_clausesBefore, v0_levelCount]))] := hD
  refine lv_aload_n hx hb dX4_cutTo_5 rfl (lv_at hl 0 rfl) ?_
  refine lv_iload_n hx hb dX4_cutTo_6 rfl (lv_at hl 2 rfl) ?_
  refine va_put (D := D) (ci := 4) (v := .int x2) (ty := .int) (C := RX4) (T := TX4) (N := 8) hx hb hts in_X4_cutTo_X4 tyX4 tyX4_ok nmX4 hown hK hP hD hS 0 rfl rfl 4 (by decide) lk_1 (fun _ h9 => h9) rfl (by decide +kernel) rfl rfl (Nat.le_of_ble_eq_true rfl) dX4_cutTo_7 (fun H locs hP hD hS => ?_)
  have hP : va_P D vwCl [(q0, .inr (4, [v0_equations, v0_yes, v0_no, .int x1, .int x2, v0_equationsBefore, v0_clausesBefore, v0_levelCount]))] H := hP
  have hD : va_D A [(q0, .inr (4, [v0_equations, v0_yes, v0_no, .int x1, .int x2, v0_equationsBefore, v0_clausesBefore, v0_levelCount]))] := hD
  have h := Option.some.inj h
  subst h
  subst hQ
  exact W.vret hx hb hr (fun t ht hW => ⟨⟨(), rfl, trivial, by rw [ht]; exact hP, hD⟩, hS.F ht⟩) hS.2.2 dX4_cutTo_10
