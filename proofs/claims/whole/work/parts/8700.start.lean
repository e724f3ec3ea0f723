theorem law_EV {s : State} {args : Array Value} (hts : ∀ w ∈ lw_tbl, w.before args s = true) : ∃ (D : va_G) (cI cL : ClassId), EV D cI cL s := by
  obtain ⟨cX0, iX0, kX0⟩ := u_known (C := RX0) (T := TX0) (N := 3) (n := 3) hts wl_wsX00 (hts (.instantiable RX0 3) (by decide +kernel))
  obtain ⟨cX1, iX1, kX1⟩ := u_known (C := RX1) (T := TX1) (N := 2) (n := 2) hts wl_wsX10 (hts (.instantiable RX1 2) (by decide +kernel))
  obtain ⟨cX2, iX2, kX2⟩ := u_known (C := RX2) (T := TX2) (N := 3) (n := 3) hts wl_wsX20 (hts (.instantiable RX2 3) (by decide +kernel))
  obtain ⟨cX3, iX3, kX3⟩ := u_known (C := RX3) (T := TX3) (N := 10) (n := 10) hts wl_wsX30 (hts (.instantiable RX3 10) (by decide +kernel))
  obtain ⟨cX4, iX4, kX4⟩ := u_known (C := RX4) (T := TX4) (N := 8) (n := 8) hts wl_wsX40 (hts (.instantiable RX4 8) (by decide +kernel))
  obtain ⟨cX5, iX5, kX5⟩ := u_known (C := RX5) (T := TX5) (N := 4) (n := 4) hts wl_wsX50 (hts (.instantiable RX5 4) (by decide +kernel))
  obtain ⟨cX6, iX6, kX6⟩ := u_known (C := RX6) (T := TX6) (N := 8) (n := 8) hts wl_wsX60 (hts (.instantiable RX6 8) (by decide +kernel))
  obtain ⟨cX7, iX7, kX7⟩ := u_known (C := RX7) (T := TX7) (N := 14) (n := 14) hts wl_wsX70 (hts (.instantiable RX7 14) (by decide +kernel))
  obtain ⟨cX8, iX8, kX8⟩ := u_known (C := RX8) (T := TX8) (N := 43) (n := 43) hts wl_wsX80 (hts (.instantiable RX8 43) (by decide +kernel))
  obtain ⟨cI, kI, cmI, hI1, hI2, hI3⟩ := Cond.arrayClass_spec (hts (.arrayClass .int) (by decide +kernel))
  obtain ⟨cL, kL, cmL, hL1, hL2, hL3⟩ := Cond.arrayClass_spec (hts (.arrayClass .long) (by decide +kernel))
  refine ⟨(fun k => if k = 0 then cX0 else if k = 1 then cX1 else if k = 2 then cX2 else if k = 3 then cX3 else if k = 4 then cX4 else if k = 5 then cX5 else if k = 6 then cX6 else if k = 7 then cX7 else cX8, fun k => if k = 0 then iX0 else if k = 1 then iX1 else if k = 2 then iX2 else if k = 3 then iX3 else if k = 4 then iX4 else if k = 5 then iX5 else if k = 6 then iX6 else if k = 7 then iX7 else iX8), cI, cL, ⟨fun k q hq => ?_, fun k q hk => ?_⟩, va_Nw.of rfl (hts (.fieldLinkNest RX3 78 "ParityClauses$Taking" "rows" "LParityClauses$Rows;" "ParityClauses") (by decide +kernel)), va_Nw.of rfl (hts (.methodLinkNest RX7 28 yX4_init "ParityClauses") (by decide +kernel)), va_Nw.of rfl (hts (.methodLinkNest RX7 35 yX6_init "ParityClauses") (by decide +kernel)), va_Nw.of rfl (hts (.methodLinkNest RX7 58 yX1_init "ParityClauses") (by decide +kernel)), va_Nw.of rfl (hts (.methodLinkNest RX5 67 yX7_leastPlace "ParityClauses") (by decide +kernel))⟩
  · match k, hq with
    | 0, hq => cases hq; exact kX0
    | 1, hq => cases hq; exact kX1
    | 2, hq => cases hq; exact kX2
    | 3, hq => cases hq; exact kX3
    | 4, hq => cases hq; exact kX4
    | 5, hq => cases hq; exact kX5
    | 6, hq => cases hq; exact kX6
    | 7, hq => cases hq; exact kX7
    | 8, hq => cases hq; exact kX8
    | k + 9, hq => simp [vwCl] at hq
  · match k, hk with
    | 0, hk => cases hk; exact ⟨fun n z => ⟨fun k h => (by cases h), kI, hI2, cmI, hI3⟩, hI1⟩
    | 1, hk => cases hk; exact ⟨fun n z => ⟨fun k h => (by cases h), kL, hL2, cmL, hL3⟩, hL1⟩
    | k + 2, hk => simp at hk
/-- the script's cell, or 0 -/
def PcC (b L : Nat) (xs : Nat → Int32) (av : List Value) (sz : Nat) : Array Value → State → Prop := va_Pc av (fun U => U.heap.size = sz ∧ va_X b L xs U U.heap ∧ b < sz)
theorem PcC_blind {b L : Nat} {xs : Nat → Int32} {av : List Value} {sz : Nat} : FrameBlind (PcC b L xs av sz) := fun a U g mk q => by
  obtain ⟨q0, q1, qX, qb⟩ := q
  exact ⟨q0, q1, va_X.moved (u := U) (U := U.calling g mk a) (Vm.Alike.refl U.vm) qX, qb⟩
abbrev rm_L_cell : Room := { frames := 0, cells := 0, slots := 0, locals := 0 }
set_option maxHeartbeats 4000000 in
set_option maxRecDepth 100000 in
theorem cm_L_cell (l : Launch) (D : va_G) (b L : Nat) (xs : Nat → Int32) (x1 r : Int32) (h1 : nI L ≤ x1 → r = 0) (h2 : ¬ nI L ≤ x1 → vp_in x1 L ∧ r = xs x1.toNatClampNeg) (sz : Nat) : Met l yL_cell wsL_cell rm_L_cell (PcC b L xs [.ref b, .int x1] sz) (QiW D [] r (fun _ : Unit => []) tU sz) 0 0 (va_A [] sz) := by
  refine Met.ofW (cc := cL_cell) (maxL := 2) (ret := (some .int)) (by decide) rfl ?_
  intro p e s m args below meth c s₁ B hml hv
  obtain ⟨hargs, hsz, hX, hbl⟩ := hv
  have hx := B.exec
  have hb := B.bytes
  have hr := B.returns
  have hlocks := B.notSynchronized
  subst hsz
  unfold QiW PoW
  have hbA : ¬ va_A [] s.heap.size b := fun h => by
    rcases h with ⟨k, e, h⟩ | h
    · simp at h
    · omega
  have hent : entryFrame m args 2 = entryFrame m ([.ref b, .int x1] : List Value).toArray 2 := by rw [hargs]
  rw [hent]
  have hS : va_S (va_A [] s.heap.size) s.heap s.heap [] := va_S.rf
  have hl := lv_entry ([.ref b, .int x1]) (n := 2) (Nat.le_of_ble_eq_true rfl)
  rw [lg_entry_eq]
  generalize (lg_sl ([.ref b, .int x1]) ++ List.replicate (2 - (lg_sl ([.ref b, .int x1])).length) Slot.unset).toArray = ls at hl ⊢
  have hl : lv_has ls 2 [(0, .ref b), (1, .int x1)] := hl
  have hP0 : va_P D vwCl [] s.heap := fun k q h => by simp at h
  have hD0 : va_D (va_A [] s.heap.size) [] := ⟨fun i j p q h => by simp at h, fun k q h => by simp at h⟩
  refine lv_iload_n hx hb dL_cell_0 rfl (lv_at hl 1 rfl) ?_
  refine lv_aload_n hx hb dL_cell_1 rfl (lv_at hl 0 rfl) ?_
  refine va_slen hx hb hX hbl hbA hS dL_cell_2 ?_
  refine lv_icmp_ge (tgt := 12) hx hb dL_cell_3 (by decide) (fun c_1 => ?_) (fun c_1 => ?_)
  · have e1 := h1 c_1
    subst e1
    refine lv_iconst (v := (0 : Int32)) hx hb dL_cell_12 (by decide) ?_
    exact W.iret (v := 0) hx hb hr (fun t ht hW => ⟨⟨0, (), rfl, ⟨rfl, trivial⟩, by rw [ht]; exact hP0, hD0⟩, hS.F ht⟩) hS.2.2 dL_cell_13
  · obtain ⟨hin, e1⟩ := h2 c_1
    subst e1
    refine lv_aload_n hx hb dL_cell_6 rfl (lv_at hl 0 rfl) ?_
    refine lv_iload_n hx hb dL_cell_7 rfl (lv_at hl 1 rfl) ?_
    refine va_sld hx hb hX hbl hbA hS hin dL_cell_8 ?_
    refine lv_goto (tgt := 13) hx hb dL_cell_9 (by decide) ?_
    exact W.iret (v := xs x1.toNatClampNeg) hx hb hr (fun t ht hW => ⟨⟨xs x1.toNatClampNeg, (), rfl, ⟨rfl, trivial⟩, by rw [ht]; exact hP0, hD0⟩, hS.F ht⟩) hS.2.2 dL_cell_13
