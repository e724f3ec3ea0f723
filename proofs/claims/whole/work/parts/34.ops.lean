/-! THE SMALL CALLS -/
theorem t32_of (x : Int64) {j : Nat} (hj : j < 32) : t32 x.toInt32 j = tb x j := by
  unfold t32 tb
  rw [Int64.toBitVec_toInt32, BitVec.signExtend_eq_setWidth_of_le _ (by decide), BitVec.getLsbD_setWidth, decide_eq_true hj]
  rfl
theorem t32_ext {x y : Int32} (h : ∀ i, i < 32 → t32 x i = t32 y i) : x = y := Int32.toBitVec_inj.mp (BitVec.eq_of_getLsbD_eq (fun i hi => h i hi))
theorem t32_255 : ∀ i, i < 32 → t32 255 i = decide (i < 8) := by decide +kernel
theorem tb_255 : ∀ i, i < 64 → tb 255 i = decide (i < 8) := by decide +kernel
theorem byte_eq (x : Int64) {i : Nat} (hi : i < 8) : ((jushr x ((8 : Int32) * nI i)).toInt32) &&& (255 : Int32) = ((jshr x ((8 : Int32) * nI i)) &&& (255 : Int64)).toInt32 := by
  rw [show (8 : Int32) * nI i = nI (8 * i) from nI_mul 8 i]
  refine t32_ext (fun j hj => ?_)
  rw [t32_and, t32_of _ hj, t32_of _ hj, tb_and, tb_ushr x (by omega), tb_sshr x (by omega) (by omega), t32_255 j hj, tb_255 j (by omega)]
  by_cases q : j < 8
  · rw [if_pos (by omega)]
  · rw [decide_eq_false q]; simp
theorem byte_ne (x : Int32) : (x &&& (255 : Int32)) ≠ -1 := fun h => by
  have : t32 (x &&& 255) 31 = t32 (-1) 31 := by rw [h]
  rw [t32_and, t32_255 31 (by omega), t32_m1 31 (by omega)] at this
  simp at this
/-- two tapes -/
def TP (L : Nat) (T T8 : Nat → Int32) : Prop := L ≤ 500 ∧ (∀ p, p < L → T8 p = T p) ∧ ∀ p, p < L → T p ≠ -1
theorem TP.add {L : Nat} {T T8 : Nat → Int32} (h : TP L T T8) (hL : L < 500) {b : Int32} (hb : b ≠ -1) : TP (L + 1) (upd T L b) (upd T8 L b) := by
  refine ⟨by omega, fun p hp => ?_, fun p hp => ?_⟩
  · by_cases q : p = L
    · subst q; rw [pk_us, pk_us]
    · rw [pk_un q, pk_un q]; exact h.2.1 p (by omega)
  · by_cases q : p = L
    · subst q; rw [pk_us]; exact hb
    · rw [pk_un q]; exact h.2.2 p (by omega)
theorem feed_loop (x : Int64) (k th : Int32) : ∀ (n L : Nat) (T T8 : Nat → Int32), n ≤ 8 → L + n ≤ 500 → TP L T T8 → ∃ T' T8', L_X7_feed_51 500 x k (nI n - 1) (nI L) T = some (.inl (nI (L + n)), nI (L + n), T') ∧ L_X8_feed_40 500 x k (nI n - 1) th (nI L) T8 = some (nI (L + n), th, nI (L + n), T8') ∧ TP (L + n) T' T8' := by
  intro n
  induction n with
  | zero =>
    intro L T T8 _ hL h
    refine ⟨T, T8, ?_, ?_, h⟩
    · rw [E_X7_feed_51, cif_pos (by decide)]; rfl
    · rw [E_X8_feed_40, cif_pos (by decide)]; rfl
  | succ n ih =>
    intro L T T8 hn hL h
    obtain ⟨T', T8', e1, e2, h'⟩ := ih (L + 1) _ _ (by omega) (by omega) (h.add (by omega) (byte_ne (jushr x ((8 : Int32) * nI n)).toInt32))
    have em : nI n + (-1 : Int32) = nI n - 1 := (Int32.sub_eq_add_neg _ _).symm
    refine ⟨T', T8', ?_, ?_, by rw [show L + (n + 1) = L + 1 + n by omega]; exact h'⟩
    · rw [nI_pred, E_X7_feed_51, cif_neg (nI_pos (by omega))]
      have ep : D_X6_put (nI L) 500 T ((jushr x ((8 : Int32) * nI n)).toInt32 &&& 255) = some (nI (L + 1), upd T L ((jushr x ((8 : Int32) * nI n)).toInt32 &&& 255)) := by
        unfold D_X6_put
        rw [cif_neg (show ¬ (500 : Int32) ≤ nI L from nI_ge (b := 500) (by omega) (by omega)), cif_pos (vp_in_nI (by omega) (by omega)), nI_clamp (by omega), nI_1]
      rw [ep, Option.bind_some, em, show L + (n + 1) = L + 1 + n by omega]
      exact e1
    · rw [nI_pred, E_X8_feed_40, cif_neg (nI_pos (by omega)), cif_pos (vp_in_nI (show L < 500 by omega) (by omega)), nI_clamp (by omega), nI_1, em, ← byte_eq x (show n < 8 by omega), show L + (n + 1) = L + 1 + n by omega]
      exact e2
theorem feed_eq {L : Nat} {T T8 : Nat → Int32} (h : TP L T T8) (th : Int32) (x : Int64) (k : Int32) : ∃ r s L', D_X7_feed (nI L) 500 T x k = some r ∧ D_X8_feed th (nI L) 500 T8 x k = some s ∧ r.2.1 = nI L' ∧ s.2.2.1 = nI L' ∧ TP L' r.2.2 s.2.2.2 ∧ ((r.1 = .inr 0 ∧ s.2.1 = 1) ∨ (r.1 = .inr 1 ∧ s.2.1 = 2) ∨ (r.1 = .inl s.1 ∧ s.2.1 = 0)) := by
  have hL := h.1
  unfold D_X7_feed D_X8_feed
  by_cases hk : ¬ k < 1 ∧ ¬ 8 < k
  · rw [cif_neg hk.1, cif_pos (i_le_of hk.2), show D_X8_isIn k.toInt64 1 8 = some true from isIn_yes (a := 1) (b := 8) hk.1 hk.2, Option.bind_some]
    obtain ⟨j, hj, rfl⟩ := nI_of2 (x := k) (M := 8) (n := 8) (by decide) (fun z => hk.1 (by
      rw [Int32.lt_iff_toInt_lt] at z ⊢
      have a : (0 : Int32).toInt = 0 := by decide
      have b : (1 : Int32).toInt = 1 := by decide
      omega)) (i_le_of hk.2)
    rw [nI_add]
    by_cases hf : L + j ≤ 500
    · obtain ⟨T', T8', e1, e2, h'⟩ := feed_loop x (nI j) 0 j L T T8 hj hf h
      rw [cif_pos (show nI (L + j) ≤ (500 : Int32) from nI_le (b := 500) hf (by omega)), cif_neg (show ¬ (500 : Int32) < nI (L + j) from nI_nlt (a := 500) hf (by omega)), may_tt, Option.bind_some, cif_pos rfl]
      exact ⟨_, _, L + j, e1, e2, rfl, rfl, h', Or.inr (Or.inr ⟨rfl, rfl⟩)⟩
    · rw [cif_neg (show ¬ nI (L + j) ≤ (500 : Int32) from nI_ge (a := 500) (by omega) (by omega)), cif_pos (show (500 : Int32) < nI (L + j) from nI_lt (a := 500) (by omega) (by omega)), may_tf, Option.bind_some, cif_neg (by simp)]
      exact ⟨_, _, L, rfl, rfl, rfl, rfl, h, Or.inr (Or.inl ⟨rfl, rfl⟩)⟩
  · have e8 : D_X8_isIn k.toInt64 1 8 = some false := isIn_no (a := 1) (b := 8) hk
    have er : ∃ s, (Option.bind (D_X8_isIn k.toInt64 1 8) (fun u_1 =>
    cif ((500 : Int32) < (nI L + k))
      (Option.bind (D_X8_may th u_1 false) (fun u_5 =>
        cif (u_5.1 = true)
          (L_X8_feed_40 500 x k (k - (1 : Int32)) u_5.2 (nI L) T8)
          (some ((0 : Int32), u_5.2, (nI L), T8))))
      (Option.bind (D_X8_may th u_1 true) (fun u_9 =>
        cif (u_9.1 = true)
          (L_X8_feed_40 500 x k (k - (1 : Int32)) u_9.2 (nI L) T8)
          (some ((0 : Int32), u_9.2, (nI L), T8)))))) = some s ∧ s = (0, 1, nI L, T8) := by
      rw [e8, Option.bind_some, may_f, may_f]
      simp only [Option.bind_some, cif_neg (show ¬ (false, (1 : Int32)).1 = true by simp), cif_neg (show ¬ false = true by simp), cif_neg (show ¬ False from fun h => h)]
      by_cases q : (500 : Int32) < (nI L + k)
      · rw [cif_pos q]; exact ⟨_, rfl, rfl⟩
      · rw [cif_neg q]; exact ⟨_, rfl, rfl⟩
    obtain ⟨s, es, hs⟩ := er
    subst hs
    rw [es]
    by_cases q : k < 1
    · rw [cif_pos q]
      exact ⟨_, _, L, rfl, rfl, rfl, rfl, h, Or.inl ⟨rfl, rfl⟩⟩
    · rw [cif_neg q, cif_neg (fun z => hk ⟨q, Int32.not_lt.mpr z⟩)]
      exact ⟨_, _, L, rfl, rfl, rfl, rfl, h, Or.inl ⟨rfl, rfl⟩⟩
section OPS
variable {N c m : Nat} {E Y Z F : Nat → Int64} {G : Nat → Int32} {Gb : Nat → Bool} {Y8 Z8 : Nat → Int64}
theorem Rel.addE (hr : Rel N c m E Y Z F G Gb Y8 Z8) (hc : c < 60) {x : Int64} (hx : Lo N x) (b : Bool) : Rel N (c + 1) m (vp_updL E c (comb x b)) Y Z (vp_updL F c x) (upd G c (bI b)) (fun j => if j = c then b else Gb j) Y8 Z8 := by
  refine ⟨hr.1, ⟨by omega, hr.hm⟩, fun j hj => ?_, ⟨by omega, fun j hj => ?_⟩, hr.hY, hr.hC8⟩
  · show _ = comb (vp_updL F c x j) (if j = c then b else Gb j)
    by_cases q : j = c
    · subst q; rw [pk_uLs, pk_uLs, if_pos rfl]
    · rw [pk_uLn q, pk_uLn q, if_neg q]; exact hr.hE j (by omega)
  · by_cases q : j = c
    · subst q; simp only [pk_uLs, pk_us, if_pos]; exact ⟨hx, trivial⟩
    · simp only [pk_uLn q, pk_un q, if_neg q]; exact hr.h8.2 j (by omega)
theorem Rel.addC (hr : Rel N c m E Y Z F G Gb Y8 Z8) (hm : m < 60) {x y : Int64} (hx : Lo N x) (hy : Lo N y) (hxy : (x &&& y) = 0) : Rel N c (m + 1) E (vp_updL Y m x) (vp_updL Z m y) F G Gb (vp_updL Y8 m x) (vp_updL Z8 m y) := by
  refine ⟨hr.1, ⟨hr.hc, by omega⟩, hr.hE, hr.h8, fun j hj => ?_, fun j hj => ?_⟩
  · by_cases q : j = m
    · subst q; simp only [pk_uLs]; exact ⟨trivial, trivial⟩
    · simp only [pk_uLn q]; exact hr.hY j (by omega)
  · by_cases q : j = m
    · subst q; simp only [pk_uLs]; exact ⟨hx, hy, and_zero.mp hxy⟩
    · simp only [pk_uLn q]; exact hr.hC8 j (by omega)
theorem Rel.cut (hr : Rel N c m E Y Z F G Gb Y8 Z8) {c' m' : Nat} (hc : c' ≤ c) (hm : m' ≤ m) : Rel N c' m' E Y Z F G Gb Y8 Z8 := by
  have := hr.hc
  have := hr.hm
  exact ⟨hr.1, ⟨by omega, by omega⟩, fun j hj => hr.hE j (by omega), ⟨by omega, fun j hj => hr.h8.2 j (by omega)⟩, fun j hj => hr.hY j (by omega), fun j hj => hr.hC8 j (by omega)⟩
theorem one_of {y : Int32} (h : ¬ y < 0 ∧ ¬ 1 < y) : y = 1 ∨ y = 0 := by
  obtain ⟨j, hj, rfl⟩ := nI_of2 (x := y) (M := 1) (n := 1) (by decide) h.1 (i_le_of h.2)
  rcases (show j = 1 ∨ j = 0 by omega) with q | q <;> subst q
  · exact Or.inl rfl
  · exact Or.inr rfl
theorem comb_f (x : Int64) : comb x false = x := by unfold comb; rw [if_neg (by simp), or_zero]
theorem equation_eq (hr : Rel N c m E Y Z F G Gb Y8 Z8) (rf gf : Bool) (th : Int32) (x : Int64) (y : Int32) : ∃ r s c' Gb', D_X7_equation (vars N) rf gf (nI c) 60 E x y = some r ∧ D_X8_equation th (nI N) (nI c) 60 F 60 G x y = some s ∧ r.2.2.2.1 = nI c' ∧ s.2.2.1 = nI c' ∧ c ≤ c' ∧ Rel N c' m r.2.2.2.2 Y Z s.2.2.2.1 s.2.2.2.2 Gb' Y8 Z8 ∧
    (∀ imp R, Fresh N E c rf imp R → Fresh N r.2.2.2.2 c' r.2.1 imp R) ∧ (r.2.2.1 = true → gf = true) ∧ ((r.1 = .inr 0 ∧ s.2.1 = 1) ∨ (r.1 = .inr 1 ∧ s.2.1 = 2) ∨ (r.1 = .inl s.1 ∧ s.2.1 = 0)) := by
  have hN := hr.hN
  have hc := hr.hc
  unfold D_X7_equation D_X7_areVariables vars
  have ba : ∀ b z, D_X8_may th false b = some z → z = (false, 1) := fun b z hz => by rw [may_f] at hz; exact (Option.some.inj hz).symm
  by_cases hx : Lo N x
  · rw [cif_pos ((isVars hN x).mpr hx), Option.bind_some, cif_pos rfl]
    unfold D_X8_equation
    rw [there_yes hN hx, Option.bind_some, cif_pos rfl]
    by_cases hy : ¬ y < 0 ∧ ¬ 1 < y
    · rw [show D_X8_isIn y.toInt64 0 1 = some true from isIn_yes (a := 0) (b := 1) hy.1 hy.2, Option.bind_some, cif_pos rfl, cif_neg hy.1, cif_pos (i_le_of hy.2)]
      by_cases h60 : c = 60
      · subst h60
        rw [cif_neg (show ¬ nI 60 < (60 : Int32) by decide), cif_pos (show (60 : Int32) ≤ nI 60 by decide), may_tf, Option.bind_some, cif_neg (by simp)]
        exact ⟨_, _, 60, Gb, rfl, rfl, rfl, rfl, Nat.le_refl 60, hr, fun _ _ h => h, fun h => h, Or.inr (Or.inl ⟨rfl, rfl⟩)⟩
      · have hlt : c < 60 := by omega
        have ha : ∀ z, D_X4_addEquation (nI c) 60 E z = some (true, nI (c + 1), vp_updL E c z) := fun z => by
          unfold D_X4_addEquation
          rw [cif_pos (show nI c < (60 : Int32) from nI_lt (b := 60) hlt (by omega)), cif_pos (vp_in_nI hlt (by omega)), nI_clamp (by omega), nI_1]
        rw [cif_pos (show nI c < (60 : Int32) from nI_lt (b := 60) hlt (by omega)), cif_neg (show ¬ (60 : Int32) ≤ nI c from nI_ge (b := 60) hlt (by omega)), may_tt, Option.bind_some, cif_pos rfl, cif_pos (vp_in_nI hlt (by omega)), cif_pos (vp_in_nI hlt (by omega)), nI_clamp (by omega), nI_1]
        unfold D_X7_forget
        rw [Option.bind_some]
        rcases one_of hy with z | z
        · subst z
          rw [cif_pos rfl, ha, Option.bind_some]
          exact ⟨_, _, c + 1, _, rfl, rfl, rfl, rfl, by omega, hr.addE hlt hx true, fun _ _ _ q => (by cases q), fun q => (by cases q), Or.inr (Or.inr ⟨rfl, rfl⟩)⟩
        · subst z
          rw [cif_neg (by decide), ha, Option.bind_some]
          refine ⟨_, _, c + 1, (fun j => if j = c then false else Gb j), rfl, rfl, rfl, rfl, by omega, ?_, fun _ _ _ q => (by cases q), fun q => (by cases q), Or.inr (Or.inr ⟨rfl, rfl⟩)⟩
          have := hr.addE hlt hx false
          rw [comb_f] at this
          exact this
    · rw [show D_X8_isIn y.toInt64 0 1 = some false from isIn_no (a := 0) (b := 1) hy, Option.bind_some, cif_neg (show ¬ false = true by simp), may_f, may_f]
      simp only [Option.bind_some, cif_neg (show ¬ (false, (1 : Int32)).1 = true by simp), cif_neg (show ¬ false = true by simp), cif_neg (show ¬ False from fun h => h)]
      have e2 : (cif ((60 : Int32) ≤ nI c) (some ((0 : Int32), (1 : Int32), nI c, F, G)) (some ((0 : Int32), (1 : Int32), nI c, F, G))) = some ((0 : Int32), (1 : Int32), nI c, F, G) := by
        by_cases q : (60 : Int32) ≤ nI c
        · rw [cif_pos q]
        · rw [cif_neg q]
      by_cases q : y < 0
      · rw [cif_pos q]
        exact ⟨_, _, c, Gb, rfl, e2, rfl, rfl, Nat.le_refl c, hr, fun _ _ h => h, fun h => h, Or.inl ⟨rfl, rfl⟩⟩
      · rw [cif_neg q, cif_neg (fun z => hy ⟨q, Int32.not_lt.mpr z⟩)]
        exact ⟨_, _, c, Gb, rfl, e2, rfl, rfl, Nat.le_refl c, hr, fun _ _ h => h, fun h => h, Or.inl ⟨rfl, rfl⟩⟩
  · unfold D_X8_equation
    rw [cif_neg (fun z => hx ((isVars hN x).mp z)), Option.bind_some, cif_neg (by simp), there_no hN hx, Option.bind_some, cif_neg (show ¬ false = true by simp), may_f, may_f]
    simp only [Option.bind_some, cif_neg (show ¬ (false, (1 : Int32)).1 = true by simp), cif_neg (show ¬ false = true by simp), cif_neg (show ¬ False from fun h => h)]
    have e2 : (cif ((60 : Int32) ≤ nI c) (some ((0 : Int32), (1 : Int32), nI c, F, G)) (some ((0 : Int32), (1 : Int32), nI c, F, G))) = some ((0 : Int32), (1 : Int32), nI c, F, G) := by
      by_cases q : (60 : Int32) ≤ nI c
      · rw [cif_pos q]
      · rw [cif_neg q]
    exact ⟨_, _, c, Gb, rfl, e2, rfl, rfl, Nat.le_refl c, hr, fun _ _ h => h, fun h => h, Or.inl ⟨rfl, rfl⟩⟩
theorem clause_eq (hr : Rel N c m E Y Z F G Gb Y8 Z8) (rf gf : Bool) (th : Int32) (x y : Int64) : ∃ r s m', D_X7_clause (vars N) rf gf (nI m) 60 Y 60 Z x y = some r ∧ D_X8_clause th (nI N) (nI m) 60 Y8 60 Z8 x y = some s ∧ r.2.2.2.1 = nI m' ∧ s.2.2.1 = nI m' ∧ m ≤ m' ∧ Rel N c m' E r.2.2.2.2.1 r.2.2.2.2.2 F G Gb s.2.2.2.1 s.2.2.2.2 ∧
    (r.2.1 = true → rf = true) ∧ (∀ sz fo, GS m Y8 Z8 gf sz fo → GS m' s.2.2.2.1 s.2.2.2.2 r.2.2.1 sz fo) ∧ ((r.1 = .inr 0 ∧ s.2.1 = 1) ∨ (r.1 = .inr 1 ∧ s.2.1 = 2) ∨ (r.1 = .inl s.1 ∧ s.2.1 = 0)) := by
  have hN := hr.hN
  have hm := hr.hm
  unfold D_X7_clause D_X8_clause
  have e2 : (cif ((60 : Int32) ≤ nI m) (some ((0 : Int32), (1 : Int32), nI m, Y8, Z8)) (some ((0 : Int32), (1 : Int32), nI m, Y8, Z8))) = some ((0 : Int32), (1 : Int32), nI m, Y8, Z8) := by
    by_cases q : (60 : Int32) ≤ nI m
    · rw [cif_pos q]
    · rw [cif_neg q]
  have nf : ¬ (false, (1 : Int32)).1 = true := by simp
  by_cases h : Lo N x ∧ Lo N y ∧ (x &&& y) = 0
  · obtain ⟨hx, hy, hxy⟩ := h
    rw [two_yes hN hx hy hxy, Option.bind_some, cif_pos rfl, there_yes hN hx, Option.bind_some, cif_pos rfl, there_yes hN hy, Option.bind_some, cif_pos rfl, cif_pos hxy]
    by_cases h60 : m = 60
    · subst h60
      rw [cif_neg (show ¬ nI 60 < (60 : Int32) by decide), cif_pos (show (60 : Int32) ≤ nI 60 by decide), may_tf, Option.bind_some, cif_neg (by simp)]
      exact ⟨_, _, 60, rfl, rfl, rfl, rfl, Nat.le_refl 60, hr, fun h => h, fun _ _ h => h, Or.inr (Or.inl ⟨rfl, rfl⟩)⟩
    · have hlt : m < 60 := by omega
      unfold D_X7_forget D_X4_addClause
      rw [cif_pos (show nI m < (60 : Int32) from nI_lt (b := 60) hlt (by omega)), Option.bind_some, cif_pos (show nI m < (60 : Int32) from nI_lt (b := 60) hlt (by omega)), cif_neg (show ¬ (60 : Int32) ≤ nI m from nI_ge (b := 60) hlt (by omega)), may_tt, Option.bind_some, cif_pos rfl]
      simp only [cif_pos (vp_in_nI hlt (show 60 < 2 ^ 31 by omega)), nI_clamp (show m < 2 ^ 31 by omega), nI_1, Option.bind_some]
      exact ⟨_, _, m + 1, rfl, rfl, rfl, rfl, by omega, hr.addC hlt hx hy hxy, fun q => (by cases q), fun _ _ _ q => (by cases q), Or.inr (Or.inr ⟨rfl, rfl⟩)⟩
  · rw [two_no hN h, Option.bind_some, cif_neg (by simp)]
    by_cases hx : Lo N x
    · by_cases hy : Lo N y
      · have hz : ¬ (x &&& y) = 0 := fun z => h ⟨hx, hy, z⟩
        rw [there_yes hN hx, Option.bind_some, cif_pos rfl, there_yes hN hy, Option.bind_some, cif_pos rfl, cif_neg hz, may_f, may_f]
        simp only [Option.bind_some, cif_neg (show ¬ (false, (1 : Int32)).1 = true by simp), cif_neg (show ¬ false = true by simp), cif_neg (show ¬ False from fun h => h)]
        exact ⟨_, _, m, rfl, e2, rfl, rfl, Nat.le_refl m, hr, fun h => h, fun _ _ h => h, Or.inl ⟨rfl, rfl⟩⟩
      · rw [there_yes hN hx, Option.bind_some, cif_pos rfl, there_no hN hy, Option.bind_some, cif_neg (show ¬ false = true by simp), may_f, may_f]
        simp only [Option.bind_some, cif_neg (show ¬ (false, (1 : Int32)).1 = true by simp), cif_neg (show ¬ false = true by simp), cif_neg (show ¬ False from fun h => h)]
        exact ⟨_, _, m, rfl, e2, rfl, rfl, Nat.le_refl m, hr, fun h => h, fun _ _ h => h, Or.inl ⟨rfl, rfl⟩⟩
    · rw [there_no hN hx, Option.bind_some, cif_neg (show ¬ false = true by simp), may_f, may_f]
      simp only [Option.bind_some, cif_neg (show ¬ (false, (1 : Int32)).1 = true by simp), cif_neg (show ¬ false = true by simp), cif_neg (show ¬ False from fun h => h)]
      exact ⟨_, _, m, rfl, e2, rfl, rfl, Nat.le_refl m, hr, fun h => h, fun _ _ h => h, Or.inl ⟨rfl, rfl⟩⟩
/-- levels -/
def Lev (lv c m : Nat) (EB CB LE LC : Nat → Int32) : Prop := lv ≤ 20 ∧ ∃ eN kN : Nat → Nat, (∀ i, i < lv → EB i = nI (eN i) ∧ LE i = nI (eN i) ∧ CB i = nI (kN i) ∧ LC i = nI (kN i) ∧ eN i ≤ c ∧ kN i ≤ m) ∧ ∀ i j, i < j → j < lv → eN i ≤ eN j ∧ kN i ≤ kN j
theorem Lev.up {lv c' m' : Nat} {EB CB LE LC : Nat → Int32} (h : Lev lv c m EB CB LE LC) (hc : c ≤ c') (hm : m ≤ m') : Lev lv c' m' EB CB LE LC := by
  obtain ⟨h1, eN, kN, h2, h3⟩ := h
  exact ⟨h1, eN, kN, fun i hi => by obtain ⟨a, b, d, e, f, g⟩ := h2 i hi; exact ⟨a, b, d, e, by omega, by omega⟩, h3⟩
theorem push_eq {lv : Nat} {EB CB LE LC : Nat → Int32} (hc : c ≤ 60) (hm : m ≤ 60) (h : Lev lv c m EB CB LE LC) (th : Int32) : ∃ r s lv', D_X7_push (nI c) (nI m) (nI lv) 20 EB 20 CB = some r ∧ D_X8_push th (nI c) (nI m) (nI lv) 20 LE 20 LC = some s ∧ r.2.1 = nI lv' ∧ s.2.2.1 = nI lv' ∧ Lev lv' c m r.2.2.1 r.2.2.2 s.2.2.2.1 s.2.2.2.2 ∧ ((r.1 = .inr 1 ∧ s.2.1 = 1) ∨ (r.1 = .inl s.1 ∧ s.2.1 = 0)) := by
  have h1 := h.1
  unfold D_X7_push D_X8_push
  by_cases h20 : lv = 20
  · subst h20
    rw [cif_neg (show ¬ nI 20 < (20 : Int32) by decide), cif_pos (show (20 : Int32) ≤ nI 20 by decide), may_f, Option.bind_some, cif_neg (by simp)]
    exact ⟨_, _, 20, rfl, rfl, rfl, rfl, h, Or.inl ⟨rfl, rfl⟩⟩
  · have hlt : lv < 20 := by omega
    unfold D_X4_addLevel
    rw [cif_pos (show nI lv < (20 : Int32) from nI_lt (b := 20) hlt (by omega)), cif_neg (show ¬ (20 : Int32) ≤ nI lv from nI_ge (b := 20) hlt (by omega)), cif_neg (show ¬ (20 : Int32) ≤ nI lv from nI_ge (b := 20) hlt (by omega)), may_tt, Option.bind_some, cif_pos rfl]
    simp only [cif_pos (vp_in_nI hlt (show 20 < 2 ^ 31 by omega)), nI_clamp (show lv < 2 ^ 31 by omega), nI_1, Option.bind_some]
    obtain ⟨-, eN, kN, h2, h3⟩ := h
    refine ⟨_, _, lv + 1, rfl, rfl, rfl, rfl, ⟨by omega, (fun i => if i = lv then c else eN i), (fun i => if i = lv then m else kN i), fun i hi => ?_, fun i j hij hj => ?_⟩, Or.inr ⟨rfl, rfl⟩⟩
    · by_cases q : i = lv
      · subst q; simp only [pk_us, if_pos]; exact ⟨trivial, trivial, trivial, trivial, Nat.le_refl c, Nat.le_refl m⟩
      · simp only [pk_un q, if_neg q]; exact h2 i (by omega)
    · have hi : i ≠ lv := by omega
      by_cases q : j = lv
      · simp only [if_neg hi, if_pos q]
        obtain ⟨_, _, _, _, f, g⟩ := h2 i (by omega)
        exact ⟨f, g⟩
      · simp only [if_neg hi, if_neg q]; exact h3 i j hij (by omega)
theorem pop_eq {lv : Nat} {EB CB LE LC : Nat → Int32} (hc : c ≤ 60) (hm : m ≤ 60) (h : Lev lv c m EB CB LE LC) (rf gf : Bool) (th : Int32) (x : Int32) : ∃ r s lv' c' m', D_X7_pop rf gf (nI c) (nI m) (nI lv) 20 EB 20 CB x = some r ∧ D_X8_pop th (nI c) (nI m) (nI lv) 20 LE 20 LC x = some s ∧ c' ≤ c ∧ m' ≤ m ∧ r.2.2.2.1 = nI c' ∧ s.2.2.1 = nI c' ∧ r.2.2.2.2.1 = nI m' ∧ s.2.2.2.1 = nI m' ∧ r.2.2.2.2.2 = nI lv' ∧ s.2.2.2.2 = nI lv' ∧ Lev lv' c' m' EB CB LE LC ∧
    ((r.2.1 = rf ∧ r.2.2.1 = gf ∧ c' = c ∧ m' = m) ∨ (r.2.1 = false ∧ r.2.2.1 = false)) ∧ ((r.1 = .inr 0 ∧ s.2.1 = 1) ∨ (r.1 = .inl s.1 ∧ s.2.1 = 0)) := by
  have h1 := h.1
  unfold D_X7_pop D_X8_pop
  by_cases hx : ¬ x < 0 ∧ ¬ nI lv < x
  · obtain ⟨k, hk, rfl⟩ := nI_of2 (x := x) (M := nI lv) (n := lv) (nI_toInt (by omega)) hx.1 (i_le_of hx.2)
    rw [show D_X8_isIn (nI k).toInt64 0 (nI lv).toInt64 = some true from isIn_yes (a := 0) hx.1 hx.2, Option.bind_some, may_tt, Option.bind_some, cif_pos rfl, cif_neg hx.1, cif_pos (i_le_of hx.2), nI_sub hk]
    unfold D_X4_takeBackTo D_X7_forget D_X4_cutTo
    rw [cif_neg (nI_pos (show lv - k < 2 ^ 31 by omega))]
    cases k with
    | zero =>
      rw [cif_pos (show nI lv ≤ nI (lv - 0) from nI_le (Nat.le_refl lv) (by omega)), Option.bind_some, Option.bind_some, cif_pos (show nI 0 ≤ 0 by decide)]
      exact ⟨_, _, lv, c, m, rfl, rfl, Nat.le_refl c, Nat.le_refl m, rfl, rfl, rfl, rfl, rfl, rfl, h, Or.inr ⟨rfl, rfl⟩, Or.inr ⟨rfl, rfl⟩⟩
    | succ k =>
      have hlt : lv - (k + 1) < lv := by omega
      obtain ⟨-, eN, kN, h2, h3⟩ := h
      obtain ⟨a1, a2, a3, a4, a5, a6⟩ := h2 _ hlt
      rw [cif_neg (nI_ge hlt (by omega)), cif_neg (nI_nle (Nat.succ_pos k) (by omega))]
      simp only [cif_pos (vp_in_nI (show lv - (k + 1) < 20 by omega) (show 20 < 2 ^ 31 by omega)), nI_clamp (show lv - (k + 1) < 2 ^ 31 by omega), Option.bind_some, a1, a2, a3, a4]
      refine ⟨_, _, lv - (k + 1), eN (lv - (k + 1)), kN (lv - (k + 1)), rfl, rfl, a5, a6, rfl, rfl, rfl, rfl, rfl, rfl, ⟨by omega, eN, kN, fun i hi => ?_, fun i j hij hj => h3 i j hij (by omega)⟩, Or.inr ⟨rfl, rfl⟩, Or.inr ⟨rfl, rfl⟩⟩
      obtain ⟨b1, b2, b3, b4, -, -⟩ := h2 i (by omega)
      exact ⟨b1, b2, b3, b4, (h3 i _ hi hlt).1, (h3 i _ hi hlt).2⟩
  · rw [show D_X8_isIn x.toInt64 0 (nI lv).toInt64 = some false from isIn_no (a := 0) hx, Option.bind_some, may_f, Option.bind_some, cif_neg (show ¬ (false, (1 : Int32)).1 = true by simp)]
    by_cases q : x < 0
    · rw [cif_pos q]
      exact ⟨_, _, lv, c, m, rfl, rfl, Nat.le_refl c, Nat.le_refl m, rfl, rfl, rfl, rfl, rfl, rfl, h, Or.inl ⟨rfl, rfl, rfl, rfl⟩, Or.inl ⟨rfl, rfl⟩⟩
    · rw [cif_neg q, cif_neg (fun z => hx ⟨q, Int32.not_lt.mpr z⟩)]
      exact ⟨_, _, lv, c, m, rfl, rfl, Nat.le_refl c, Nat.le_refl m, rfl, rfl, rfl, rfl, rfl, rfl, h, Or.inl ⟨rfl, rfl, rfl, rfl⟩, Or.inl ⟨rfl, rfl⟩⟩
theorem idx {n : Nat} (hn : n ≤ 60) (x : Int32) : (∃ i, i < n ∧ x = nI i ∧ D_X8_isIn x.toInt64 0 ((nI n) - 1).toInt64 = some true) ∨ ((x < 0 ∨ ¬ x < nI n) ∧ D_X8_isIn x.toInt64 0 ((nI n) - 1).toInt64 = some false) := by
  by_cases hx : x < 0
  · exact Or.inr ⟨Or.inl hx, isIn_lo (x := x) (a := 0) hx⟩
  · obtain ⟨i, hi, rfl⟩ := nI_of hx
    rcases Nat.lt_or_ge i n with q | q
    · refine Or.inl ⟨i, q, rfl, ?_⟩
      obtain ⟨k', rfl⟩ : ∃ k', n = k' + 1 := ⟨n - 1, by omega⟩
      rw [nI_pred]
      exact isIn_yes (a := 0) (nI_pos hi) (nI_nlt (by omega) (by omega))
    · refine Or.inr ⟨Or.inr (nI_nlt q hi), ?_⟩
      refine isIn_no (a := 0) (fun z => z.2 ?_)
      cases n with
      | zero =>
        rw [Int32.lt_iff_toInt_lt, nI_toInt hi]
        have : (nI 0 - 1).toInt = -1 := by decide
        omega
      | succ k' => rw [nI_pred]; exact nI_lt (by omega) hi
theorem told_eq (hr : Rel N c m E Y Z F G Gb Y8 Z8) (th : Int32) (x y : Int32) : ∃ r s, D_X7_told (nI c) (nI m) 60 E 60 Y 60 Z x y = some r ∧ D_X8_told th (nI c) (nI m) 60 F 60 G 60 Y8 60 Z8 x y = some s ∧ ((r = .inr 2 ∧ s.2 = 1) ∨ (r = .inr 0 ∧ s.2 = 2) ∨ (r = .inl s.1 ∧ s.2 = 0)) := by
  have hN := hr.hN
  have hc := hr.hc
  have hm := hr.hm
  unfold D_X7_told D_X8_told
  by_cases hy : ¬ y < 0 ∧ ¬ 3 < y
  · obtain ⟨k, hk, rfl⟩ := nI_of2 (x := y) (M := 3) (n := 3) (by decide) hy.1 (i_le_of hy.2)
    rw [show D_X8_isIn (nI k).toInt64 0 3 = some true from isIn_yes (a := 0) (b := 3) hy.1 hy.2, Option.bind_some, cif_pos rfl, cif_neg hy.1, cif_pos (i_le_of hy.2)]
    have ti : ∀ j : Int, (nI k).toInt = j ↔ (k : Int) = j := fun j => by rw [nI_toInt (by omega)]
    rcases Nat.lt_or_ge k 2 with hk2 | hk2
    · rw [cif_neg (show ¬ (2 : Int32) ≤ nI k from nI_ge (b := 2) hk2 (by omega)), cif_neg (show ¬ (2 : Int32) ≤ nI k from nI_ge (b := 2) hk2 (by omega))]
      rcases idx hc x with ⟨i, hi, rfl, e⟩ | ⟨hx, e⟩
      · have vp : vp_in (nI i) 60 := vp_in_nI (by omega) (by omega)
        have hEi := hr.hE i hi
        obtain ⟨hF, hG⟩ := hr.h8.2 i hi
        rw [e, Option.bind_some, cif_pos rfl, may_tt, Option.bind_some, cif_pos rfl, cif_neg (nI_pos (show i < 2 ^ 31 by omega)), cif_pos (nI_lt hi (by omega)), nI_clamp (by omega)]
        simp only [cif_pos vp]
        rcases (show k = 0 ∨ k = 1 by omega) with z | z
        · subst z
          rw [cif_pos ((ti 0).mpr rfl), cif_pos (show nI 0 = 0 from rfl)]
          refine ⟨_, _, rfl, rfl, Or.inr (Or.inr ⟨?_, rfl⟩)⟩
          rw [hEi]
          show Sum.inl (comb (F i) (Gb i) &&& _) = Sum.inl (F i)
          congr 1
          refine tb_ext (fun j hj => ?_)
          rw [tb_and, comb_tb, tb_nR hj]
          by_cases w : j = 62
          · rw [w, hF 62 (by omega)]; simp
          · rw [decide_eq_false w, decide_eq_true w]; simp
        · subst z
          rw [cif_neg (fun w => by have := (ti 0).mp w; omega), cif_pos ((ti 1).mpr rfl), cif_neg (show ¬ nI 1 = 0 by decide), cif_pos (show nI 1 = 1 from rfl), hG]
          have h62 : tb (E i) 62 = Gb i := by rw [hEi]; exact comb_62 hN hF _
          cases b : Gb i with
          | false =>
            rw [cif_pos (show (E i &&& 4611686018427387904) = 0 from (hi_and (x := E i) (h := 62) (by omega)).mpr (h62.trans b))]
            exact ⟨_, _, rfl, rfl, Or.inr (Or.inr ⟨rfl, rfl⟩)⟩
          | true =>
            rw [cif_neg (fun w => by rw [show (E i &&& 4611686018427387904) = 0 ↔ tb (E i) 62 = false from hi_and (x := E i) (h := 62) (by omega), h62, b] at w; cases w)]
            exact ⟨_, _, rfl, rfl, Or.inr (Or.inr ⟨rfl, rfl⟩)⟩
      · rw [e, Option.bind_some, cif_neg (show ¬ false = true by simp), may_f, Option.bind_some, cif_neg (show ¬ (false, (1 : Int32)).1 = true by simp)]
        by_cases q : x < 0
        · rw [cif_pos q]; exact ⟨_, _, rfl, rfl, Or.inl ⟨rfl, rfl⟩⟩
        · rw [cif_neg q, cif_neg (hx.resolve_left q)]; exact ⟨_, _, rfl, rfl, Or.inl ⟨rfl, rfl⟩⟩
    · rw [cif_pos (show (2 : Int32) ≤ nI k from nI_le (a := 2) hk2 (by omega)), cif_pos (show (2 : Int32) ≤ nI k from nI_le (a := 2) hk2 (by omega))]
      rcases idx hm x with ⟨i, hi, rfl, e⟩ | ⟨hx, e⟩
      · have vp : vp_in (nI i) 60 := vp_in_nI (by omega) (by omega)
        obtain ⟨hYi, hZi⟩ := hr.hY i hi
        rw [e, Option.bind_some, cif_pos rfl, may_tt, Option.bind_some, cif_pos rfl, cif_neg (nI_pos (show i < 2 ^ 31 by omega)), cif_pos (nI_lt hi (by omega)), nI_clamp (by omega)]
        simp only [cif_pos vp]
        rw [cif_neg (fun w => by have := (ti 0).mp w; omega), cif_neg (fun w => by have := (ti 1).mp w; omega)]
        rcases (show k = 2 ∨ k = 3 by omega) with z | z
        · subst z
          rw [cif_pos ((ti 2).mpr rfl), cif_neg (show ¬ nI 2 = 0 by decide), cif_neg (show ¬ nI 2 = 1 by decide), cif_pos (show nI 2 = 2 from rfl)]
          exact ⟨_, _, rfl, rfl, Or.inr (Or.inr ⟨by rw [hYi], rfl⟩)⟩
        · subst z
          rw [cif_neg (fun w => by have := (ti 2).mp w; omega), cif_neg (show ¬ nI 3 = 0 by decide), cif_neg (show ¬ nI 3 = 1 by decide), cif_neg (show ¬ nI 3 = 2 by decide)]
          exact ⟨_, _, rfl, rfl, Or.inr (Or.inr ⟨by rw [hZi], rfl⟩)⟩
      · rw [e, Option.bind_some, cif_neg (show ¬ false = true by simp), may_f, Option.bind_some, cif_neg (show ¬ (false, (1 : Int32)).1 = true by simp)]
        by_cases q : x < 0
        · rw [cif_pos q]; exact ⟨_, _, rfl, rfl, Or.inl ⟨rfl, rfl⟩⟩
        · rw [cif_neg q, cif_neg (hx.resolve_left q)]; exact ⟨_, _, rfl, rfl, Or.inl ⟨rfl, rfl⟩⟩
  · rw [show D_X8_isIn y.toInt64 0 3 = some false from isIn_no (a := 0) (b := 3) hy, Option.bind_some, cif_neg (show ¬ false = true by simp), may_tf, Option.bind_some, cif_neg (show ¬ (false, (2 : Int32)).1 = true by simp)]
    by_cases q : y < 0
    · rw [cif_pos q]; exact ⟨_, _, rfl, rfl, Or.inr (Or.inl ⟨rfl, rfl⟩)⟩
    · rw [cif_neg q, cif_neg (fun z => hy ⟨q, Int32.not_lt.mpr z⟩)]; exact ⟨_, _, rfl, rfl, Or.inr (Or.inl ⟨rfl, rfl⟩)⟩
theorem count_eq (th n a b d e x : Int32) : ∃ r s, D_X7_count n a b d e x = some r ∧ D_X8_count th n a b d e x = some s ∧ ((r = .inr 0 ∧ s.2 = 1) ∨ (r = .inl s.1 ∧ s.2 = 0)) := by
  unfold D_X7_count D_X8_count
  by_cases hx : ¬ x < 0 ∧ ¬ 4 < x
  · obtain ⟨k, hk, rfl⟩ := nI_of2 (x := x) (M := 4) (n := 4) (by decide) hx.1 (i_le_of hx.2)
    rw [show D_X8_isIn (nI k).toInt64 0 4 = some true from isIn_yes (a := 0) (b := 4) hx.1 hx.2, Option.bind_some, may_tt, Option.bind_some, cif_pos rfl]
    rcases (show k = 0 ∨ k = 1 ∨ k = 2 ∨ k = 3 ∨ k = 4 by omega) with z | z | z | z | z <;> subst z
    · rw [cif_pos (by decide), cif_pos (by decide)]; exact ⟨_, _, rfl, rfl, Or.inr ⟨rfl, rfl⟩⟩
    · rw [cif_neg (by decide), cif_pos (by decide), cif_neg (by decide), cif_pos (by decide)]; exact ⟨_, _, rfl, rfl, Or.inr ⟨rfl, rfl⟩⟩
    · rw [cif_neg (by decide), cif_neg (by decide), cif_pos (by decide), cif_neg (by decide), cif_neg (by decide), cif_pos (by decide)]; exact ⟨_, _, rfl, rfl, Or.inr ⟨rfl, rfl⟩⟩
    · rw [cif_neg (by decide), cif_neg (by decide), cif_neg (by decide), cif_pos (by decide), cif_neg (by decide), cif_neg (by decide), cif_neg (by decide), cif_pos (by decide)]; exact ⟨_, _, rfl, rfl, Or.inr ⟨rfl, rfl⟩⟩
    · rw [cif_neg (by decide), cif_neg (by decide), cif_neg (by decide), cif_neg (by decide), cif_pos (by decide), cif_neg (by decide), cif_neg (by decide), cif_neg (by decide), cif_neg (by decide)]; exact ⟨_, _, rfl, rfl, Or.inr ⟨rfl, rfl⟩⟩
  · have hn : ∀ j : Int, 0 ≤ j → j ≤ 4 → ¬ x.toInt = j := fun j h1 h2 h3 => hx ⟨fun z => by
      rw [Int32.lt_iff_toInt_lt] at z
      have a : (0 : Int32).toInt = 0 := by decide
      omega, fun z => by
      rw [Int32.lt_iff_toInt_lt] at z
      have a : (4 : Int32).toInt = 4 := by decide
      omega⟩
    rw [show D_X8_isIn x.toInt64 0 4 = some false from isIn_no (a := 0) (b := 4) hx, Option.bind_some, may_f, Option.bind_some, cif_neg (show ¬ (false, (1 : Int32)).1 = true by simp)]
    rw [cif_neg (hn 0 (by omega) (by omega)), cif_neg (hn 1 (by omega) (by omega)), cif_neg (hn 2 (by omega) (by omega)), cif_neg (hn 3 (by omega) (by omega)), cif_neg (hn 4 (by omega) (by omega))]
    exact ⟨_, _, rfl, rfl, Or.inl ⟨rfl, rfl⟩⟩
end OPS
