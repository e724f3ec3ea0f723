/-! GATES, all of them -/
section GL
variable {N m s : Nat} {Y Z Y8 Z8 : Nat → Int64} {set : Int64} {p : Nat → Nat}
theorem Gt_cg (hY : ∀ k, k < m → Y k = Y8 k ∧ Z k = Z8 k) {r : Bool} : Gt Y Z set p s m r ↔ Gt Y8 Z8 set p s m r := by
  have key : ∀ a, Wf Y Z set p s m a = true ↔ Wf Y8 Z8 set p s m a = true := fun a => by
    rw [Wf_ex, Wf_ex]
    constructor
    · intro ⟨j, h1, h2, h3⟩
      exact ⟨j, h1, by rw [← (hY j h1).1, ← (hY j h1).2]; exact h2, by rw [← (hY j h1).2]; exact h3⟩
    · intro ⟨j, h1, h2, h3⟩
      exact ⟨j, h1, by rw [(hY j h1).1, (hY j h1).2]; exact h2, by rw [(hY j h1).2]; exact h3⟩
  exact ⟨fun h a ha hp => (key a).mp (h a ha hp), fun h a ha hp => (key a).mpr (h a ha hp)⟩
theorem gadd {n : Nat} (hn : n < 60) (found : Nat → Int64) (x : Int64) : D_X1_add (nI n) 60 found x = some (nI (n + 1), vp_updL found n x) := by
  unfold D_X1_add
  rw [cif_neg (show ¬ (60 : Int32) ≤ nI n from nI_ge (b := 60) hn (by omega)), cif_pos (vp_in_nI hn (by omega)), nI_clamp (by omega), nI_1]
theorem agree_upd {n : Nat} {f g : Nat → Int64} (h : ∀ i, i < n → f i = g i) (x : Int64) : ∀ i, i < n + 1 → vp_updL f n x i = vp_updL g n x i := fun i hi => by
  by_cases w : i = n
  · subst w; rw [pk_uLs, pk_uLs]
  · rw [pk_uLn w, pk_uLn w]; exact h i (by omega)
theorem one_set (hN : N ≤ 40) (hm : m ≤ 60) (hC8 : CL N Y8 Z8 m) (hC : CL N Y Z m) (hY : ∀ k, k < m → Y k = Y8 k ∧ Z k = Z8 k) (hP : Pos N set s p) (hset : Lo N set) (h2 : 2 ≤ s) (h4 : s ≤ 4) (hc : cnt N set = s) {n : Nat} {found g8 : Nat → Int64} (hag : ∀ i, i < n → found i = g8 i) (hn : n < 60) (hn2 : Gt Y8 Z8 set p s m false → Gt Y8 Z8 set p s m true → n + 1 < 60) :
    ∃ n' found' g', D_X1_addGatesOf (nI n) 60 found (nI m) 60 Y 60 Z set = some (nI n', found') ∧ L_X8_findGates_113 (nI m) 60 Y8 60 Z8 120 true set 0 (nI n) g8 = L_X8_findGates_9 (nI m) 60 Y8 60 Z8 120 set true (nI n') g' ∧ (∀ i, i < n' → found' i = g' i) ∧ (n' = n ∨ n' = n + 1 ∨ (n' = n + 2 ∧ Gt Y8 Z8 set p s m false ∧ Gt Y8 Z8 set p s m true)) := by
  have hc64 : cnt 64 set = s := by rw [cnt_lo hset (by omega), hc]
  have hc63 : cnt 63 set = s := by rw [cnt_lo hset (by omega), hc]
  obtain ⟨w, hw, ew⟩ := ag_loop hN hm hC hP h2 h4 hc64 (nI n) found m 0 0 (by omega) (fun a _ => t32_0 a)
  have m0 := mask_iff (r := false) h2 h4 hw (B := -38506) (fun i hi => by rw [t32_odd i hi]; simp)
  have m1 := mask_iff (r := true) h2 h4 hw (B := 38505) (fun i hi => by rw [t32_even i hi]; simp)
  rw [Gt_cg hY] at m0 m1
  have g0 := ig_spec hN hm hC8 hP hset h2 h4 hc63 false
  have g1 := ig_spec hN hm hC8 hP hset h2 h4 hc63 true
  have ec : D_X1_addGatesOf (nI n) 60 found (nI m) 60 Y 60 Z set = L_X1_addGatesOf_6 60 (nI m) 60 Y 60 Z set w (nI m) (nI n) found := by
    unfold D_X1_addGatesOf
    exact ew
  rw [ec, E_X1_addGatesOf_6, cif_pos (nI_le (Nat.le_refl m) (by omega)), bitCount_spec, Option.bind_some, hc64]
  rw [E_X8_findGates_113, cif_neg (show ¬ (2 : Int32) ≤ 0 by decide), cif_pos rfl]
  have r1 : ∀ (k : Nat) (g : Nat → Int64), L_X8_findGates_113 (nI m) 60 Y8 60 Z8 120 true set (0 + 1) (nI k) g = Option.bind (D_X8_isGate (nI m) 60 Y8 60 Z8 set (bI true)) (fun u => cif (u = true) (cif (vp_in (nI k) 120) (L_X8_findGates_9 (nI m) 60 Y8 60 Z8 120 set true (nI (k + 1)) (vp_updL g (nI k).toNatClampNeg (set ||| 4611686018427387904))) none) (L_X8_findGates_9 (nI m) 60 Y8 60 Z8 120 set true (nI k) g)) := fun k g => by
    rw [E_X8_findGates_113, cif_neg (show ¬ (2 : Int32) ≤ 0 + 1 by decide), cif_pos rfl]
    refine congrArg (Option.bind (D_X8_isGate (nI m) 60 Y8 60 Z8 set (bI true))) (funext (fun u => ?_))
    rw [cif_pos (show (0 + 1 : Int32) = 1 by decide), nI_1]
    have l9 : ∀ (k : Nat) (g : Nat → Int64), L_X8_findGates_113 (nI m) 60 Y8 60 Z8 120 true set (0 + 1 + 1) (nI k) g = L_X8_findGates_9 (nI m) 60 Y8 60 Z8 120 set true (nI k) g := fun k g => by
      rw [E_X8_findGates_113, cif_pos (show (2 : Int32) ≤ 0 + 1 + 1 by decide)]
    rw [l9, l9]
  by_cases a0 : Gt Y8 Z8 set p s m false
  · rw [show D_X8_isGate (nI m) 60 Y8 60 Z8 set 0 = some true from g0.1 a0, Option.bind_some, cif_pos rfl, cif_neg (show ¬ (0 : Int32) = 1 by decide), cif_pos (vp_in_nI (show n < 120 by omega) (by omega)), nI_clamp (by omega), nI_1, r1, or_zero]
    rw [cif_pos (m0.mpr a0), gadd hn, Option.bind_some]
    by_cases a1 : Gt Y8 Z8 set p s m true
    · have hn3 := hn2 a0 a1
      rw [cif_pos (m1.mpr a1), g1.1 a1, Option.bind_some, cif_pos rfl, cif_pos (vp_in_nI (show n + 1 < 120 by omega) (by omega)), nI_clamp (by omega)]
      dsimp only
      rw [gadd hn3, Option.bind_some]
      exact ⟨_, _, _, rfl, rfl, agree_upd (agree_upd hag _) _, Or.inr (Or.inr ⟨rfl, a0, a1⟩)⟩
    · rw [cif_neg (fun z => a1 (m1.mp z)), g1.2 a1, Option.bind_some, cif_neg (by simp)]
      exact ⟨_, _, _, rfl, rfl, agree_upd hag _, Or.inr (Or.inl rfl)⟩
  · rw [show D_X8_isGate (nI m) 60 Y8 60 Z8 set 0 = some false from g0.2 a0, Option.bind_some, cif_neg (show ¬ false = true by simp), r1]
    rw [cif_neg (fun z => a0 (m0.mp z))]
    by_cases a1 : Gt Y8 Z8 set p s m true
    · rw [cif_pos (m1.mpr a1), g1.1 a1, Option.bind_some, cif_pos rfl, cif_pos (vp_in_nI (show n < 120 by omega) (by omega)), nI_clamp (by omega), gadd hn, Option.bind_some]
      exact ⟨_, _, _, rfl, rfl, agree_upd hag _, Or.inr (Or.inl rfl)⟩
    · rw [cif_neg (fun z => a1 (m1.mp z)), g1.2 a1, Option.bind_some, cif_neg (by simp)]
      exact ⟨_, _, _, rfl, rfl, hag, Or.inl rfl⟩
theorem lo_un {N : Nat} {x : Int64} (hx : Lo N x) : un x < 2 ^ N := by
  refine Nat.lt_pow_two_of_testBit _ (fun i hi => ?_)
  have := hx i hi
  unfold tb at this
  unfold un
  rw [BitVec.testBit_toNat]
  exact this
theorem lo_side {N : Nat} (hN : N ≤ 40) {x : Int64} (hx : Lo N x) : x < 4611686018427387904 := by
  have h1 := lo_un hx
  have h2 : 2 ^ N ≤ 2 ^ 40 := Nat.pow_le_pow_right (by decide) hN
  rw [Int64.lt_iff_toInt_lt]
  have e : x.toInt = (un x : Int) := by
    show x.toBitVec.toInt = _
    exact BitVec.toInt_eq_toNat_of_lt (by show 2 * un x < 2 ^ 64; omega)
  rw [e, show (4611686018427387904 : Int64).toInt = 4611686018427387904 by decide]
  have : un x < 1099511627776 := Nat.lt_of_lt_of_le h1 h2
  omega
theorem lt_irr (x : Int64) : ¬ x < x := fun h => by rw [Int64.lt_iff_toInt_lt] at h; omega
theorem lt_nle {x y : Int64} : ¬ y ≤ x ↔ x < y := by rw [Int64.le_iff_toInt_le, Int64.lt_iff_toInt_lt]; omega
theorem nle_lt {x y : Int64} : ¬ x < y ↔ y ≤ x := by rw [Int64.le_iff_toInt_le, Int64.lt_iff_toInt_lt]; omega
/-- the least set above: class and reference -/
theorem lsa_lock (hN : N ≤ 40) (hm : m ≤ 60) (hC8 : CL N Y8 Z8 m) (hY : ∀ k, k < m → Y k = Y8 k ∧ Z k = Z8 k) (b : Int64) (gc : Int32) (g8 : Nat → Int64) : ∀ (d k : Nat) (l nx : Int64), k + d = m → ((l = 0 ∧ nx = 4611686018427387904) ∨ (l = nx ∧ l ≠ 0 ∧ b < l ∧ 2 ≤ cnt N l ∧ cnt N l ≤ 4 ∧ ∃ j, j < m ∧ (Y8 j ||| Z8 j) = l)) →
    ∃ l' nx', L_X1_leastSetAbove_5 (nI m) 60 Y 60 Z b l (nI k) = some l' ∧ L_X8_findGates_21 (nI m) 60 Y8 60 Z8 120 b nx (nI k) gc g8 = L_X8_findGates_21 (nI m) 60 Y8 60 Z8 120 b nx' (nI m) gc g8 ∧ ((l' = 0 ∧ nx' = 4611686018427387904) ∨ (l' = nx' ∧ l' ≠ 0 ∧ b < l' ∧ 2 ≤ cnt N l' ∧ cnt N l' ≤ 4 ∧ ∃ j, j < m ∧ (Y8 j ||| Z8 j) = l')) := by
  intro d
  induction d with
  | zero =>
    intro k l nx hk h
    have : k = m := by omega
    subst this
    refine ⟨l, nx, ?_, rfl, h⟩
    rw [E_X1_leastSetAbove_5, cif_pos (nI_le (Nat.le_refl _) (by omega))]
  | succ d ih =>
    intro k l nx hk h
    have hkm : k < m := by omega
    have vp : vp_in (nI k) 60 := vp_in_nI (by omega) (by omega)
    obtain ⟨c1, c2, -⟩ := hC8 k hkm
    have hlo : Lo N (Y8 k ||| Z8 k) := c1.or c2
    have hcn := cnt_le N (Y8 k ||| Z8 k)
    have hc64 : cnt 64 (Y8 k ||| Z8 k) = cnt N (Y8 k ||| Z8 k) := cnt_lo hlo (by omega)
    have hc63 : cnt 63 (Y8 k ||| Z8 k) = cnt N (Y8 k ||| Z8 k) := cnt_lo hlo (by omega)
    rw [E_X1_leastSetAbove_5, E_X8_findGates_21, cif_neg (nI_ge hkm (by omega)), cif_neg (nI_ge hkm (by omega)), nI_clamp (by omega)]
    simp only [cif_pos vp, nI_1, (hY k hkm).1, (hY k hkm).2, bitCount_spec, bits_spec, Option.bind_some, hc64, hc63]
    have hskip := ih (k + 1) l nx (by omega) h
    by_cases hb : (Y8 k ||| Z8 k) ≤ b
    · rw [cif_pos hb]
      simp only [cif_pos hb]
      by_cases q1 : nI (cnt N (Y8 k ||| Z8 k)) < 2
      · rw [cif_pos q1]; exact hskip
      · rw [cif_neg q1]
        by_cases q2 : (4 : Int32) < nI (cnt N (Y8 k ||| Z8 k))
        · rw [cif_pos q2]; exact hskip
        · rw [cif_neg q2]; exact hskip
    · simp only [cif_neg hb]
      have hb' : b < (Y8 k ||| Z8 k) := lt_nle.mp hb
      by_cases q1 : nI (cnt N (Y8 k ||| Z8 k)) < 2
      · rw [cif_pos q1, show D_X8_isIn (nI (cnt N (Y8 k ||| Z8 k))).toInt64 2 4 = some false from isIn_lo (a := 2) (b := 4) q1]
        simp only [Option.bind_some]
        by_cases q3 : nx ≤ (Y8 k ||| Z8 k)
        · rw [cif_pos q3]; exact hskip
        · rw [cif_neg q3, cif_neg (by simp)]; exact hskip
      · rw [cif_neg q1]
        by_cases q2 : (4 : Int32) < nI (cnt N (Y8 k ||| Z8 k))
        · rw [cif_pos q2, show D_X8_isIn (nI (cnt N (Y8 k ||| Z8 k))).toInt64 2 4 = some false from isIn_no (a := 2) (b := 4) (fun z => z.2 q2)]
          simp only [Option.bind_some]
          by_cases q3 : nx ≤ (Y8 k ||| Z8 k)
          · rw [cif_pos q3]; exact hskip
          · rw [cif_neg q3, cif_neg (by simp)]; exact hskip
        · rw [cif_neg q2, show D_X8_isIn (nI (cnt N (Y8 k ||| Z8 k))).toInt64 2 4 = some true from isIn_yes (a := 2) (b := 4) q1 q2]
          simp only [Option.bind_some]
          have s2 : 2 ≤ cnt N (Y8 k ||| Z8 k) := by
            rcases Nat.lt_or_ge (cnt N (Y8 k ||| Z8 k)) 2 with w | w
            · exact absurd (show nI (cnt N (Y8 k ||| Z8 k)) < 2 from nI_lt (b := 2) w (by omega)) q1
            · exact w
          have s4 : cnt N (Y8 k ||| Z8 k) ≤ 4 := by
            rcases Nat.lt_or_ge 4 (cnt N (Y8 k ||| Z8 k)) with w | w
            · exact absurd (show (4 : Int32) < nI (cnt N (Y8 k ||| Z8 k)) from nI_lt (a := 4) w (by omega)) q2
            · exact w
          have s0 : (Y8 k ||| Z8 k) ≠ 0 := fun z => by
            have e : cnt N (0 : Int64) = 0 := by
              have : ∀ n, cnt n (0 : Int64) = 0 := by
                intro n
                induction n with
                | zero => rfl
                | succ n ih => show cnt n 0 + (if tb 0 n then 1 else 0) = 0; rw [ih, tb_0]; rfl
              exact this N
            rw [z, e] at s2
            omega
          have hnew := ih (k + 1) (Y8 k ||| Z8 k) (Y8 k ||| Z8 k) (by omega) (Or.inr ⟨rfl, s0, hb', s2, s4, k, hkm, rfl⟩)
          rcases h with ⟨e1, e2⟩ | ⟨e1, e2, e3⟩
          · rw [cif_pos e1, cif_neg (show ¬ nx ≤ (Y8 k ||| Z8 k) by rw [e2]; exact lt_nle.mpr (lo_side hN hlo)), cif_pos trivial]
            exact hnew
          · rw [cif_neg e2, e1]
            rw [e1] at hskip
            by_cases q3 : nx ≤ (Y8 k ||| Z8 k)
            · rw [cif_pos q3, cif_pos q3]; exact hskip
            · rw [cif_neg q3, cif_neg q3, cif_pos trivial]; exact hnew
/-- how many clauses stand above -/
def rem8 (m : Nat) (Y8 Z8 : Nat → Int64) (b : Int64) : Nat := cp m (fun k => decide (b < (Y8 k ||| Z8 k)))
theorem rem_split {b l : Int64} (h : b < l) : rem8 m Y8 Z8 b = rem8 m Y8 Z8 l + cp m (fun k => decide (b < (Y8 k ||| Z8 k)) && !decide (l < (Y8 k ||| Z8 k))) := by
  unfold rem8
  rw [cp_split (q := fun k => decide (l < (Y8 k ||| Z8 k)))]
  congr 1
  refine cp_cg (fun i _ => ?_)
  by_cases w : l < (Y8 i ||| Z8 i)
  · rw [decide_eq_true w, decide_eq_true]
    · rfl
    · rw [Int64.lt_iff_toInt_lt] at *; omega
  · rw [decide_eq_false w]; simp
theorem gl_lock (hN : N ≤ 40) (hm : m ≤ 60) (hC8 : CL N Y8 Z8 m) (hC : CL N Y Z m) (hY : ∀ k, k < m → Y k = Y8 k ∧ Z k = Z8 k) : ∀ (d t : Nat) (b : Int64) (n : Nat) (found g8 : Nat → Int64), t + d = m → rem8 m Y8 Z8 b + t ≤ m → n + rem8 m Y8 Z8 b ≤ m → (∀ i, i < n → found i = g8 i) →
    ∃ n' found' g', L_X1_build_10 60 (nI m) 60 Y 60 Z b (nI t) (nI n) found = some (nI n', found') ∧ L_X8_findGates_9 (nI m) 60 Y8 60 Z8 120 b true (nI n) g8 = some (nI n', g') ∧ n' ≤ 60 ∧ ∀ i, i < n' → found' i = g' i := by
  have stop : ∀ (x : Int64) (n : Nat) (g8 : Nat → Int64), L_X8_findGates_113 (nI m) 60 Y8 60 Z8 120 false x 0 (nI n) g8 = some (nI n, g8) := fun x n g8 => by
    rw [E_X8_findGates_113, cif_neg (by decide), cif_neg (by simp), E_X8_findGates_9, cif_neg (by simp)]
  intro d
  induction d with
  | zero =>
    intro t b n found g8 ht hr hn hag
    have h0 : rem8 m Y8 Z8 b = 0 := by omega
    obtain ⟨l, nx, -, e2, h⟩ := lsa_lock hN hm hC8 hY b (nI n) g8 m 0 0 4611686018427387904 (by omega) (Or.inl ⟨rfl, rfl⟩)
    refine ⟨n, found, g8, ?_, ?_, by omega, hag⟩
    · rw [E_X1_build_10, cif_pos (nI_le (by omega) (by omega))]
    · rw [E_X8_findGates_9, cif_pos rfl, show L_X8_findGates_21 (nI m) 60 Y8 60 Z8 120 b 4611686018427387904 0 (nI n) g8 = _ from e2, E_X8_findGates_21, cif_pos (nI_le (Nat.le_refl m) (by omega))]
      rcases h with ⟨-, h2⟩ | ⟨-, -, h3, -, -, j, hj, hl⟩
      · rw [cif_pos h2]; exact stop _ _ _
      · exfalso
        have := cp_pos (n := m) (p := fun k => decide (b < (Y8 k ||| Z8 k))) hj (by rw [hl]; exact decide_eq_true h3)
        unfold rem8 at h0
        omega
  | succ d ih =>
    intro t b n found g8 ht hr hn hag
    obtain ⟨l, nx, e1, e2, h⟩ := lsa_lock hN hm hC8 hY b (nI n) g8 m 0 0 4611686018427387904 (by omega) (Or.inl ⟨rfl, rfl⟩)
    have e1' : D_X1_leastSetAbove (nI m) 60 Y 60 Z b = some l := by unfold D_X1_leastSetAbove; exact e1
    rw [E_X1_build_10, cif_neg (nI_ge (show t < m by omega) (by omega)), e1', Option.bind_some, nI_1]
    rw [E_X8_findGates_9, cif_pos rfl, show L_X8_findGates_21 (nI m) 60 Y8 60 Z8 120 b 4611686018427387904 0 (nI n) g8 = _ from e2, E_X8_findGates_21, cif_pos (nI_le (Nat.le_refl m) (by omega))]
    rcases h with ⟨h1, h2⟩ | ⟨h1, h2, h3, h4, h5, j, hj, hl⟩
    · rw [cif_pos h1, cif_pos h2, stop]
      exact ⟨n, found, g8, rfl, rfl, by omega, hag⟩
    · subst h1
      have hlo : Lo N l := by rw [← hl]; exact (hC8 j hj).1.or (hC8 j hj).2.1
      rw [cif_neg h2, cif_neg (fun z => by have := lo_side hN hlo; rw [z] at this; exact lt_irr _ this)]
      obtain ⟨p, hP⟩ := Pos.ex hlo
      have hsp := rem_split (m := m) (Y8 := Y8) (Z8 := Z8) h3
      have inB : ∀ i, i < m → (Y8 i ||| Z8 i) = l → (decide (b < (Y8 i ||| Z8 i)) && !decide (l < (Y8 i ||| Z8 i))) = true := fun i _ hi => by
        rw [hi, decide_eq_true h3, decide_eq_false (lt_irr l)]; rfl
      have one : 1 ≤ cp m (fun k => decide (b < (Y8 k ||| Z8 k)) && !decide (l < (Y8 k ||| Z8 k))) := cp_pos hj (inB j hj hl)
      have two : Gt Y8 Z8 l p (cnt N l) m false → Gt Y8 Z8 l p (cnt N l) m true → 2 ≤ cp m (fun k => decide (b < (Y8 k ||| Z8 k)) && !decide (l < (Y8 k ||| Z8 k))) := fun a0 a1 => by
        obtain ⟨i0, i1, i2, i3⟩ := a0.cl h4
        obtain ⟨j0, j1, j2, j3⟩ := a1.cl h4
        have hne : i0 ≠ j0 := fun z => by rw [z, j3] at i3; cases i3
        rcases Nat.lt_or_gt_of_ne hne with w | w
        · exact cp_two w j1 (inB i0 i1 i2) (inB j0 j1 j2)
        · exact cp_two w i1 (inB j0 j1 j2) (inB i0 i1 i2)
      obtain ⟨n', found', g', f1, f2, f3, f4⟩ := one_set hN hm hC8 hC hY hP hlo h4 h5 rfl hag (by omega) (fun a0 a1 => by have := two a0 a1; omega)
      rw [f1, Option.bind_some, f2]
      refine ih (t + 1) l n' found' g' (by omega) (by omega) ?_ f3
      rcases f4 with w | w | ⟨w, a0, a1⟩
      · omega
      · omega
      · have := two a0 a1; omega
/-- the class's list of gates is the reference's -/
def GS (m : Nat) (Y8 Z8 : Nat → Int64) (gf : Bool) (size : Int32) (found : Nat → Int64) : Prop :=
  gf = true → ∃ n, n ≤ 60 ∧ size = nI n ∧ ∀ (gc : Int32) (g8 : Nat → Int64), ∃ g', D_X8_findGates (nI m) gc 60 Y8 60 Z8 120 g8 = some (nI n, g') ∧ ∀ i, i < n → found i = g' i
end GL
section GEQ
variable {N c m : Nat} {E Y Z F : Nat → Int64} {G : Nat → Int32} {Gb : Nat → Bool} {Y8 Z8 : Nat → Int64}
theorem fg_spec (hr : Rel N c m E Y Z F G Gb Y8 Z8) {gf : Bool} {size : Int32} {found : Nat → Int64} (hg : GS m Y8 Z8 gf size found) : ∃ size' found', D_X7_freshenGates gf (nI m) 60 Y 60 Z size 60 found = some (true, size', found') ∧ GS m Y8 Z8 true size' found' := by
  unfold D_X7_freshenGates
  cases gf with
  | true => exact ⟨size, found, by rw [cif_pos rfl], hg⟩
  | false =>
    have h0 : rem8 m Y8 Z8 0 ≤ m := cp_n
    have run : ∀ g8 : Nat → Int64, _ := fun g8 => gl_lock hr.hN hr.hm hr.hC8 hr.hC hr.hY m 0 0 0 found g8 (by omega) (by omega) (by omega) (fun i hi => by omega)
    obtain ⟨n, found', g', e1, -, h3, -⟩ := run (fun _ => 0)
    have e1' : D_X1_build size 60 found (nI m) 60 Y 60 Z = some (nI n, found') := by unfold D_X1_build; exact e1
    refine ⟨nI n, found', by rw [cif_neg (by simp), e1']; rfl, fun _ => ⟨n, h3, rfl, fun gc g8 => ?_⟩⟩
    obtain ⟨n2, f2, g2, d1, d2, d3, d4⟩ := run g8
    have q := Option.some.inj (d1.symm.trans e1)
    have q1 : nI n2 = nI n := congrArg Prod.fst q
    have q2 : f2 = found' := congrArg Prod.snd q
    have q3 : n2 = n := (nI_eq (by omega) (by omega)).mp q1
    subst q3; subst q2
    exact ⟨g2, by unfold D_X8_findGates; exact d2, d4⟩
theorem gates_eq (hr : Rel N c m E Y Z F G Gb Y8 Z8) {gf : Bool} {size : Int32} {found : Nat → Int64} (hg : GS m Y8 Z8 gf size found) (th gc : Int32) (g8 : Nat → Int64) :
    ∃ r s, D_X7_gates gf (nI m) 60 Y 60 Z size 60 found = some r ∧ D_X8_gates th (nI m) gc 60 Y8 60 Z8 120 g8 = some s ∧ GS m Y8 Z8 r.2.1 r.2.2.1 r.2.2.2 ∧ r.1 = s.1 := by
  obtain ⟨size', found', e1, h1⟩ := fg_spec hr hg
  obtain ⟨n, h2, h3, h4⟩ := h1 rfl
  obtain ⟨g', e2, h5⟩ := h4 gc g8
  unfold D_X7_gates D_X8_gates
  rw [e1, Option.bind_some, e2, Option.bind_some]
  exact ⟨_, _, rfl, rfl, h1, h3⟩
theorem gate_eq (hr : Rel N c m E Y Z F G Gb Y8 Z8) {gf : Bool} {size : Int32} {found : Nat → Int64} (hg : GS m Y8 Z8 gf size found) (th gc : Int32) (g8 : Nat → Int64) (x : Int32) :
    ∃ r s, D_X7_gate gf (nI m) 60 Y 60 Z size 60 found x = some r ∧ D_X8_gate th (nI m) gc 60 Y8 60 Z8 120 g8 x = some s ∧ GS m Y8 Z8 r.2.1 r.2.2.1 r.2.2.2 ∧ ((r.1 = .inr 2 ∧ s.2.1 = 1) ∨ (r.1 = .inl s.1 ∧ s.2.1 = 0)) := by
  obtain ⟨size', found', e1, h1⟩ := fg_spec hr hg
  obtain ⟨n, h2, h3, h4⟩ := h1 rfl
  obtain ⟨g', e2, h5⟩ := h4 gc g8
  subst h3
  unfold D_X7_gate D_X8_gate
  rw [e1, Option.bind_some, e2, Option.bind_some]
  dsimp only
  by_cases hx : x < 0
  · have h8 : D_X8_isIn x.toInt64 0 ((nI n) - 1).toInt64 = some false := isIn_lo (x := x) (a := 0) hx
    rw [cif_pos hx, h8, Option.bind_some, may_f, Option.bind_some, cif_neg (by simp)]
    exact ⟨_, _, rfl, rfl, h1, Or.inl ⟨rfl, rfl⟩⟩
  · obtain ⟨i, hi, rfl⟩ := nI_of hx
    rw [cif_neg hx]
    rcases Nat.lt_or_ge i n with q | q
    · have h8 : D_X8_isIn (nI i).toInt64 0 ((nI n) - 1).toInt64 = some true := by
        obtain ⟨k', rfl⟩ : ∃ k', n = k' + 1 := ⟨n - 1, by omega⟩
        rw [nI_pred]
        exact isIn_yes (a := 0) (nI_pos hi) (nI_nlt (by omega) (by omega))
      rw [cif_pos (nI_lt q (by omega)), cif_pos (vp_in_nI (show i < 60 by omega) (by omega)), h8, Option.bind_some, may_tt, Option.bind_some, cif_pos rfl, cif_pos (vp_in_nI (show i < 120 by omega) (by omega)), nI_clamp (by omega)]
      exact ⟨_, _, rfl, rfl, h1, Or.inr ⟨by rw [h5 i q], rfl⟩⟩
    · have h8 : D_X8_isIn (nI i).toInt64 0 ((nI n) - 1).toInt64 = some false := by
        refine isIn_no (a := 0) (fun z => z.2 ?_)
        cases n with
        | zero =>
          rw [Int32.lt_iff_toInt_lt, nI_toInt hi]
          have : (nI 0 - 1).toInt = -1 := by decide
          omega
        | succ k' => rw [nI_pred]; exact nI_lt (by omega) hi
      rw [cif_neg (nI_nlt q hi), h8, Option.bind_some, may_f, Option.bind_some, cif_neg (by simp)]
      exact ⟨_, _, rfl, rfl, h1, Or.inl ⟨rfl, rfl⟩⟩
end GEQ
