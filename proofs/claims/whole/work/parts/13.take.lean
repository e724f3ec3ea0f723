/-! THE CLASS's ROWS, built and settled -/
/-- rows that say what c equations E say -/
def Says (N : Nat) (E : Nat → Int64) (c : Nat) (imp : Bool) (R : Nat → Int64) : Prop := Shape N R ∧ ∀ a, (imp = false ∧ SatR N R a) ↔ ∀ j, j < c → holds N (E j) a
theorem no_vars {N : Nat} {x : Int64} (h : ∀ i, i < N → tb x i = false) (a : Nat → Bool) : holds N x a ↔ tb x 62 = false := by
  unfold holds
  rw [dot_zero h]
  exact eq_comm
theorem redF_red {N : Nat} {R : Nat → Int64} (hR : Shape N R) (x : Int64) : ∀ k, k < N → R k ≠ 0 → tb (redF R x N) k = false := fun k hk h0 => by
  rw [redF_head hR hk h0 N (Nat.le_refl N), if_pos hk]
/-- one equation more -/
theorem enter_says {N : Nat} (hN : N ≤ 40) {R : Nat → Int64} {imp : Bool} (hR : Shape N R) {x : Int64} (hx : Eq62 N x) (hred : ∀ k, k < N → R k ≠ 0 → tb x k = false) :
    ∃ imp' R', D_X2_enter (nI N) imp N R x = some (imp', R') ∧ Shape N R' ∧ (∀ a, (imp' = false ∧ SatR N R' a) ↔ (imp = false ∧ SatR N R a ∧ holds N x a)) ∧ (∀ v, (∀ j, j < N → tb (R j) v = false) → tb x v = false → ∀ j, j < N → tb (R' j) v = false) := by
  by_cases hv : ∃ i, i < N ∧ tb x i = true
  · obtain ⟨h, hh, hl, -⟩ := set_low hN hx hv
    obtain ⟨R', e, q⟩ := ent_some hN R imp hx hh hl
    have hRh : R h = 0 := by
      apply Classical.byContradiction
      intro z
      have := hred h hh z
      rw [hl.1] at this
      cases this
    refine ⟨imp, R', e, entF_shape hN hR hx hh hl hred q, fun a => ?_, fun v h1 h2 j hj => ?_⟩
    · rw [entF_sat hh hRh q a]
    · rw [q j hj]
      unfold entF
      split
      · exact h2
      · split
        · rw [tb_xor, h1 j hj, h2]; rfl
        · exact h1 j hj
  · have h0 : ∀ i, i < N → tb x i = false := fun i hi => by
      cases e : tb x i with
      | false => rfl
      | true => exact absurd ⟨i, hi, e⟩ hv
    refine ⟨_, R, ent_none hN R imp hx h0, hR, fun a => ?_, fun v h1 _ => h1⟩
    rw [no_vars h0 a]
    cases imp <;> cases tb x 62 <;> simp
theorem build_loop {N : Nat} (hN : N ≤ 40) {E : Nat → Int64} {c : Nat} (hc : c ≤ 60) (hE : ∀ j, j < c → Eq62 N (E j)) : ∀ (k i : Nat) (imp : Bool) (R : Nat → Int64), i + k = c → Says N E i imp R →
    ∃ imp' R', L_X2_build_15 (nI N) N (nI c) 60 E (nI i) imp R = some (imp', R') ∧ Says N E c imp' R' := by
  intro k
  induction k with
  | zero =>
    intro i imp R hi hs
    refine ⟨imp, R, ?_, by rw [show c = i by omega]; exact hs⟩
    rw [E_X2_build_15, cif_pos ((nI_leI (by omega) (by omega)).mpr (by omega))]
  | succ k ih =>
    intro i imp R hi hs
    obtain ⟨hR, hsem⟩ := hs
    obtain ⟨imp1, R1, e1, hR1, hsem1, -⟩ := enter_says hN (imp := imp) hR (x := redF R (E i) N) (redF_eq62 (fun h hh => hR.eq62 hh) (hE i (by omega)) N (Nat.le_refl N)) (redF_red hR (E i))
    have hs1 : Says N E (i + 1) imp1 R1 := by
      refine ⟨hR1, fun a => ?_⟩
      rw [hsem1 a]
      constructor
      · intro ⟨h1, h2, h3⟩ j hj
        rcases Nat.lt_or_ge j i with q | q
        · exact (hsem a).mp ⟨h1, h2⟩ j q
        · rw [show j = i by omega]
          exact (redF_holds h2 N (Nat.le_refl N)).mp h3
      · intro h
        obtain ⟨h1, h2⟩ := (hsem a).mpr (fun j hj => h j (by omega))
        exact ⟨h1, h2, (redF_holds h2 N (Nat.le_refl N)).mpr (h i (by omega))⟩
    obtain ⟨imp', R', e2, h2⟩ := ih (i + 1) imp1 R1 (by omega) hs1
    refine ⟨imp', R', ?_, h2⟩
    rw [E_X2_build_15, cif_neg (fun q => by have := (nI_leI (by omega) (by omega)).mp q; omega), cif_pos (vp_in_nI (by omega) (by omega)), nI_clamp (by omega), red_spec hN, Option.bind_some, e1, Option.bind_some, nI_1]
    exact e2
theorem build_spec {N : Nat} (hN : N ≤ 40) {E : Nat → Int64} {c : Nat} (hc : c ≤ 60) (hE : ∀ j, j < c → Eq62 N (E j)) (imp0 : Bool) (R0 : Nat → Int64) : ∃ imp R, D_X2_build (nI N) imp0 N R0 (nI c) 60 E = some (imp, R) ∧ Says N E c imp R := by
  obtain ⟨R1, e1, q1⟩ := fill_spec (N := N) (by omega) R0 0
  have hs : Says N E 0 false R1 := ⟨fun h hh h0 => absurd (q1 h hh) h0, fun a => ⟨fun _ j hj => by omega, fun _ => ⟨rfl, fun h hh => by rw [q1 h hh]; exact holds_0⟩⟩⟩
  obtain ⟨imp, R, e2, h2⟩ := build_loop hN hc hE c 0 false R1 (by omega) hs
  refine ⟨imp, R, ?_, h2⟩
  unfold D_X2_build
  rw [e1, Option.bind_some]
  exact e2
/-- the equation 'variable p is b' -/
def chg (p : Nat) (b : Bool) : Int64 := jshl 1 (nI p) ||| (if b then 4611686018427387904 else 0)
theorem chg_tb {p : Nat} (hp : p < 40) (b : Bool) (i : Nat) : tb (chg p b) i = (decide (i = p) || (b && decide (i = 62))) := by
  unfold chg
  rw [tb_or, tb_bit (by omega)]
  cases b with
  | true => rw [if_pos rfl, tb_R]; simp
  | false => rw [if_neg (by simp), tb_0]; simp
theorem chg_holds {N p : Nat} (hN : N ≤ 40) (hp : p < N) (b : Bool) (a : Nat → Bool) : holds N (chg p b) a ↔ a p = b := by
  unfold holds
  rw [dot_one hp (by rw [chg_tb (by omega)]; simp) (fun i hi hne e => by rw [chg_tb (by omega), decide_eq_false hne, decide_eq_false (show ¬ i = 62 by omega)] at e; simp at e), chg_tb (by omega), decide_eq_false (show ¬ 62 = p by omega)]
  simp
theorem chg_eq62 {N p : Nat} (hN : N ≤ 40) (hp : p < N) (b : Bool) : Eq62 N (chg p b) := fun i h1 h2 => by
  rw [chg_tb (by omega), decide_eq_false (show ¬ i = p by omega), decide_eq_false h2]
  simp
/-- what settle leaves of the rows: p's own row gets another head; the others lose p -/
theorem settle_loop {N : Nat} (hN : N ≤ 40) (R : Nat → Int64) (imp : Bool) {p : Nat} (hp : p < N) (b : Bool) : ∀ (k i : Nat) (G : Nat → Int64), i + k = p → (∀ j, j < N → G j = if j < i ∧ tb (R j) p = true then R j ^^^ chg p b else R j) →
    ∃ R', L_X2_settle_63 (nI N) N (nI p) b (chg p b) (nI i) imp G = some (imp, R') ∧ ∀ j, j < N → R' j = if j < p ∧ tb (R j) p = true then R j ^^^ chg p b else R j := by
  intro k
  induction k with
  | zero =>
    intro i G hi hG
    have : i = p := by omega
    subst this
    refine ⟨G, ?_, hG⟩
    rw [E_X2_settle_63, cif_pos ((nI_leI (by omega) (by omega)).mpr (by omega))]
  | succ k ih =>
    intro i G hi hG
    have gi := hG i (by omega)
    rw [if_neg (fun c => by omega)] at gi
    rw [E_X2_settle_63, cif_neg (fun c => by have := (nI_leI (by omega) (by omega)).mp c; omega), cif_pos (vp_in_nI (by omega) (by omega)), nI_clamp (by omega), nI_1, gi]
    cases e : tb (R i) p with
    | false =>
      rw [cif_pos ((ju_bit (by omega)).mpr e)]
      refine ih (i + 1) G (by omega) (fun j hj => ?_)
      rw [hG j hj]
      by_cases q : j = i
      · subst q
        rw [if_neg (fun c => by omega), if_neg (fun c => by rw [e] at c; cases c.2)]
      · by_cases c : j < i
        · by_cases d : tb (R j) p = true
          · rw [if_pos ⟨c, d⟩, if_pos ⟨by omega, d⟩]
          · rw [if_neg (fun z => d z.2), if_neg (fun z => d z.2)]
        · rw [if_neg (fun z => c z.1), if_neg (fun z => by omega)]
    | true =>
      rw [cif_neg (fun c => by rw [ju_bit (by omega), e] at c; cases c), cif_pos (vp_in_nI (by omega) (by omega)), cif_pos (vp_in_nI (by omega) (by omega))]
      refine ih (i + 1) (vp_updL G i (R i ^^^ chg p b)) (by omega) (fun j hj => ?_)
      by_cases q : j = i
      · subst q
        rw [pk_uLs, if_pos ⟨by omega, e⟩]
      · rw [pk_uLn q, hG j hj]
        by_cases c : j < i
        · by_cases d : tb (R j) p = true
          · rw [if_pos ⟨c, d⟩, if_pos ⟨by omega, d⟩]
          · rw [if_neg (fun z => d z.2), if_neg (fun z => d z.2)]
        · rw [if_neg (fun z => c z.1), if_neg (fun z => by omega)]
theorem settle_spec {N : Nat} (hN : N ≤ 40) {R : Nat → Int64} (hR : Shape N R) (imp : Bool) {p : Nat} (hp : p < N) (b : Bool) :
    ∃ imp' R', D_X2_settle (nI N) imp N R (nI p) b = some (imp', R') ∧ Shape N R' ∧ (∀ j, j < N → tb (R' j) p = false) ∧ (∀ v, v < N → (∀ j, j < N → tb (R j) v = false) → ∀ j, j < N → tb (R' j) v = false) ∧
      (∀ a, a p = b → ((imp' = false ∧ SatR N R' a) ↔ (imp = false ∧ SatR N R a))) := by
  have hD : ∀ G, (R p = 0 → L_X2_settle_63 (nI N) N (nI p) b (chg p b) (nI 0) imp R = G) → (R p ≠ 0 → Option.bind (D_X2_enter (nI N) imp N (vp_updL R p 0) (R p ^^^ chg p b)) (fun u => some (u.1, u.2)) = G) → D_X2_settle (nI N) imp N R (nI p) b = G := by
    intro G h1 h2
    unfold D_X2_settle
    rw [cif_neg (nI_pos (by omega)), cif_pos ((nI_ltI (by omega) (by omega)).mpr hp)]
    cases b with
    | true =>
      rw [cif_pos rfl, cif_pos (vp_in_nI hp (by omega)), nI_clamp (by omega)]
      by_cases e : R p = 0
      · rw [cif_pos e]; exact h1 e
      · rw [cif_neg e, cif_pos (vp_in_nI hp (by omega))]; exact h2 e
    | false =>
      rw [cif_neg (by simp), cif_pos (vp_in_nI hp (by omega)), nI_clamp (by omega)]
      by_cases e : R p = 0
      · rw [cif_pos e]; exact h1 e
      · rw [cif_neg e, cif_pos (vp_in_nI hp (by omega))]; exact h2 e
  by_cases e : R p = 0
  · obtain ⟨R', e1, q⟩ := settle_loop hN R imp hp b p 0 R (by omega) (fun j hj => by rw [if_neg (fun c => by omega)])
    have hz : ∀ j, j < N → (tb (R j) p = true ↔ j < p ∧ tb (R j) p = true) := fun j hj => by
      refine ⟨fun h => ⟨?_, h⟩, fun h => h.2⟩
      apply Classical.byContradiction
      intro c
      by_cases w : j = p
      · rw [w, e, tb_0] at h; cases h
      · have j0 : R j ≠ 0 := fun z => by rw [z, tb_0] at h; cases h
        rw [(hR j hj j0).1.2 p (by omega)] at h
        cases h
    have q2 : ∀ j, j < N → R' j = if tb (R j) p = true then R j ^^^ chg p b else R j := fun j hj => by
      rw [q j hj]
      by_cases d : tb (R j) p = true
      · rw [if_pos ((hz j hj).mp d), if_pos d]
      · rw [if_neg (fun c => d c.2), if_neg d]
    have hne : ∀ j, j < N → R' j ≠ 0 → R j ≠ 0 := fun j hj h z => h (by rw [q2 j hj, z, tb_0]; rfl)
    refine ⟨imp, R', hD _ (fun _ => e1) (fun h => absurd e h), ?_, fun j hj => ?_, fun v hv h1 j hj => ?_, fun a ha => ?_⟩
    · intro j hj h0
      have j0 := hne j hj h0
      obtain ⟨jl, j62, jd⟩ := hR j hj j0
      rw [q2 j hj]
      by_cases d : tb (R j) p = true
      · have hjp := ((hz j hj).mp d).1
        rw [if_pos d]
        refine ⟨⟨?_, fun i hi => ?_⟩, j62.xor (chg_eq62 hN hp b), fun k hk hkj k0 => ?_⟩
        · rw [tb_xor, jl.1, chg_tb (by omega), decide_eq_false (show ¬ j = p by omega), decide_eq_false (show ¬ j = 62 by omega)]; simp
        · rw [tb_xor, jl.2 i hi, chg_tb (by omega), decide_eq_false (show ¬ i = p by omega), decide_eq_false (show ¬ i = 62 by omega)]; simp
        · have hk0 := hne k hk k0
          rw [tb_xor, jd k hk hkj hk0, chg_tb (by omega), decide_eq_false (show ¬ k = 62 by omega)]
          have : k ≠ p := fun z => hk0 (by rw [z]; exact e)
          rw [decide_eq_false this]; simp
      · rw [if_neg d]
        exact ⟨jl, j62, fun k hk hkj k0 => jd k hk hkj (hne k hk k0)⟩
    · rw [q2 j hj]
      cases d : tb (R j) p with
      | true => rw [if_pos rfl, tb_xor, d, chg_tb (by omega)]; simp
      | false => rw [if_neg (by simp)]; exact d
    · rw [q2 j hj]
      split
      · next d =>
        rw [tb_xor, h1 j hj, chg_tb (by omega), decide_eq_false (show ¬ v = 62 by omega)]
        have : v ≠ p := fun z => by rw [z] at h1; rw [h1 j hj] at d; cases d
        rw [decide_eq_false this]; simp
      · exact h1 j hj
    · have hc : holds N (chg p b) a := (chg_holds hN hp b a).mpr ha
      refine and_congr_right (fun _ => ?_)
      constructor
      · intro hs j hj
        have := hs j hj
        rw [q2 j hj] at this
        split at this
        · exact holds_back hc this
        · exact this
      · intro hs j hj
        rw [q2 j hj]
        split
        · exact holds_xor (hs j hj) hc
        · exact hs j hj
  · obtain ⟨pl, p62, pd⟩ := hR p hp e
    have hR1 : Shape N (vp_updL R p 0) := by
      intro j hj h0
      have hjp : j ≠ p := fun z => h0 (by rw [z]; exact pk_uLs)
      rw [pk_uLn hjp] at h0 ⊢
      obtain ⟨jl, j62, jd⟩ := hR j hj h0
      refine ⟨jl, j62, fun k hk hkj k0 => ?_⟩
      have hkp : k ≠ p := fun z => k0 (by rw [z]; exact pk_uLs)
      rw [pk_uLn hkp] at k0
      exact jd k hk hkj k0
    have hred : ∀ k, k < N → vp_updL R p 0 k ≠ 0 → tb (R p ^^^ chg p b) k = false := fun k hk k0 => by
      have hkp : k ≠ p := fun z => k0 (by rw [z]; exact pk_uLs)
      rw [pk_uLn hkp] at k0
      rw [tb_xor, pd k hk hkp k0, chg_tb (by omega), decide_eq_false hkp, decide_eq_false (show ¬ k = 62 by omega)]; simp
    obtain ⟨imp', R', e1, s1, s2, s3⟩ := enter_says hN (imp := imp) hR1 (p62.xor (chg_eq62 hN hp b)) hred
    have hxp : tb (R p ^^^ chg p b) p = false := by rw [tb_xor, pl.1, chg_tb (by omega)]; simp
    refine ⟨imp', R', hD _ (fun h => absurd h e) (fun _ => by rw [e1]; rfl), s1, ?_, fun v hv h1 => ?_, fun a ha => ?_⟩
    · refine s3 p (fun j hj => ?_) hxp
      by_cases w : j = p
      · rw [w, pk_uLs]; exact tb_0 p
      · rw [pk_uLn w]
        by_cases z : R j = 0
        · rw [z]; exact tb_0 p
        · exact (hR j hj z).2.2 p hp (fun y => w y.symm) e
    · refine s3 v (fun j hj => ?_) ?_
      · by_cases w : j = p
        · rw [w, pk_uLs]; exact tb_0 v
        · rw [pk_uLn w]; exact h1 j hj
      · have hvp : v ≠ p := fun z => by rw [z] at h1; have := h1 p hp; rw [pl.1] at this; cases this
        rw [tb_xor, h1 p hp, chg_tb (by omega), decide_eq_false hvp, decide_eq_false (show ¬ v = 62 by omega)]; simp
    · rw [s2 a]
      have hc : holds N (chg p b) a := (chg_holds hN hp b a).mpr ha
      refine and_congr_right (fun _ => ?_)
      constructor
      · intro ⟨h1, h2⟩ j hj
        by_cases w : j = p
        · rw [w]; exact holds_back hc h2
        · have := h1 j hj
          rw [pk_uLn w] at this
          exact this
      · intro hs
        refine ⟨fun j hj => ?_, holds_xor (hs p hp) hc⟩
        by_cases w : j = p
        · rw [w, pk_uLs]; exact holds_0
        · rw [pk_uLn w]; exact hs j hj
