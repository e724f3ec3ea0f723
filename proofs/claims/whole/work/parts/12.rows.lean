/-! THE CLASS's ROWS -/
theorem lp_pow : ∀ h, h < 64 → D_J13_bitCount_95d88 (jshl 1 (nI h) - 1) = some (nI h) := by decide +kernel
theorem lp_m1 : D_J13_bitCount_95d88 ((0 &&& -0) - 1) = some (nI 64) := by decide +kernel
theorem lp_low {x : Int64} {h : Nat} (hx : isLow x h) : D_X7_leastPlace x = some (nI h) := by
  unfold D_X7_leastPlace
  rw [low_neg hx, lp_pow h hx.lt]
  rfl
theorem lp_zero : D_X7_leastPlace 0 = some (nI 64) := by
  unfold D_X7_leastPlace
  rw [lp_m1]
  rfl
theorem nI_lt40 {N : Nat} (h : N ≤ 40) : N < 2 ^ 31 := by omega
/-- Arrays.fill -/
theorem fill_ok {N : Nat} (hN : N ≤ 2000) (v : Int64) : ∀ (k i : Nat) (h : Nat → Int64), i + k = N → (∀ j, j < i → h j = v) → ∃ h', L_J7_fill_d0a16_6 N v (nI i) (nI N) h = some h' ∧ ∀ j, j < N → h' j = v := by
  intro k
  induction k with
  | zero =>
    intro i h hi hj
    refine ⟨h, ?_, fun j q => hj j (by omega)⟩
    rw [E_J7_fill_d0a16_6, cif_pos ((nI_leI (by omega) (by omega)).mpr (by omega))]
  | succ k ih =>
    intro i h hi hj
    obtain ⟨h', e, q⟩ := ih (i + 1) (vp_updL h i v) (by omega) (fun j hlt => by
      by_cases e : j = i
      · rw [e]; exact pk_uLs
      · rw [pk_uLn e]; exact hj j (by omega))
    refine ⟨h', ?_, q⟩
    rw [E_J7_fill_d0a16_6, cif_neg (fun c => by have := (nI_leI (by omega) (by omega)).mp c; omega), cif_pos (vp_in_nI (by omega) (by omega)), nI_clamp (by omega), nI_1]
    exact e
theorem fill_spec {N : Nat} (hN : N ≤ 2000) (h : Nat → Int64) (v : Int64) : ∃ h', D_J7_fill_d0a16 N h v = some h' ∧ ∀ j, j < N → h' j = v := by
  obtain ⟨h', e, q⟩ := fill_ok hN v N 0 h (by omega) (fun j hj => by omega)
  refine ⟨h', ?_, q⟩
  unfold D_J7_fill_d0a16
  exact e
/-- an equation plus those rows whose heads it has -/
def redF (R : Nat → Int64) (x : Int64) : Nat → Int64
  | 0 => x
  | n + 1 => if tb x n then redF R x n ^^^ R n else redF R x n
theorem red_loop {N : Nat} (hN : N ≤ 40) (R : Nat → Int64) (x : Int64) : ∀ (k i : Nat), i + k = N → L_X2_reduced_5 (nI N) N R x (redF R x i) (nI i) = some (redF R x N) := by
  intro k
  induction k with
  | zero =>
    intro i hi
    rw [E_X2_reduced_5, cif_pos ((nI_leI (by omega) (by omega)).mpr (by omega)), show i = N by omega]
  | succ k ih =>
    intro i hi
    rw [E_X2_reduced_5, cif_neg (fun c => by have := (nI_leI (by omega) (by omega)).mp c; omega), nI_1]
    cases e : tb x i with
    | false =>
      rw [cif_pos ((ju_bit (by omega)).mpr e), ← ih (i + 1) (by omega)]
      show _ = L_X2_reduced_5 (nI N) N R x (if tb x i then redF R x i ^^^ R i else redF R x i) (nI (i + 1))
      rw [e]; rfl
    | true =>
      rw [cif_neg (fun c => by rw [ju_bit (by omega), e] at c; cases c), cif_pos (vp_in_nI (by omega) (by omega)), nI_clamp (by omega), ← ih (i + 1) (by omega)]
      show _ = L_X2_reduced_5 (nI N) N R x (if tb x i then redF R x i ^^^ R i else redF R x i) (nI (i + 1))
      rw [e]; rfl
theorem red_spec {N : Nat} (hN : N ≤ 40) (R : Nat → Int64) (x : Int64) : D_X2_reduced (nI N) N R x = some (redF R x N) := by
  unfold D_X2_reduced
  exact red_loop hN R x N 0 (by omega)
theorem redF_eq62 {N M : Nat} {R : Nat → Int64} {x : Int64} (hR : ∀ h, h < N → Eq62 M (R h)) (hx : Eq62 M x) : ∀ i, i ≤ N → Eq62 M (redF R x i) := by
  intro i
  induction i with
  | zero => intro _; exact hx
  | succ i ih =>
    intro hi
    show Eq62 M (if tb x i then redF R x i ^^^ R i else redF R x i)
    split
    · exact (ih (by omega)).xor (hR i (by omega))
    · exact ih (by omega)
theorem Shape.eq62 {N : Nat} {R : Nat → Int64} (hR : Shape N R) {h : Nat} (hh : h < N) : Eq62 N (R h) := by
  by_cases e : R h = 0
  · rw [e]; exact Eq62.zero
  · exact (hR h hh e).2.1
/-- a variable of the rest: it was in the equation, and is no head; or came with a row -/
theorem redF_head {N : Nat} {R : Nat → Int64} (hR : Shape N R) {x : Int64} {h : Nat} (hh : h < N) (h0 : R h ≠ 0) : ∀ i, i ≤ N → tb (redF R x i) h = if h < i then false else tb x h := by
  intro i
  induction i with
  | zero => intro _; rw [if_neg (by omega)]; rfl
  | succ i ih =>
    intro hi
    show tb (if tb x i then redF R x i ^^^ R i else redF R x i) h = _
    have hl := (hR h hh h0).1
    by_cases e : i = h
    · subst e
      have q := ih (by omega)
      rw [if_neg (Nat.lt_irrefl i)] at q
      rw [if_pos (Nat.lt_succ_self i)]
      cases e : tb x i with
      | false => rw [if_neg (by simp)]; exact q.trans e
      | true => rw [if_pos rfl, tb_xor, q, e, hl.1]; rfl
    · have q := ih (by omega)
      have hz : tb (R i) h = false := by
        by_cases z : R i = 0
        · rw [z]; exact tb_0 h
        · exact (hR i (by omega) z).2.2 h hh (fun w => e w.symm) h0
      have hlt : (h < i + 1) ↔ (h < i) := by omega
      by_cases c : h < i
      · rw [if_pos (hlt.mpr c)]
        rw [if_pos c] at q
        split
        · rw [tb_xor, q, hz]; rfl
        · exact q
      · rw [if_neg (fun w => c (hlt.mp w))]
        rw [if_neg c] at q
        split
        · rw [tb_xor, q, hz]; cases tb x h <;> rfl
        · exact q
theorem redF_holds {N : Nat} {R : Nat → Int64} {x : Int64} {a : Nat → Bool} (ha : SatR N R a) : ∀ i, i ≤ N → (holds N (redF R x i) a ↔ holds N x a) := by
  intro i
  induction i with
  | zero => intro _; exact Iff.rfl
  | succ i ih =>
    intro hi
    show holds N (if tb x i then redF R x i ^^^ R i else redF R x i) a ↔ _
    split
    · rw [← ih (by omega)]
      exact ⟨fun h => holds_back (ha i (by omega)) h, fun h => holds_xor h (ha i (by omega))⟩
    · exact ih (by omega)
/-- rows with a new one, whose head goes out of those before it -/
def entF (R : Nat → Int64) (x : Int64) (h : Nat) (j : Nat) : Int64 := if j = h then x else if j < h ∧ tb (R j) h = true then R j ^^^ x else R j
theorem ent_loop {N : Nat} (hN : N ≤ 40) (R : Nat → Int64) (x : Int64) (imp : Bool) {h : Nat} (hh : h < N) : ∀ (k i : Nat) (G : Nat → Int64), i + k = h → (∀ j, j < N → G j = if j < i then entF R x h j else R j) →
    ∃ R', L_X2_enter_52 (nI N) N x (nI h) (nI i) imp G = some (imp, R') ∧ ∀ j, j < N → R' j = entF R x h j := by
  intro k
  induction k with
  | zero =>
    intro i G hi hG
    refine ⟨vp_updL G h x, ?_, fun j hj => ?_⟩
    · rw [E_X2_enter_52, cif_pos ((nI_leI (by omega) (by omega)).mpr (by omega)), cif_pos (vp_in_nI hh (by omega)), nI_clamp (by omega)]
    · by_cases e : j = h
      · rw [e, pk_uLs]; unfold entF; rw [if_pos rfl]
      · rw [pk_uLn e, hG j hj]
        split
        · rfl
        · unfold entF; rw [if_neg e, if_neg (fun c => by omega)]
  | succ k ih =>
    intro i G hi hG
    have gi := hG i (by omega)
    rw [if_neg (by omega)] at gi
    rw [E_X2_enter_52, cif_neg (fun c => by have := (nI_leI (by omega) (by omega)).mp c; omega), cif_pos (vp_in_nI (by omega) (by omega)), nI_clamp (by omega), nI_1, gi]
    cases e : tb (R i) h with
    | false =>
      rw [cif_pos ((ju_bit (by omega)).mpr e)]
      refine ih (i + 1) G (by omega) (fun j hj => ?_)
      rw [hG j hj]
      by_cases q : j = i
      · subst q
        rw [if_neg (by omega), if_pos (by omega)]
        unfold entF
        rw [if_neg (by omega), if_neg (fun c => by rw [e] at c; cases c.2)]
      · by_cases c : j < i
        · rw [if_pos c, if_pos (by omega)]
        · rw [if_neg c, if_neg (by omega)]
    | true =>
      rw [cif_neg (fun c => by rw [ju_bit (by omega), e] at c; cases c), cif_pos (vp_in_nI (by omega) (by omega)), cif_pos (vp_in_nI (by omega) (by omega))]
      refine ih (i + 1) (vp_updL G i (R i ^^^ x)) (by omega) (fun j hj => ?_)
      by_cases q : j = i
      · subst q
        rw [pk_uLs, if_pos (by omega)]
        unfold entF
        rw [if_neg (by omega), if_pos ⟨by omega, e⟩]
      · rw [pk_uLn q, hG j hj]
        by_cases c : j < i
        · rw [if_pos c, if_pos (by omega)]
        · rw [if_neg c, if_neg (by omega)]
theorem set_low {N : Nat} (hN : N ≤ 40) {x : Int64} (hx : Eq62 N x) (hne : ∃ i, i < N ∧ tb x i = true) : ∃ h, h < N ∧ isLow x h ∧ isLow (x &&& (-4611686018427387905)) h := by
  obtain ⟨h, h1, h2⟩ := pk_least (fun i => i < N ∧ tb x i = true) hne
  have hb : ∀ j, j < h → tb x j = false := fun j hj => by
    cases e : tb x j with
    | false => rfl
    | true => exact absurd ⟨by omega, e⟩ (h2 j hj)
  refine ⟨h, h1.1, ⟨h1.2, hb⟩, ?_, fun j hj => ?_⟩
  · rw [tb_and, h1.2, tb_nR (by omega), decide_eq_true (by omega)]; rfl
  · rw [tb_and, hb j hj]; rfl
theorem set_zero {N : Nat} (hN : N ≤ 40) {x : Int64} (hx : Eq62 N x) (h : ∀ i, i < N → tb x i = false) : (x &&& (-4611686018427387905)) = 0 := by
  rw [tb_eq0]
  intro i hi
  rw [tb_and, tb_nR hi]
  by_cases e : i = 62
  · rw [decide_eq_false (by omega)]; simp
  · rcases Nat.lt_or_ge i N with q | q
    · rw [h i q]; rfl
    · rw [hx i q e]; rfl
/-- enter, of an equation without variables -/
theorem ent_none {N : Nat} (hN : N ≤ 40) (R : Nat → Int64) {x : Int64} (imp : Bool) (hx : Eq62 N x) (h : ∀ i, i < N → tb x i = false) : D_X2_enter (nI N) imp N R x = some (imp || tb x 62, R) := by
  unfold D_X2_enter
  rw [set_zero hN hx h, lp_m1]
  show cif (nI 64 < nI N) _ _ = _
  rw [cif_neg (fun c => by have := (nI_ltI (by omega) (by omega)).mp c; omega)]
  cases imp with
  | true => rw [cif_pos rfl]; rfl
  | false =>
    rw [cif_neg (by simp)]
    cases e : tb x 62 with
    | true => rw [cif_neg (fun c => by rw [c, tb_0] at e; cases e)]; rfl
    | false =>
      rw [cif_pos]
      · rfl
      · rw [tb_eq0]
        intro i hi
        rcases Nat.lt_or_ge i N with q | q
        · exact h i q
        · by_cases w : i = 62
          · rw [w]; exact e
          · exact hx i q w
/-- enter, of one with variables -/
theorem ent_some {N : Nat} (hN : N ≤ 40) (R : Nat → Int64) {x : Int64} (imp : Bool) (hx : Eq62 N x) {h : Nat} (hh : h < N) (hl : isLow x h) : ∃ R', D_X2_enter (nI N) imp N R x = some (imp, R') ∧ ∀ j, j < N → R' j = entF R x h j := by
  obtain ⟨R', e, q⟩ := ent_loop hN R x imp hh h 0 R (by omega) (fun j hj => by rw [if_neg (by omega)])
  refine ⟨R', ?_, q⟩
  have hl2 : isLow (x &&& (-4611686018427387905)) h := ⟨by rw [tb_and, hl.1, tb_nR (by omega), decide_eq_true (by omega)]; rfl, fun j hj => by rw [tb_and, hl.2 j hj]; rfl⟩
  unfold D_X2_enter
  rw [low_neg hl2, lp_pow h hl2.lt]
  show cif (nI h < nI N) _ _ = _
  rw [cif_pos ((nI_ltI (by omega) (by omega)).mpr hh)]
  exact e
theorem entF_shape {N : Nat} (hN : N ≤ 40) {R R' : Nat → Int64} (hR : Shape N R) {x : Int64} (hx : Eq62 N x) {h : Nat} (hh : h < N) (hl : isLow x h) (hred : ∀ k, k < N → R k ≠ 0 → tb x k = false) (he : ∀ j, j < N → R' j = entF R x h j) : Shape N R' := by
  have hRh : R h = 0 := by
    apply Classical.byContradiction
    intro q
    have := hred h hh q
    rw [hl.1] at this
    cases this
  intro j hj h0
  rw [he j hj] at h0 ⊢
  have hk0 : ∀ k, k < N → R' k ≠ 0 → k = h ∨ R k ≠ 0 := by
    intro k hk q
    by_cases e : k = h
    · exact Or.inl e
    · refine Or.inr (fun z => q ?_)
      rw [he k hk]
      unfold entF
      rw [if_neg e, z]
      split
      · next c => rw [tb_0] at c; cases c.2
      · rfl
  by_cases e : j = h
  · subst e
    unfold entF
    rw [if_pos rfl]
    refine ⟨hl, hx, fun k hk hne q => ?_⟩
    rcases hk0 k hk q with w | w
    · exact absurd w hne
    · exact hred k hk w
  · have hj0 : R j ≠ 0 := by
      rcases hk0 j hj (by rw [he j hj]; exact h0) with w | w
      · exact absurd w e
      · exact w
    obtain ⟨jl, j62, jd⟩ := hR j hj hj0
    by_cases c : j < h ∧ tb (R j) h = true
    · have hv : entF R x h j = R j ^^^ x := by unfold entF; rw [if_neg e, if_pos c]
      rw [hv]
      refine ⟨⟨?_, fun i hi => ?_⟩, j62.xor hx, fun k hk hne q => ?_⟩
      · rw [tb_xor, jl.1, hred j hj hj0]; rfl
      · rw [tb_xor, jl.2 i hi, hl.2 i (by omega)]; rfl
      · rcases hk0 k hk q with w | w
        · subst w; rw [tb_xor, c.2, hl.1]; rfl
        · rw [tb_xor, jd k hk hne w, hred k hk w]; rfl
    · have hv : entF R x h j = R j := by unfold entF; rw [if_neg e, if_neg c]
      rw [hv]
      refine ⟨jl, j62, fun k hk hne q => ?_⟩
      rcases hk0 k hk q with w | w
      · subst w
        cases z : tb (R j) k with
        | false => rfl
        | true =>
          rcases Nat.lt_trichotomy j k with y | y | y
          · exact absurd ⟨y, z⟩ c
          · exact absurd y e
          · rw [jl.2 k y] at z; cases z
      · exact jd k hk hne w
theorem entF_sat {N : Nat} {R R' : Nat → Int64} {x : Int64} {h : Nat} (hh : h < N) (hRh : R h = 0) (he : ∀ j, j < N → R' j = entF R x h j) (a : Nat → Bool) : SatR N R' a ↔ SatR N R a ∧ holds N x a := by
  constructor
  · intro hs
    have hx : holds N x a := by
      have := hs h hh
      rw [he h hh] at this
      unfold entF at this
      rw [if_pos rfl] at this
      exact this
    refine ⟨fun j hj => ?_, hx⟩
    have := hs j hj
    rw [he j hj] at this
    unfold entF at this
    by_cases e : j = h
    · rw [e, hRh]; exact holds_0
    · rw [if_neg e] at this
      split at this
      · exact holds_back hx this
      · exact this
  · intro ⟨hs, hx⟩ j hj
    rw [he j hj]
    unfold entF
    split
    · exact hx
    · split
      · exact holds_xor (hs j hj) hx
      · exact hs j hj
