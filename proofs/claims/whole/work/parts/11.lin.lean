/-! SUMS OF BITS: dot N x a is the sum of those of x's variables (below N) that a has 1; an equation is x with its right side at bit 62 -/
def dot : Nat → Int64 → (Nat → Bool) → Bool
  | 0, _, _ => false
  | n + 1, x, a => dot n x a ^^ (tb x n && a n)
theorem dot_xor (N : Nat) (x y : Int64) (a : Nat → Bool) : dot N (x ^^^ y) a = (dot N x a ^^ dot N y a) := by
  induction N with
  | zero => rfl
  | succ n ih =>
    show (dot n (x ^^^ y) a ^^ (tb (x ^^^ y) n && a n)) = ((dot n x a ^^ (tb x n && a n)) ^^ (dot n y a ^^ (tb y n && a n)))
    rw [ih, tb_xor]
    cases dot n x a <;> cases dot n y a <;> cases tb x n <;> cases tb y n <;> cases a n <;> rfl
theorem dot_none {N : Nat} {x : Int64} {a : Nat → Bool} (h : ∀ i, i < N → tb x i = true → a i = false) : dot N x a = false := by
  induction N with
  | zero => rfl
  | succ n ih =>
    show (dot n x a ^^ (tb x n && a n)) = false
    rw [ih (fun i hi => h i (by omega))]
    cases e : tb x n with
    | false => rfl
    | true => rw [h n (by omega) e]; rfl
theorem dot_zero {N : Nat} {x : Int64} {a : Nat → Bool} (h : ∀ i, i < N → tb x i = false) : dot N x a = false := dot_none (fun i hi e => by rw [h i hi] at e; cases e)
theorem dot_congr {N : Nat} {x : Int64} {a b : Nat → Bool} (h : ∀ i, i < N → tb x i = true → a i = b i) : dot N x a = dot N x b := by
  induction N with
  | zero => rfl
  | succ n ih =>
    show (dot n x a ^^ (tb x n && a n)) = (dot n x b ^^ (tb x n && b n))
    rw [ih (fun i hi => h i (by omega))]
    cases e : tb x n with
    | false => rfl
    | true => rw [h n (by omega) e]
theorem dot_same {N : Nat} {x y : Int64} {a : Nat → Bool} (h : ∀ i, i < N → tb x i = tb y i) : dot N x a = dot N y a := by
  induction N with
  | zero => rfl
  | succ n ih =>
    show (dot n x a ^^ (tb x n && a n)) = (dot n y a ^^ (tb y n && a n))
    rw [ih (fun i hi => h i (by omega)), h n (by omega)]
theorem dot_one {N k : Nat} {x : Int64} {a : Nat → Bool} (hk : k < N) (hx : tb x k = true) (h : ∀ i, i < N → i ≠ k → tb x i = true → a i = false) : dot N x a = a k := by
  induction N with
  | zero => omega
  | succ n ih =>
    show (dot n x a ^^ (tb x n && a n)) = a k
    rcases Nat.lt_or_ge k n with q | q
    · rw [ih q (fun i hi => h i (by omega))]
      cases e : tb x n with
      | false => simp
      | true => rw [h n (by omega) (by omega) e]; simp
    · have : k = n := by omega
      subst this
      rw [dot_none (fun i hi e => h i (by omega) (by omega) e), hx]
      simp
theorem dot_bit {N k : Nat} (hk : k < N) (hN : N ≤ 64) (a : Nat → Bool) : dot N (jshl 1 (nI k)) a = a k :=
  dot_one hk (by rw [tb_bit (by omega)]; simp) (fun i hi hne e => by rw [tb_bit (by omega)] at e; simp at e; exact absurd e hne)
/-- the equation e is right under a -/
def holds (N : Nat) (e : Int64) (a : Nat → Bool) : Prop := dot N e a = tb e 62
theorem holds_xor {N : Nat} {e f : Int64} {a : Nat → Bool} (he : holds N e a) (hf : holds N f a) : holds N (e ^^^ f) a := by
  unfold holds at *
  rw [dot_xor, tb_xor, he, hf]
theorem holds_0 {N : Nat} {a : Nat → Bool} : holds N 0 a := by
  unfold holds
  rw [tb_0, dot_zero (fun i _ => tb_0 i)]
theorem holds_back {N : Nat} {e f : Int64} {a : Nat → Bool} (hf : holds N f a) (h : holds N (e ^^^ f) a) : holds N e a := by
  have := holds_xor h hf
  rw [show e ^^^ f ^^^ f = e from tb_ext (fun i _ => by rw [tb_xor, tb_xor]; cases tb e i <;> cases tb f i <;> rfl)] at this
  exact this
/-- bits below N, and bit 62 -/
def Eq62 (N : Nat) (e : Int64) : Prop := ∀ i, N ≤ i → i ≠ 62 → tb e i = false
theorem Eq62.xor {N : Nat} {x y : Int64} (hx : Eq62 N x) (hy : Eq62 N y) : Eq62 N (x ^^^ y) := fun i h1 h2 => by rw [tb_xor, hx i h1 h2, hy i h1 h2]; rfl
theorem Eq62.zero {N : Nat} : Eq62 N 0 := fun i _ _ => tb_0 i
theorem Lo.eq62 {N : Nat} {x : Int64} (h : Lo N x) : Eq62 N x := fun i h1 _ => h i h1
/-- ROWS by their heads: each one's least variable is its place, which no other one has -/
def Shape (N : Nat) (R : Nat → Int64) : Prop := ∀ h, h < N → R h ≠ 0 → isLow (R h) h ∧ Eq62 N (R h) ∧ ∀ k, k < N → k ≠ h → R k ≠ 0 → tb (R h) k = false
def SatR (N : Nat) (R : Nat → Int64) (a : Nat → Bool) : Prop := ∀ h, h < N → holds N (R h) a
/-- whatever the other variables are, the heads can be chosen -/
theorem shape_free {N : Nat} {R : Nat → Int64} (hN : N ≤ 62) (hR : Shape N R) (f : Nat → Bool) : ∃ a : Nat → Bool, SatR N R a ∧ ∀ i, i < N → R i = 0 → a i = f i := by
  refine ⟨fun i => @ite Bool (R i = 0) (Classical.propDecidable _) (f i) (dot N (R i ^^^ jshl 1 (nI i)) f ^^ tb (R i) 62), ?_, fun i _ h => if_pos h⟩
  intro h hh
  by_cases h0 : R h = 0
  · rw [h0]; exact holds_0
  · obtain ⟨hl, he, hd⟩ := hR h hh h0
    unfold holds
    have e1 : R h = (R h ^^^ jshl 1 (nI h)) ^^^ jshl 1 (nI h) := tb_ext (fun i _ => by rw [tb_xor, tb_xor]; cases tb (R h) i <;> cases tb (jshl 1 (nI h)) i <;> rfl)
    rw [e1, dot_xor, dot_bit hh (by omega), ← e1]
    have e2 : dot N (R h ^^^ jshl 1 (nI h)) (fun i => @ite Bool (R i = 0) (Classical.propDecidable _) (f i) (dot N (R i ^^^ jshl 1 (nI i)) f ^^ tb (R i) 62)) = dot N (R h ^^^ jshl 1 (nI h)) f := by
      refine dot_congr (fun i hi e => ?_)
      rw [tb_xor, tb_bit (by omega)] at e
      have hne : i ≠ h := by
        intro q
        subst q
        rw [hl.1] at e
        simp at e
      rw [decide_eq_false hne] at e
      have hi0 : R i = 0 := by
        apply Classical.byContradiction
        intro q
        rw [hd i hi hne q] at e
        cases e
      exact if_pos hi0
    rw [e2]
    show (dot N (R h ^^^ jshl 1 (nI h)) f ^^ @ite Bool (R h = 0) (Classical.propDecidable _) (f h) (dot N (R h ^^^ jshl 1 (nI h)) f ^^ tb (R h) 62)) = _
    rw [if_neg h0]
    cases dot N (R h ^^^ jshl 1 (nI h)) f <;> simp
/-- a variable that is a row by itself has one value; any other one has both -/
theorem shape_unit {N : Nat} {R : Nat → Int64} (hN : N ≤ 62) {v : Nat} (hv : v < N) (h1 : ∀ i, i < N → tb (R v) i = decide (i = v)) {a : Nat → Bool} (ha : SatR N R a) : a v = tb (R v) 62 := by
  have := ha v hv
  unfold holds at this
  rw [← this]
  exact (dot_one hv (by rw [h1 v hv]; simp) (fun i hi hne e => by rw [h1 i hi, decide_eq_false hne] at e; cases e)).symm
theorem shape_both {N : Nat} {R : Nat → Int64} (hN : N ≤ 62) (hR : Shape N R) {v : Nat} (hv : v < N) (h1 : ¬ ∀ i, i < N → tb (R v) i = decide (i = v)) (b : Bool) : ∃ a, SatR N R a ∧ a v = b := by
  by_cases h0 : R v = 0
  · obtain ⟨a, ha, hf⟩ := shape_free hN hR (fun _ => b)
    exact ⟨a, ha, hf v hv h0⟩
  · obtain ⟨hl, he, hd⟩ := hR v hv h0
    have : ∃ w, w < N ∧ w ≠ v ∧ tb (R v) w = true := by
      apply Classical.byContradiction
      intro hn
      apply h1
      intro i hi
      by_cases e : i = v
      · subst e; rw [hl.1]; simp
      · rw [decide_eq_false e]
        cases q : tb (R v) i with
        | false => rfl
        | true => exact absurd ⟨i, hi, e, q⟩ hn
    obtain ⟨w, hw, hwv, hb⟩ := this
    have hw0 : R w = 0 := by
      apply Classical.byContradiction
      intro q
      rw [hd w hw hwv q] at hb
      cases hb
    -- all other free variables 0, w chosen
    obtain ⟨a, ha, hf⟩ := shape_free hN hR (fun i => decide (i = w) && (b ^^ tb (R v) 62))
    refine ⟨a, ha, ?_⟩
    have h2 := ha v hv
    unfold holds at h2
    have e1 : R v = (R v ^^^ jshl 1 (nI v)) ^^^ jshl 1 (nI v) := tb_ext (fun i _ => by rw [tb_xor, tb_xor]; cases tb (R v) i <;> cases tb (jshl 1 (nI v)) i <;> rfl)
    rw [e1, dot_xor, dot_bit hv (by omega), ← e1] at h2
    have e2 : dot N (R v ^^^ jshl 1 (nI v)) a = a w := by
      refine dot_one hw (by rw [tb_xor, hb, tb_bit (by omega), decide_eq_false hwv]; rfl) (fun i hi hne e => ?_)
      rw [tb_xor, tb_bit (by omega)] at e
      have hiv : i ≠ v := by
        intro q
        subst q
        rw [hl.1] at e
        simp at e
      rw [decide_eq_false hiv] at e
      have hi0 : R i = 0 := by
        apply Classical.byContradiction
        intro q
        rw [hd i hi hiv q] at e
        cases e
      rw [hf i hi hi0, decide_eq_false hne]
      rfl
    rw [e2, hf w hw hw0] at h2
    rw [decide_eq_true rfl] at h2
    revert h2
    cases a v <;> cases b <;> cases tb (R v) 62 <;> simp
