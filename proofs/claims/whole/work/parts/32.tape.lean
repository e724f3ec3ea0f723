/-! READ, part 1: bytes, blanks, numbers, literals -/
def bt (L : Nat) (T : Nat → Int32) (p : Nat) : Int32 := if p < L then T p else -1
def blk (b : Int32) : Bool := decide (b = 32 ∨ b = 10)
def fgb (b : Int32) : Bool := decide (¬ b < 48 ∧ ¬ 57 < b)
theorem bt_end {L : Nat} {T : Nat → Int32} {p : Nat} (h : L ≤ p) : bt L T p = -1 := if_neg (by omega)
theorem blk6 (b : Int32) : D_X6_isBlank b = some (blk b) := by
  unfold D_X6_isBlank blk
  by_cases h : b = 32
  · rw [cif_pos h, decide_eq_true (Or.inl h)]
  · rw [cif_neg h]
    by_cases h2 : b = 10
    · rw [cif_pos h2, decide_eq_true (Or.inr h2)]
    · rw [cif_neg h2, decide_eq_false (fun z => z.elim h h2)]
theorem blk8 (b : Int32) : D_X8_isBlank b = some (blk b) := blk6 b
theorem fig6 (b : Int32) : D_X6_isFigure b = some (fgb b) := by
  unfold D_X6_isFigure fgb
  by_cases h : b < 48
  · rw [cif_pos h, decide_eq_false (fun z => z.1 h)]
  · rw [cif_neg h]
    by_cases h2 : 57 < b
    · rw [cif_pos h2, decide_eq_false (fun z => z.2 h2)]
    · rw [cif_neg h2, decide_eq_true ⟨h, h2⟩]
theorem fig8 (b : Int32) : D_X8_isFigure b = some (fgb b) := fig6 b
section TAP
variable {L : Nat} {T T8 : Nat → Int32}
theorem byteAt_spec (hL : L ≤ 500) {p : Nat} (hp : p < 2 ^ 31) : D_X6_byteAt (nI L) 500 T (nI p) = some (bt L T p) := by
  unfold D_X6_byteAt bt
  rw [cif_neg (nI_pos hp)]
  by_cases h : p < L
  · rw [cif_neg (nI_ge h (by omega)), cif_neg (show ¬ (500 : Int32) ≤ nI p from nI_ge (b := 500) (by omega) (by omega)), cif_pos (vp_in_nI (by omega) (by omega)), nI_clamp hp, if_pos h]
  · rw [cif_pos (nI_le (by omega) hp), if_neg h]
theorem here_spec (hL : L ≤ 500) (hT : ∀ p, p < L → T8 p = T p) {p : Nat} (hp : p < 2 ^ 31) : D_X8_here (nI L) (nI p) 500 T8 = some (bt L T p) := by
  unfold D_X8_here bt
  by_cases h : p < L
  · rw [cif_neg (nI_ge h (by omega)), cif_pos (vp_in_nI (by omega) (by omega)), nI_clamp hp, if_pos h, hT p h]
  · rw [cif_pos (nI_le (by omega) hp), if_neg h]
/-- where the blanks end -/
def skf (L : Nat) (T : Nat → Int32) : Nat → Nat → Nat
  | 0, p => p
  | k + 1, p => if blk (bt L T p) then skf L T k (p + 1) else p
def sk (L : Nat) (T : Nat → Int32) (p : Nat) : Nat := skf L T (L - p) p
theorem blk_lt {p : Nat} (h : blk (bt L T p) = true) : p < L := by
  rcases Nat.lt_or_ge p L with q | q
  · exact q
  · rw [bt_end q] at h; exact absurd h (by decide)
theorem fgb_lt {p : Nat} (h : fgb (bt L T p) = true) : p < L := by
  rcases Nat.lt_or_ge p L with q | q
  · exact q
  · rw [bt_end q] at h; exact absurd h (by decide)
theorem ne_lt {p : Nat} {b : Int32} (hb : b ≠ -1) (h : bt L T p = b) : p < L := by
  rcases Nat.lt_or_ge p L with q | q
  · exact q
  · rw [bt_end q] at h; exact absurd h.symm hb
theorem sk_y {p : Nat} (h : blk (bt L T p) = true) : sk L T p = sk L T (p + 1) := by
  have := blk_lt h
  unfold sk
  rw [show L - p = (L - (p + 1)) + 1 by omega]
  show (if blk (bt L T p) then skf L T (L - (p + 1)) (p + 1) else p) = _
  rw [if_pos h]
theorem sk_n {p : Nat} (h : blk (bt L T p) = false) : sk L T p = p := by
  unfold sk
  cases L - p with
  | zero => rfl
  | succ k =>
    show (if blk (bt L T p) then skf L T k (p + 1) else p) = p
    rw [h]; rfl
theorem sk_all : ∀ d p, p + d = L → p ≤ sk L T p ∧ sk L T p ≤ L ∧ blk (bt L T (sk L T p)) = false := by
  intro d
  induction d with
  | zero =>
    intro p hp
    have h : blk (bt L T p) = false := by rw [bt_end (by omega)]; decide
    rw [sk_n h]
    exact ⟨Nat.le_refl p, by omega, h⟩
  | succ d ih =>
    intro p hp
    cases h : blk (bt L T p) with
    | false => rw [sk_n h]; exact ⟨Nat.le_refl p, by omega, h⟩
    | true =>
      rw [sk_y h]
      obtain ⟨a, b, c⟩ := ih (p + 1) (by omega)
      exact ⟨by omega, b, c⟩
theorem sk_spec {p : Nat} (hp : p ≤ L) : p ≤ sk L T p ∧ sk L T p ≤ L ∧ blk (bt L T (sk L T p)) = false := sk_all (L - p) p (by omega)
theorem sk6_loop (hL : L ≤ 500) : ∀ d p t, p + d = L → t + d ≤ 500 → L_X6_skipBlanks_2 (nI L) 500 T (nI t) (nI p) = some (nI (sk L T p)) := by
  intro d
  induction d with
  | zero =>
    intro p t hp ht
    have h : blk (bt L T p) = false := by rw [bt_end (by omega)]; decide
    rw [E_X6_skipBlanks_2, sk_n h]
    by_cases q : (500 : Int32) ≤ nI t
    · rw [cif_pos q]
    · rw [cif_neg q, byteAt_spec hL (by omega), Option.bind_some, blk6, Option.bind_some, h, cif_neg (by simp)]
  | succ d ih =>
    intro p t hp ht
    rw [E_X6_skipBlanks_2, cif_neg (show ¬ (500 : Int32) ≤ nI t from nI_ge (b := 500) (by omega) (by omega)), byteAt_spec hL (by omega), Option.bind_some, blk6, Option.bind_some, nI_1, nI_1]
    cases h : blk (bt L T p) with
    | false => rw [cif_neg (by simp), sk_n h]
    | true => rw [cif_pos rfl, sk_y h, ih (p + 1) (t + 1) (by omega) (by omega)]
theorem sk6 (hL : L ≤ 500) {p : Nat} (hp : p ≤ L) : D_X6_skipBlanks (nI L) (nI p) 500 T = some (nI (sk L T p)) := by
  unfold D_X6_skipBlanks
  exact sk6_loop hL (L - p) p 0 (by omega) (by omega)
theorem sk8_loop (hL : L ≤ 500) (hT : ∀ p, p < L → T8 p = T p) : ∀ d p, p + d = L → L_X8_skip_0 (nI L) 500 T8 (nI p) = some (nI (sk L T p)) := by
  intro d
  induction d with
  | zero =>
    intro p hp
    have h : blk (bt L T p) = false := by rw [bt_end (by omega)]; decide
    rw [E_X8_skip_0, sk_n h, here_spec hL hT (by omega), Option.bind_some, blk8, Option.bind_some, h, cif_neg (by simp)]
  | succ d ih =>
    intro p hp
    rw [E_X8_skip_0, here_spec hL hT (by omega), Option.bind_some, blk8, Option.bind_some, nI_1]
    cases h : blk (bt L T p) with
    | false => rw [cif_neg (by simp), sk_n h]
    | true => rw [cif_pos rfl, sk_y h, ih (p + 1) (by omega)]
theorem sk8 (hL : L ≤ 500) (hT : ∀ p, p < L → T8 p = T p) {p : Nat} (hp : p ≤ L) : D_X8_skip (nI L) (nI p) 500 T8 = some (nI (sk L T p)) := by
  unfold D_X8_skip
  exact sk8_loop hL hT (L - p) p (by omega)
theorem fig_nI {b : Int32} (h : fgb b = true) : ∃ k, k ≤ 9 ∧ b = nI (48 + k) := by
  unfold fgb at h
  have h := of_decide_eq_true h
  obtain ⟨j, h1, rfl⟩ := nI_of2 (x := b) (M := 57) (n := 57) (by decide) (fun z => h.1 (by
    rw [Int32.lt_iff_toInt_lt] at z ⊢
    have a : (0 : Int32).toInt = 0 := by decide
    have c : (48 : Int32).toInt = 48 := by decide
    omega)) (i_le_of h.2)
  have : 48 ≤ j := by
    rcases Nat.lt_or_ge j 48 with q | q
    · exact absurd (show nI j < 48 from nI_lt (b := 48) q (by omega)) h.1
    · exact q
  exact ⟨j - 48, by omega, by rw [show 48 + (j - 48) = j by omega]⟩
theorem jmin_41 {a : Nat} (h : a < 2 ^ 31) : jmin (nI a) 41 = nI (min a 41) := by
  unfold jmin
  by_cases q : 41 < a
  · rw [if_pos (show (41 : Int32) < nI a from nI_lt (a := 41) q h), Nat.min_eq_right (by omega)]; rfl
  · rw [if_neg (show ¬ (41 : Int32) < nI a from nI_nlt (b := a) (a := 41) (by omega) (by omega)), Nat.min_eq_left (by omega)]
theorem dig_c (v k : Nat) : (nI v * 10 + nI (48 + k)) - 48 = nI (v * 10 + k) := by
  rw [show (10 : Int32) = nI 10 from rfl, nI_mul, nI_add, show (48 : Int32) = nI 48 from rfl, nI_sub (by omega)]
  congr 1; omega
theorem dig_r (v k : Nat) : (10 * nI v + nI (48 + k)) - 48 = nI (10 * v + k) := by
  rw [show (10 : Int32) = nI 10 from rfl, nI_mul, nI_add, show (48 : Int32) = nI 48 from rfl, nI_sub (by omega)]
  congr 1; omega
/-- what the reference does behind a number's figures -/
noncomputable def aft (N : Nat) (L : Nat) (T8 : Nat → Int32) (x1 : Int32) (v q : Nat) (fi fa : Int32) : Option (Int32 × Int32 × Int32 × Int32) :=
  cif (nI v ≤ nI N) (Option.bind (D_X8_parted (nI L) fi fa (nI q) 500 T8) (fun u => some (nI v, u.1, u.2, nI q)))
    (Option.bind (D_X8_fail fi fa 2 x1) (fun u => Option.bind (D_X8_parted (nI L) u.1 u.2 (nI q) 500 T8) (fun w => some (nI v, w.1, w.2, nI q))))
theorem num_lock {N : Nat} (hN : N ≤ 40) (hL : L ≤ 500) (hT : ∀ p, p < L → T8 p = T p) (x1 fi fa : Int32) : ∀ d p t vc vr, p + d = L → t + d ≤ 500 → ((vc = vr ∧ vr ≤ N) ∨ (N < vc ∧ N < vr)) → vc ≤ 41 → vr ≤ 409 → ((1 ≤ vc ∧ 1 ≤ vr) ∨ (fgb (bt L T p) = true ∧ bt L T p ≠ 48)) →
    ∃ q vc' vr', p ≤ q ∧ q ≤ L ∧ ((fgb (bt L T p) = true) → p < q) ∧ ((vc' = vr' ∧ vr' ≤ N) ∨ (N < vc' ∧ N < vr')) ∧ vc' ≤ 41 ∧ vr' ≤ 409 ∧ 1 ≤ vc' ∧ 1 ≤ vr' ∧ L_X6_readNumber_4 (nI L) 500 T (nI vc) (nI t) (nI p) = some (nI vc', nI q) ∧
      L_X8_readNumber_7 (nI N) (nI L) 500 T8 x1 (nI vr) fi fa (nI p) = aft N L T8 x1 vr' q fi fa := by
  have stop : ∀ p t vc vr, p ≤ L → ((vc = vr ∧ vr ≤ N) ∨ (N < vc ∧ N < vr)) → vc ≤ 41 → vr ≤ 409 → ((1 ≤ vc ∧ 1 ≤ vr) ∨ (fgb (bt L T p) = true ∧ bt L T p ≠ 48)) → fgb (bt L T p) = false → ∃ q vc' vr', p ≤ q ∧ q ≤ L ∧ ((fgb (bt L T p) = true) → p < q) ∧ ((vc' = vr' ∧ vr' ≤ N) ∨ (N < vc' ∧ N < vr')) ∧ vc' ≤ 41 ∧ vr' ≤ 409 ∧ 1 ≤ vc' ∧ 1 ≤ vr' ∧ L_X6_readNumber_4 (nI L) 500 T (nI vc) (nI t) (nI p) = some (nI vc', nI q) ∧
      L_X8_readNumber_7 (nI N) (nI L) 500 T8 x1 (nI vr) fi fa (nI p) = aft N L T8 x1 vr' q fi fa := by
    intro p t vc vr hp hv h41 h409 h1 hf
    have h1' : 1 ≤ vc ∧ 1 ≤ vr := by
      rcases h1 with h1 | h1
      · exact h1
      · rw [hf] at h1; cases h1.1
    refine ⟨p, vc, vr, Nat.le_refl p, hp, (fun z => by rw [hf] at z; cases z), hv, h41, h409, h1'.1, h1'.2, ?_, ?_⟩
    · rw [E_X6_readNumber_4]
      by_cases q : (500 : Int32) ≤ nI t
      · rw [cif_pos q]
      · rw [cif_neg q, byteAt_spec hL (by omega), Option.bind_some, fig6, Option.bind_some, hf, cif_neg (by simp)]
    · rw [E_X8_readNumber_7, here_spec hL hT (by omega), Option.bind_some, fig8, Option.bind_some, hf, cif_neg (by simp)]
      rfl
  intro d
  induction d with
  | zero =>
    intro p t vc vr hp ht hv h41 h409 h1
    exact stop p t vc vr (by omega) hv h41 h409 h1 (by rw [bt_end (by omega)]; decide)
  | succ d ih =>
    intro p t vc vr hp ht hv h41 h409 h1
    cases hf : fgb (bt L T p) with
    | false =>
      have := stop p t vc vr (by omega) hv h41 h409 h1 hf
      rw [hf] at this
      exact this
    | true =>
      obtain ⟨k, hk, hb⟩ := fig_nI hf
      have hk1 : (1 ≤ vc ∧ 1 ≤ vr) ∨ 1 ≤ k := by
        rcases h1 with h1 | h1
        · exact Or.inl h1
        · refine Or.inr ?_
          rcases Nat.eq_zero_or_pos k with q | q
          · subst q; exact absurd hb h1.2
          · exact q
      have hmin : min (vc * 10 + k) 41 = vc * 10 + k ∨ min (vc * 10 + k) 41 = 41 := by omega
      -- one figure
      have ec : L_X6_readNumber_4 (nI L) 500 T (nI vc) (nI t) (nI p) = L_X6_readNumber_4 (nI L) 500 T (nI (min (vc * 10 + k) 41)) (nI (t + 1)) (nI (p + 1)) := by
        rw [E_X6_readNumber_4, cif_neg (show ¬ (500 : Int32) ≤ nI t from nI_ge (b := 500) (by omega) (by omega)), byteAt_spec hL (by omega), Option.bind_some, fig6, Option.bind_some, hf, cif_pos rfl, Option.bind_some, nI_1, nI_1, hb, dig_c, jmin_41 (by omega)]
      have er : L_X8_readNumber_7 (nI N) (nI L) 500 T8 x1 (nI vr) fi fa (nI p) = L_X8_readNumber_7 (nI N) (nI L) 500 T8 x1 (nI (if vr ≤ N then 10 * vr + k else vr)) fi fa (nI (p + 1)) := by
        rw [E_X8_readNumber_7, here_spec hL hT (by omega), Option.bind_some, fig8, Option.bind_some, hf, cif_pos rfl, nI_1]
        by_cases q : vr ≤ N
        · rw [cif_pos ((nI_leI (by omega) (by omega)).mpr q), if_pos q, Option.bind_some, hb, dig_r]
        · rw [cif_neg (fun z => q ((nI_leI (by omega) (by omega)).mp z)), if_neg q]
      have hv2 : ((min (vc * 10 + k) 41 = (if vr ≤ N then 10 * vr + k else vr)) ∧ (if vr ≤ N then 10 * vr + k else vr) ≤ N) ∨ (N < min (vc * 10 + k) 41 ∧ N < (if vr ≤ N then 10 * vr + k else vr)) := by
        rcases hv with ⟨a, b⟩ | ⟨a, b⟩
        · rw [if_pos b]; omega
        · rw [if_neg (by omega)]; omega
      obtain ⟨q, vc', vr', q1, q2, -, q4, q5, q6, q7, q8, q9, q10⟩ := ih (p + 1) (t + 1) (min (vc * 10 + k) 41) (if vr ≤ N then 10 * vr + k else vr) (by omega) (by omega) hv2 (by omega) (by split <;> omega) (Or.inl ⟨by omega, by split <;> omega⟩)
      exact ⟨q, vc', vr', by omega, q2, fun _ => by omega, q4, q5, q6, q7, q8, ec.trans q9, er.trans q10⟩
/-- the reference's 'parted' -/
theorem parted_ok (hL : L ≤ 500) (hT : ∀ p, p < L → T8 p = T p) {q : Nat} (hq : q < 2 ^ 31) (h : q ≥ L ∨ blk (bt L T q) = true) (fi fa : Int32) : D_X8_parted (nI L) fi fa (nI q) 500 T8 = some (fi, fa) := by
  unfold D_X8_parted
  rw [here_spec hL hT hq, Option.bind_some]
  by_cases z : bt L T q = -1
  · rw [cif_pos z]
  · rw [cif_neg z, Option.bind_some, blk8, Option.bind_some]
    rcases h with h | h
    · exact absurd (bt_end h) z
    · rw [h, cif_pos rfl]
theorem parted_no (hL : L ≤ 500) (hT : ∀ p, p < L → T8 p = T p) {q : Nat} (hq : q < 2 ^ 31) (h1 : bt L T q ≠ -1) (h : blk (bt L T q) = false) (fi fa : Int32) : D_X8_parted (nI L) fi fa (nI q) 500 T8 = D_X8_fail fi fa 1 (nI q) := by
  unfold D_X8_parted
  rw [here_spec hL hT hq, Option.bind_some, cif_neg h1, Option.bind_some, blk8, Option.bind_some, h, cif_neg (by simp)]
  cases D_X8_fail fi fa 1 (nI q) <;> rfl
theorem parted_fault (hL : L ≤ 500) (hT : ∀ p, p < L → T8 p = T p) {q : Nat} (hq : q < 2 ^ 31) {fi : Int32} (hfi : ¬ fi = 0) (fa : Int32) : D_X8_parted (nI L) fi fa (nI q) 500 T8 = some (fi, fa) := by
  by_cases h1 : q ≥ L ∨ blk (bt L T q) = true
  · exact parted_ok hL hT hq h1 fi fa
  · have hb : blk (bt L T q) = false := by cases z : blk (bt L T q) with | false => rfl | true => exact absurd (Or.inr z) h1
    by_cases h2 : bt L T q = -1
    · unfold D_X8_parted
      rw [here_spec hL hT hq, Option.bind_some, cif_pos h2]
    · rw [parted_no hL hT hq h2 hb]
      unfold D_X8_fail
      rw [cif_neg hfi]
theorem fail8 (fa x1 x2 : Int32) : D_X8_fail 0 fa x1 x2 = some (x1, x2) := by unfold D_X8_fail; rw [cif_pos rfl]
/-- what a line has so far: class and reference -/
def lB (b : Bool) : Int64 := if b then 1 else 0
def LV (N : Nat) (isEq : Bool) (f s : Int64) (r1 : Bool) (ly ln : Int64) : Prop := f = ly ∧ Lo N f ∧ (isEq = true → ln = lB r1) ∧ (isEq = false → s = ln ∧ Lo N s)
theorem lB_x (r1 : Bool) : lB r1 ^^^ 1 = lB (!r1) := by cases r1 <;> decide
theorem addLit {N : Nat} (hN : N ≤ 40) {isEq : Bool} {f s : Int64} {r1 : Bool} {ly ln : Int64} (h : LV N isEq f s r1 ly ln) {v : Nat} (h1 : 1 ≤ v) (h2 : v ≤ N) (minus : Bool) :
    ∃ f' s' r', D_X6_addLiteral isEq f s r1 (jshl 1 (nI v - 1)) minus = some (f', s', r') ∧ LV N isEq f' s' r' (if isEq then ly ^^^ jshl 1 (nI v - 1) else if minus then ly else ly ||| jshl 1 (nI v - 1)) (if isEq then (if minus then ln ^^^ 1 else ln) else if minus then ln ||| jshl 1 (nI v - 1) else ln) := by
  obtain ⟨v', rfl⟩ : ∃ v', v = v' + 1 := ⟨v - 1, by omega⟩
  rw [nI_pred]
  have hbit : Lo N (jshl 1 (nI v')) := Lo.bit (by omega) (by omega)
  obtain ⟨e1, e2, e3, e4⟩ := h
  unfold D_X6_addLiteral
  cases isEq with
  | true =>
    rw [cif_pos rfl]
    have e3 := e3 rfl
    subst e1
    cases r1 <;> cases minus
    · rw [cif_pos rfl]; exact ⟨_, _, _, rfl, rfl, e2.xor hbit, fun _ => e3, fun z => by cases z⟩
    · rw [cif_neg (by decide)]; exact ⟨_, _, _, rfl, rfl, e2.xor hbit, fun _ => (by rw [if_pos rfl, if_pos rfl, e3, lB_x]; rfl), fun z => by cases z⟩
    · rw [cif_neg (by decide)]; exact ⟨_, _, _, rfl, rfl, e2.xor hbit, fun _ => e3, fun z => by cases z⟩
    · rw [cif_pos rfl]; exact ⟨_, _, _, rfl, rfl, e2.xor hbit, fun _ => (by rw [if_pos rfl, if_pos rfl, e3, lB_x]; rfl), fun z => by cases z⟩
  | false =>
    rw [cif_neg (by simp)]
    obtain ⟨e4, e5⟩ := e4 rfl
    subst e1; subst e4
    cases minus with
    | true => rw [cif_pos rfl]; exact ⟨_, _, _, rfl, rfl, e2, (fun z => by cases z), fun _ => ⟨rfl, e5.or hbit⟩⟩
    | false => rw [cif_neg (by simp)]; exact ⟨_, _, _, rfl, rfl, e2.or hbit, (fun z => by cases z), fun _ => ⟨rfl, e5⟩⟩
/-- how a literal ends: class and reference -/
def LitO (N L : Nat) (T : Nat → Int32) (isEq : Bool) (p : Nat) (fa : Int32) (u : Bool × Int32 × Int32 × Int64 × Int64 × Bool) (w : Int32 × Int32 × Int32 × Int64 × Int64) : Prop :=
  (u.1 = true ∧ ∃ q, p < q ∧ q < L ∧ u.2.1 = 0 ∧ u.2.2.1 = nI q ∧ w.1 = 0 ∧ w.2.1 = fa ∧ w.2.2.1 = nI q ∧ LV N isEq u.2.2.2.1 u.2.2.2.2.1 u.2.2.2.2.2 w.2.2.2.1 w.2.2.2.2) ∨
  (u.1 = false ∧ ∃ code k, (code = 1 ∨ code = 2) ∧ k ≤ L ∧ u.2.1 = code ∧ u.2.2.1 = nI k ∧ ∃ a, a ≤ L ∧ w.2.2.1 = nI a ∧ ((w.1 = code ∧ w.2.1 = nI k) ∨ (code = 1 ∧ k = L ∧ w.1 = 0 ∧ a = L)))
/-- from the number's place on -/
theorem bt_m1 (hB : ∀ p, p < L → T p ≠ -1) {q : Nat} (h : bt L T q = -1) : q ≥ L := by
  rcases Nat.lt_or_ge q L with z | z
  · unfold bt at h
    rw [if_pos z] at h
    exact absurd h (hB q z)
  · exact z
theorem lit_core {N : Nat} (hN : N ≤ 40) (hL : L ≤ 500) (hT : ∀ p, p < L → T8 p = T p) (hB : ∀ p, p < L → T p ≠ -1) {isEq : Bool} {f s : Int64} {r1 : Bool} {ly ln : Int64} (h : LV N isEq f s r1 ly ln) (fa : Int32) {p p0 : Nat} (hp : p ≤ p0) (hp0 : p0 ≤ L) (minus : Bool)
    (hu : Option (Bool × Int32 × Int32 × Int64 × Int64 × Bool)) (hw : Option (Int32 × Int32 × Int32 × Int64 × Int64))
    (eu : hu = Option.bind (D_X6_byteAt (nI L) 500 T (nI p0)) (fun u_37 =>
        cif (u_37 = (48 : Int32))
          (Option.bind (D_X6_fail 0 (nI p0) (1 : Int32) (nI p0)) (fun u_41 =>
            some (u_41.1, u_41.2.1, u_41.2.2, f, s, r1)))
          (Option.bind (D_X6_byteAt (nI L) 500 T (nI p0)) (fun u_43 =>
            Option.bind (D_X6_isFigure u_43) (fun u_45 =>
              cif (u_45 = true)
                (Option.bind (D_X6_readNumber (nI L) (nI p0) 500 T) (fun u_49 =>
                  cif (u_49.1 ≤ nI N)
                    (Option.bind (D_X6_byteAt (nI L) 500 T u_49.2) (fun u_53 =>
                      Option.bind (D_X6_isBlank u_53) (fun u_55 =>
                        cif (u_55 = true)
                          (Option.bind (D_X6_addLiteral isEq f s r1 (jshl (1 : Int64) (u_49.1 - (1 : Int32))) minus) (fun u_59 =>
                            some (true, 0, u_49.2, u_59.1, u_59.2.1, u_59.2.2)))
                          (Option.bind (D_X6_fail 0 u_49.2 (1 : Int32) u_49.2) (fun u_61 =>
                            some (u_61.1, u_61.2.1, u_61.2.2, f, s, r1))))))
                    (Option.bind (D_X6_fail 0 u_49.2 (2 : Int32) (nI p0)) (fun u_63 =>
                      some (u_63.1, u_63.2.1, u_63.2.2, f, s, r1)))))
                (Option.bind (D_X6_fail 0 (nI p0) (1 : Int32) (nI p0)) (fun u_65 =>
                  some (u_65.1, u_65.2.1, u_65.2.2, f, s, r1))))))))
    (ew : hw = Option.bind (D_X8_here (nI L) (nI p0) 500 T8) (fun u_29 =>
        Option.bind (D_X8_isFigure u_29) (fun u_31 =>
          cif (u_31 = true)
            (Option.bind (D_X8_here (nI L) (nI p0) 500 T8) (fun u_37 =>
              cif (u_37 = (48 : Int32))
                (Option.bind (D_X8_fail 0 fa (1 : Int32) (nI p0)) (fun u_49 =>
                  some (u_49.1, u_49.2, nI p0, ly, ln)))
                (Option.bind (D_X8_readNumber (nI N) (nI L) 0 fa (nI p0) 500 T8) (fun u_41 =>
                  cif (u_41.2.1 ≤ 0)
                    (cif (isEq = true)
                      (some (u_41.2.1, u_41.2.2.1, u_41.2.2.2, ly ^^^ (jshl (1 : Int64) (u_41.1 - (1 : Int32))), if minus then ln ^^^ (1 : Int64) else ln))
                      (some (u_41.2.1, u_41.2.2.1, u_41.2.2.2, if minus then ly else ly ||| (jshl (1 : Int64) (u_41.1 - (1 : Int32))), if minus then ln ||| (jshl (1 : Int64) (u_41.1 - (1 : Int32))) else ln)))
                    (some (u_41.2.1, u_41.2.2.1, u_41.2.2.2, ly, ln))))))
            (Option.bind (D_X8_fail 0 fa (1 : Int32) (nI p0)) (fun u_35 =>
              some (u_35.1, u_35.2, nI p0, ly, ln)))))) :
    ∃ u w, hu = some u ∧ hw = some w ∧ LitO N L T isEq p fa u w := by
  rw [byteAt_spec hL (by omega), Option.bind_some, Option.bind_some, fig6, Option.bind_some] at eu
  rw [here_spec hL hT (by omega), Option.bind_some, fig8, Option.bind_some, Option.bind_some, fail8] at ew
  unfold D_X6_fail at eu
  by_cases h48 : bt L T p0 = 48
  · rw [cif_pos h48] at eu
    have hf : fgb (bt L T p0) = true := by rw [h48]; decide
    rw [hf, cif_pos rfl, cif_pos h48] at ew
    exact ⟨_, _, eu, ew, Or.inr ⟨rfl, 1, p0, Or.inl rfl, hp0, rfl, rfl, p0, hp0, rfl, Or.inl ⟨rfl, rfl⟩⟩⟩
  · rw [cif_neg h48] at eu
    cases hf : fgb (bt L T p0) with
    | false =>
      rw [hf, cif_neg (by simp)] at eu ew
      exact ⟨_, _, eu, ew, Or.inr ⟨rfl, 1, p0, Or.inl rfl, hp0, rfl, rfl, p0, hp0, rfl, Or.inl ⟨rfl, rfl⟩⟩⟩
    | true =>
      rw [hf, cif_pos rfl] at eu ew
      rw [cif_neg h48] at ew
      obtain ⟨q, vc, vr, q1, q2, q3, q4, q5, q6, q7, q8, q9, q10⟩ := num_lock hN hL hT (nI p0) 0 fa (L - p0) p0 0 0 0 (by omega) (by omega) (Or.inl ⟨rfl, Nat.zero_le N⟩) (by omega) (by omega) (Or.inr ⟨hf, h48⟩)
      have e9 : D_X6_readNumber (nI L) (nI p0) 500 T = some (nI vc, nI q) := by unfold D_X6_readNumber; exact q9
      have e10 : D_X8_readNumber (nI N) (nI L) 0 fa (nI p0) 500 T8 = aft N L T8 (nI p0) vr q 0 fa := by unfold D_X8_readNumber; exact q10
      rw [e9, Option.bind_some] at eu
      rw [e10] at ew
      unfold aft at ew
      have hpq := q3 hf
      rcases q4 with ⟨a, b⟩ | ⟨a, b⟩
      · subst a
        rw [cif_pos (nI_le b (by omega)), byteAt_spec hL (by omega), Option.bind_some, blk6, Option.bind_some] at eu
        rw [cif_pos (nI_le b (by omega))] at ew
        cases hb : blk (bt L T q) with
        | true =>
          rw [parted_ok hL hT (by omega) (Or.inr hb), Option.bind_some, Option.bind_some, cif_pos (show (0 : Int32) ≤ 0 by decide)] at ew
          obtain ⟨f', s', r', e11, hLV⟩ := addLit hN h q7 b minus
          rw [hb, cif_pos rfl, e11, Option.bind_some] at eu
          have ew2 : hw = some (0, fa, nI q, (if isEq then ly ^^^ jshl 1 (nI vc - 1) else if minus then ly else ly ||| jshl 1 (nI vc - 1)), (if isEq then (if minus then ln ^^^ 1 else ln) else if minus then ln ||| jshl 1 (nI vc - 1) else ln)) := by
            rw [ew]
            cases isEq with
            | true => rw [cif_pos rfl]; rfl
            | false => rw [cif_neg (by simp)]; rfl
          exact ⟨_, _, eu, ew2, Or.inl ⟨rfl, q, by omega, blk_lt hb, rfl, rfl, rfl, rfl, rfl, hLV⟩⟩
        | false =>
          rw [hb, cif_neg (by simp)] at eu
          by_cases hE : bt L T q = -1
          · rw [parted_ok hL hT (by omega) (Or.inl (bt_m1 hB hE)), Option.bind_some, Option.bind_some, cif_pos (show (0 : Int32) ≤ 0 by decide)] at ew
            have hqL : q = L := by have := bt_m1 hB hE; omega
            cases isEq with
            | true =>
              rw [cif_pos rfl] at ew
              exact ⟨_, _, eu, ew, Or.inr ⟨rfl, 1, q, Or.inl rfl, q2, rfl, rfl, q, q2, rfl, Or.inr ⟨rfl, hqL, rfl, hqL⟩⟩⟩
            | false =>
              rw [cif_neg (by simp)] at ew
              exact ⟨_, _, eu, ew, Or.inr ⟨rfl, 1, q, Or.inl rfl, q2, rfl, rfl, q, q2, rfl, Or.inr ⟨rfl, hqL, rfl, hqL⟩⟩⟩
          · rw [parted_no hL hT (by omega) hE hb, fail8, Option.bind_some, Option.bind_some, cif_neg (show ¬ (1 : Int32) ≤ 0 by decide)] at ew
            exact ⟨_, _, eu, ew, Or.inr ⟨rfl, 1, q, Or.inl rfl, q2, rfl, rfl, q, q2, rfl, Or.inl ⟨rfl, rfl⟩⟩⟩
      · rw [cif_neg (nI_ge a (by omega))] at eu
        rw [cif_neg (nI_ge b (by omega)), fail8, Option.bind_some, parted_fault hL hT (by omega) (show ¬ (2 : Int32) = 0 by decide), Option.bind_some, Option.bind_some, cif_neg (show ¬ (2 : Int32) ≤ 0 by decide)] at ew
        exact ⟨_, _, eu, ew, Or.inr ⟨rfl, 2, p0, Or.inr rfl, hp0, rfl, rfl, q, q2, rfl, Or.inl ⟨rfl, rfl⟩⟩⟩
end TAP
