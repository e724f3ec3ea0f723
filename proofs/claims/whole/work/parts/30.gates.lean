/-! GATES: the class's mask of the assignments that are ruled out, and the reference's count -/
def cp : Nat → (Nat → Bool) → Nat
  | 0, _ => 0
  | n + 1, p => cp n p + (p n).toNat
section CP
variable {n : Nat} {p q : Nat → Bool}
theorem cp_cg (h : ∀ i, i < n → p i = q i) : cp n p = cp n q := by
  induction n with
  | zero => rfl
  | succ n ih =>
    show cp n p + (p n).toNat = cp n q + (q n).toNat
    rw [ih (fun i hi => h i (by omega)), h n (by omega)]
theorem cp_le (h : ∀ i, i < n → p i = true → q i = true) : cp n p ≤ cp n q := by
  induction n with
  | zero => exact Nat.le_refl 0
  | succ n ih =>
    show cp n p + (p n).toNat ≤ cp n q + (q n).toNat
    have := ih (fun i hi => h i (by omega))
    cases e : p n with
    | false => show cp n p + 0 ≤ _; omega
    | true => rw [h n (by omega) e]; omega
theorem cp_eq (h : ∀ i, i < n → p i = true → q i = true) : cp n p = cp n q ↔ ∀ i, i < n → q i = true → p i = true := by
  constructor
  · induction n with
    | zero => intro _ i hi; omega
    | succ n ih =>
      intro he i hi hq
      have hle := cp_le (n := n) (fun i hi => h i (by omega))
      have he' : cp n p + (p n).toNat = cp n q + (q n).toNat := he
      have key : (p n).toNat ≤ (q n).toNat := by
        cases e : p n with
        | false => exact Nat.zero_le _
        | true => rw [h n (by omega) e]; exact Nat.le_refl _
      by_cases w : i = n
      · subst w
        rw [hq] at he' key
        cases e : p i with
        | true => rfl
        | false => rw [e] at he'; simp at he'; omega
      · exact ih (fun i hi => h i (by omega)) (by omega) i (by omega) hq
  · intro h2
    exact cp_cg (fun i hi => by
      cases e : p i with
      | true => exact (h i hi e).symm
      | false =>
        cases e2 : q i with
        | false => rfl
        | true => rw [h2 i hi e2] at e; cases e)
theorem cp_pos {k : Nat} (hk : k < n) (h : p k = true) : 1 ≤ cp n p := by
  induction n with
  | zero => omega
  | succ n ih =>
    show 1 ≤ cp n p + (p n).toNat
    by_cases w : k = n
    · subst w; rw [h]; exact Nat.le_add_left 1 _
    · have := ih (by omega); omega
theorem cp_two {j k : Nat} (hj : j < k) (hk : k < n) (h1 : p j = true) (h2 : p k = true) : 2 ≤ cp n p := by
  induction n with
  | zero => omega
  | succ n ih =>
    show 2 ≤ cp n p + (p n).toNat
    by_cases w : k = n
    · subst w
      have := cp_pos hj h1
      rw [h2]
      show 2 ≤ cp k p + 1
      omega
    · have := ih (by omega); omega
theorem cp_split : cp n p = cp n (fun i => p i && q i) + cp n (fun i => p i && !q i) := by
  induction n with
  | zero => rfl
  | succ n ih =>
    show cp n p + (p n).toNat = (cp n (fun i => p i && q i) + (p n && q n).toNat) + (cp n (fun i => p i && !q i) + (p n && !q n).toNat)
    rw [ih]
    cases p n <;> cases q n <;> simp <;> omega
theorem cp_n : cp n p ≤ n := by
  induction n with
  | zero => exact Nat.le_refl 0
  | succ n ih =>
    show cp n p + (p n).toNat ≤ n + 1
    have : (p n).toNat ≤ 1 := by cases p n <;> decide
    omega
theorem cp_add {a : Nat} (ha : a < n) (h : p a = false) (hq : ∀ i, i < n → q i = (p i || decide (i = a))) : cp n q = cp n p + 1 := by
  induction n with
  | zero => omega
  | succ n ih =>
    show cp n q + (q n).toNat = cp n p + (p n).toNat + 1
    by_cases w : a = n
    · subst w
      rw [cp_cg (n := a) (q := p) (fun i hi => by rw [hq i (by omega), decide_eq_false (by omega)]; simp), hq a (by omega), h]
      simp
    · rw [ih (by omega) (fun i hi => hq i (by omega)), hq n (by omega), decide_eq_false (fun z => w z.symm)]
      simp
      omega
end CP
/-- where a set's variables are, in their order -/
def Pos (N : Nat) (set : Int64) (s : Nat) (p : Nat → Nat) : Prop := (∀ i j, i < j → j < s → p i < p j) ∧ (∀ i, i < s → p i < N) ∧ ∀ j, tb set j = true ↔ ∃ i, i < s ∧ p i = j
theorem pos_ex (x : Int64) : ∀ n, ∃ p : Nat → Nat, (∀ i j, i < j → j < cnt n x → p i < p j) ∧ (∀ i, i < cnt n x → p i < n) ∧ ∀ j, j < n → (tb x j = true ↔ ∃ i, i < cnt n x ∧ p i = j) := by
  intro n
  induction n with
  | zero => exact ⟨fun _ => 0, fun i j _ hj => by have : j < 0 := hj; omega, fun i hi => by have : i < 0 := hi; omega, fun j hj => by omega⟩
  | succ n ih =>
    obtain ⟨p, h1, h2, h3⟩ := ih
    have hc : cnt (n + 1) x = cnt n x + (if tb x n then 1 else 0) := rfl
    cases e : tb x n with
    | false =>
      rw [e] at hc
      have hc : cnt (n + 1) x = cnt n x := hc
      rw [hc]
      refine ⟨p, h1, fun i hi => by have := h2 i hi; omega, fun j hj => ?_⟩
      by_cases w : j = n
      · subst w
        rw [e]
        refine ⟨fun z => (by cases z), fun ⟨i, hi, z⟩ => ?_⟩
        have := h2 i hi; omega
      · exact h3 j (by omega)
    | true =>
      rw [e] at hc
      have hc : cnt (n + 1) x = cnt n x + 1 := hc
      rw [hc]
      refine ⟨fun i => if i = cnt n x then n else p i, fun i j hij hj => ?_, fun i hi => ?_, fun j hj => ?_⟩
      · have hi : i ≠ cnt n x := by omega
        by_cases w : j = cnt n x
        · simp only [if_neg hi, if_pos w]; exact h2 i (by omega)
        · simp only [if_neg hi, if_neg w]; exact h1 i j hij (by omega)
      · by_cases w : i = cnt n x
        · simp only [if_pos w]; omega
        · simp only [if_neg w]; have := h2 i (by omega); omega
      · by_cases w : j = n
        · subst w
          rw [e]
          exact ⟨fun _ => ⟨cnt j x, by omega, if_pos rfl⟩, fun _ => rfl⟩
        · rw [h3 j (by omega)]
          constructor
          · intro ⟨i, hi, z⟩
            exact ⟨i, by omega, (if_neg (show ¬ i = cnt n x by omega)).trans z⟩
          · intro ⟨i, hi, z⟩
            have z : (if i = cnt n x then n else p i) = j := z
            by_cases y : i = cnt n x
            · rw [if_pos y] at z; omega
            · rw [if_neg y] at z; exact ⟨i, by omega, z⟩
theorem Pos.ex {N : Nat} {x : Int64} (hx : Lo N x) : ∃ p, Pos N x (cnt N x) p := by
  obtain ⟨p, h1, h2, h3⟩ := pos_ex x N
  refine ⟨p, h1, h2, fun j => ?_⟩
  rcases Nat.lt_or_ge j N with q | q
  · exact h3 j q
  · rw [hx j q]
    exact ⟨fun z => (by cases z), fun ⟨i, hi, z⟩ => by have := h2 i hi; omega⟩
/-- what is left of a set when its least ones are gone -/
def rs (set : Int64) : Nat → Int64
  | 0 => set
  | i + 1 => rs set i ^^^ (rs set i &&& (-(rs set i)))
def bb (p : Nat → Nat) (s : Nat) (part : Int64) (i : Nat) : Bool := decide (i < s) && tb part (p i)
def cN (b : Nat → Bool) : Nat := (b 0).toNat + 2 * (b 1).toNat + 4 * (b 2).toNat + 8 * (b 3).toNat
def parN (a : Nat) : Bool := a.testBit 0 ^^ a.testBit 1 ^^ a.testBit 2 ^^ a.testBit 3
section PRS
variable {N s : Nat} {set part : Int64} {p : Nat → Nat}
theorem zero_and' (x : Int64) : 0 &&& x = 0 := tb_ext (fun i _ => by rw [tb_and, tb_0]; rfl)
theorem and_zero' (x : Int64) : x &&& 0 = 0 := tb_ext (fun i _ => by rw [tb_and, tb_0]; simp)
theorem rs_bits (hN : N ≤ 40) (hP : Pos N set s p) : ∀ i, (∀ j, tb (rs set i) j = true ↔ ∃ k, i ≤ k ∧ k < s ∧ p k = j) ∧ (i < s → (rs set i &&& (-(rs set i))) = jshl 1 (nI (p i))) ∧ (s ≤ i → rs set i = 0) := by
  have low : ∀ i, (∀ j, tb (rs set i) j = true ↔ ∃ k, i ≤ k ∧ k < s ∧ p k = j) → (i < s → (rs set i &&& (-(rs set i))) = jshl 1 (nI (p i))) ∧ (s ≤ i → rs set i = 0) := by
    intro i h
    refine ⟨fun hi => low_neg ⟨(h (p i)).mpr ⟨i, Nat.le_refl i, hi, rfl⟩, fun j hj => ?_⟩, fun hi => tb_eq0.mpr (fun j _ => ?_)⟩
    · cases e : tb (rs set i) j with
      | false => rfl
      | true =>
        obtain ⟨k, k1, k2, k3⟩ := (h j).mp e
        rcases Nat.eq_or_lt_of_le k1 with w | w
        · subst w; omega
        · have := hP.1 i k w k2; omega
    · cases e : tb (rs set i) j with
      | false => rfl
      | true => obtain ⟨k, k1, k2, k3⟩ := (h j).mp e; omega
  intro i
  induction i with
  | zero =>
    have h0 : ∀ j, tb (rs set 0) j = true ↔ ∃ k, 0 ≤ k ∧ k < s ∧ p k = j := fun j => by
      show tb set j = true ↔ _
      rw [hP.2.2 j]
      exact ⟨fun ⟨k, a, b⟩ => ⟨k, Nat.zero_le k, a, b⟩, fun ⟨k, _, a, b⟩ => ⟨k, a, b⟩⟩
    exact ⟨h0, low 0 h0⟩
  | succ i ih =>
    obtain ⟨h1, h2, h3⟩ := ih
    have hn : ∀ j, tb (rs set (i + 1)) j = true ↔ ∃ k, i + 1 ≤ k ∧ k < s ∧ p k = j := fun j => by
      show tb (rs set i ^^^ (rs set i &&& (-(rs set i)))) j = true ↔ _
      rcases Nat.lt_or_ge i s with w | w
      · have hpi := hP.2.1 i w
        rw [h2 w, tb_xor, tb_bit (by omega)]
        by_cases y : j = p i
        · subst y
          rw [(h1 (p i)).mpr ⟨i, Nat.le_refl i, w, rfl⟩]
          refine ⟨fun z => by simp at z, fun ⟨k, k1, k2, k3⟩ => ?_⟩
          have := hP.1 i k (by omega) k2; omega
        · rw [decide_eq_false y, Bool.xor_false, h1 j]
          constructor
          · intro ⟨k, k1, k2, k3⟩
            refine ⟨k, ?_, k2, k3⟩
            rcases Nat.eq_or_lt_of_le k1 with v | v
            · subst v; exact absurd k3.symm y
            · exact v
          · intro ⟨k, k1, k2, k3⟩; exact ⟨k, by omega, k2, k3⟩
      · rw [h3 w, zero_and', tb_xor, tb_0]
        exact ⟨fun z => (by cases z), fun ⟨k, k1, k2, _⟩ => by omega⟩
    exact ⟨hn, low (i + 1) hn⟩
theorem least_bb (hN : N ≤ 40) (hP : Pos N set s p) (part : Int64) (i : Nat) : (part &&& (rs set i &&& (-(rs set i)))) = 0 ↔ bb p s part i = false := by
  obtain ⟨-, h2, h3⟩ := rs_bits hN hP i
  unfold bb
  rcases Nat.lt_or_ge i s with w | w
  · have := hP.2.1 i w
    rw [h2 w, hi_and (by omega), decide_eq_true w]; simp
  · rw [h3 w, zero_and', and_zero', decide_eq_false (by omega)]; simp
theorem pr_step (hN : N ≤ 40) (hP : Pos N set s p) (part : Int64) {i : Nat} (hi : i < 4) (x : Int32) : L_X1_pressed_9 part set x (rs set i) (nI i) = L_X1_pressed_9 part set (if bb p s part i then x ||| ((1 : Int32) <<< (nI i &&& 31)) else x) (rs set (i + 1)) (nI (i + 1)) := by
  rw [E_X1_pressed_9, cif_neg (show ¬ (4 : Int32) ≤ nI i from nI_ge (b := 4) hi (by omega)), nI_1]
  show _ = L_X1_pressed_9 part set _ (rs set i ^^^ (rs set i &&& (-(rs set i)))) _
  cases e : bb p s part i with
  | false => rw [cif_pos ((least_bb hN hP part i).mpr e)]; rfl
  | true => rw [cif_neg (fun z => by rw [least_bb hN hP part i, e] at z; cases z)]; rfl
def px (b : Bool) (x : Int32) (i : Nat) : Int32 := if b then x ||| ((1 : Int32) <<< (nI i &&& 31)) else x
theorem px_key : ∀ b0 b1 b2 b3 : Bool, px b3 (px b2 (px b1 (px b0 0 0) 1) 2) 3 = nI (b0.toNat + 2 * b1.toNat + 4 * b2.toNat + 8 * b3.toNat) := by decide +kernel
theorem pressed_spec (hN : N ≤ 40) (hP : Pos N set s p) (part : Int64) : D_X1_pressed part set = some (nI (cN (bb p s part))) := by
  unfold D_X1_pressed
  have e0 := pr_step hN hP part (i := 0) (by omega) 0
  rw [show L_X1_pressed_9 part set 0 set 0 = _ from e0, pr_step hN hP part (by omega), pr_step hN hP part (by omega), pr_step hN hP part (by omega), E_X1_pressed_9, cif_pos (show (4 : Int32) ≤ nI (0 + 1 + 1 + 1 + 1) by decide)]
  exact congrArg some (px_key (bb p s part 0) (bb p s part 1) (bb p s part 2) (bb p s part 3))
theorem cN_inj {b d : Nat → Bool} (h : cN b = cN d) : b 0 = d 0 ∧ b 1 = d 1 ∧ b 2 = d 2 ∧ b 3 = d 3 := by
  unfold cN at h
  revert h
  cases b 0 <;> cases b 1 <;> cases b 2 <;> cases b 3 <;> cases d 0 <;> cases d 1 <;> cases d 2 <;> cases d 3 <;> simp
theorem cN_par (b : Nat → Bool) : parN (cN b) = (b 0 ^^ b 1 ^^ b 2 ^^ b 3) := by
  unfold cN
  cases b 0 <;> cases b 1 <;> cases b 2 <;> cases b 3 <;> decide
theorem cN_lt {b : Nat → Bool} (hs : s ≤ 4) (h2 : 2 ≤ s) (h : ∀ i, s ≤ i → b i = false) : cN b < 2 ^ s := by
  unfold cN
  have l : ∀ i, (b i).toNat ≤ 1 := fun i => by cases b i <;> decide
  have a0 := l 0; have a1 := l 1; have a2 := l 2; have a3 := l 3
  rcases (show s = 2 ∨ s = 3 ∨ s = 4 by omega) with w | w | w
  · subst w
    rw [h 2 (by omega), h 3 (by omega)]
    show _ < 4
    simp; omega
  · subst w
    rw [h 3 (by omega)]
    show _ < 8
    simp; omega
  · subst w
    show _ < 16
    omega
theorem bb_off (part : Int64) : ∀ i, s ≤ i → bb p s part i = false := fun i hi => by unfold bb; rw [decide_eq_false (by omega)]; rfl
theorem lt4 {i : Nat} (h : i < 4) : i = 0 ∨ i = 1 ∨ i = 2 ∨ i = 3 := by omega
theorem code_inj (hP : Pos N set s p) (hs : s ≤ 4) {x y : Int64} (hx : ∀ j, tb x j = true → tb set j = true) (hy : ∀ j, tb y j = true → tb set j = true) (h : cN (bb p s x) = cN (bb p s y)) : x = y := by
  obtain ⟨e0, e1, e2, e3⟩ := cN_inj h
  have key : ∀ i, i < s → tb x (p i) = tb y (p i) := fun i hi => by
    have hb : bb p s x i = bb p s y i := by rcases lt4 (show i < 4 by omega) with w | w | w | w <;> rw [w] <;> assumption
    unfold bb at hb
    rw [decide_eq_true hi] at hb
    simpa using hb
  refine tb_ext (fun j _ => ?_)
  cases a : tb x j with
  | true =>
    obtain ⟨i, hi, rfl⟩ := (hP.2.2 j).mp (hx j a)
    rw [← key i hi, a]
  | false =>
    cases b : tb y j with
    | false => rfl
    | true =>
      obtain ⟨i, hi, rfl⟩ := (hP.2.2 j).mp (hy j b)
      rw [key i hi, b] at a; cases a
theorem Pos.inj (hP : Pos N set s p) {i j : Nat} (hi : i < s) (hj : j < s) (h : p i = p j) : i = j := by
  rcases Nat.lt_trichotomy i j with w | w | w
  · have := hP.1 i j w hj; omega
  · exact w
  · have := hP.1 j i w hi; omega
theorem code_par (hN : N ≤ 40) (hP : Pos N set s p) (hs : s ≤ 4) (hset : Lo N set) {x : Int64} (hx : ∀ j, tb x j = true → tb set j = true) : pb x = parN (cN (bb p s x)) := by
  have hlo : Lo N x := fun j hj => by
    cases e : tb x j with
    | false => rfl
    | true => have := hx j e; rw [hset j hj] at this; cases this
  let f : Nat → Int64 := fun i => if bb p s x i then jshl 1 (nI (p i)) else 0
  have hf : ∀ i j, tb (f i) j = (bb p s x i && decide (j = p i)) := fun i j => by
    show tb (if bb p s x i then jshl 1 (nI (p i)) else 0) j = _
    cases e : bb p s x i with
    | true =>
      have hi : i < s := by unfold bb at e; simp at e; exact e.1
      have := hP.2.1 i hi
      rw [if_pos rfl, tb_bit (by omega)]; rfl
    | false => rw [if_neg (by simp), tb_0]; rfl
  have hd : ∀ i, dot N (f i) (tb (-1)) = bb p s x i := fun i => by
    show dot N (if bb p s x i then jshl 1 (nI (p i)) else 0) (tb (-1)) = _
    cases e : bb p s x i with
    | true =>
      have hi : i < s := by unfold bb at e; simp at e; exact e.1
      have := hP.2.1 i hi
      rw [if_pos rfl, dot_bit this (by omega), tb_m1 _ (by omega)]
    | false => rw [if_neg (by simp)]; exact dot_zero (fun i _ => tb_0 i)
  have hx4 : x = f 0 ^^^ f 1 ^^^ f 2 ^^^ f 3 := tb_ext (fun j _ => by
    rw [tb_xor, tb_xor, tb_xor, hf, hf, hf, hf]
    by_cases w : ∃ i, i < s ∧ p i = j
    · obtain ⟨i, hi, rfl⟩ := w
      have hne : ∀ k, k ≠ i → (bb p s x k && decide (p i = p k)) = false := fun k hk => by
        rcases Nat.lt_or_ge k s with y | y
        · rw [decide_eq_false (fun z => hk (hP.inj hi y z).symm)]; simp
        · rw [bb_off x k y]; rfl
      have hbi : bb p s x i = tb x (p i) := by unfold bb; rw [decide_eq_true hi]; rfl
      rcases lt4 (show i < 4 by omega) with w | w | w | w <;> subst w
      · rw [hne 1 (by omega), hne 2 (by omega), hne 3 (by omega), hbi]; simp
      · rw [hne 0 (by omega), hne 2 (by omega), hne 3 (by omega), hbi]; simp
      · rw [hne 0 (by omega), hne 1 (by omega), hne 3 (by omega), hbi]; simp
      · rw [hne 0 (by omega), hne 1 (by omega), hne 2 (by omega), hbi]; simp
    · have h0 : ∀ k, (bb p s x k && decide (j = p k)) = false := fun k => by
        rcases Nat.lt_or_ge k s with y | y
        · rw [decide_eq_false (fun z => w ⟨k, y, z.symm⟩)]; simp
        · rw [bb_off x k y]; rfl
      rw [h0, h0, h0, h0]
      cases e : tb x j with
      | false => rfl
      | true => exact absurd ((hP.2.2 j).mp (hx j e)) w)
  have e1 : pb x = dot N x (tb (-1)) := by
    rw [← pb_dot hN hlo]
    congr 1
    exact tb_ext (fun i hi => by rw [tb_and, tb_m1 i hi]; simp)
  have e2 : dot N x (tb (-1)) = dot N (f 0 ^^^ f 1 ^^^ f 2 ^^^ f 3) (tb (-1)) := congrArg (fun y => dot N y (tb (-1))) hx4
  rw [e1, cN_par, e2, dot_xor, dot_xor, dot_xor, hd, hd, hd, hd]
end PRS
/-- bits of an int -/
def t32 (x : Int32) (i : Nat) : Bool := x.toBitVec.getLsbD i
theorem t32_or (x y : Int32) (i : Nat) : t32 (x ||| y) i = (t32 x i || t32 y i) := by unfold t32; rw [Int32.toBitVec_or, BitVec.getLsbD_or]
theorem t32_and (x y : Int32) (i : Nat) : t32 (x &&& y) i = (t32 x i && t32 y i) := by unfold t32; rw [Int32.toBitVec_and, BitVec.getLsbD_and]
theorem t32_xor (x y : Int32) (i : Nat) : t32 (x ^^^ y) i = (t32 x i ^^ t32 y i) := by unfold t32; rw [Int32.toBitVec_xor, BitVec.getLsbD_xor]
theorem t32_0 (i : Nat) : t32 0 i = false := BitVec.getLsbD_zero
theorem t32_m1 : ∀ i, i < 32 → t32 (-1) i = true := by decide +kernel
theorem t32_eq0 {x : Int32} : x = 0 ↔ ∀ i, i < 32 → t32 x i = false := by
  constructor
  · intro h i _; rw [h]; exact t32_0 i
  · intro h
    exact Int32.toBitVec_inj.mp (BitVec.eq_of_getLsbD_eq (fun i hi => (h i hi).trans (t32_0 i).symm))
theorem t32_bit : ∀ a, a < 16 → ∀ i, i < 32 → t32 ((1 : Int32) <<< (nI a &&& 31)) i = decide (i = a) := by decide +kernel
theorem t32_all : ∀ s, s < 5 → 2 ≤ s → ∀ i, i < 32 → t32 (((1 : Int32) <<< (((1 : Int32) <<< (nI s &&& 31)) &&& 31)) - (1 : Int32)) i = decide (i < 2 ^ s) := by decide +kernel
theorem t32_odd : ∀ i, i < 16 → t32 (-38506) i = parN i := by decide +kernel
theorem t32_even : ∀ i, i < 16 → t32 38505 i = !parN i := by decide +kernel
theorem half_cp : ∀ s, s < 5 → 2 ≤ s → ∀ r : Bool, cp (2 ^ s) (fun a => parN a ^^ r) = 2 ^ (s - 1) := by decide +kernel
theorem shl_half : ∀ s, s < 5 → 2 ≤ s → (1 : Int32) <<< ((nI s - 1) &&& 31) = nI (2 ^ (s - 1)) := by decide +kernel
section GAT
variable {N m s : Nat} {Y Z Y8 Z8 : Nat → Int64} {set : Int64} {p : Nat → Nat}
/-- which assignments are ruled out by the first k clauses of this set -/
def Wf (Y Z : Nat → Int64) (set : Int64) (p : Nat → Nat) (s : Nat) : Nat → Nat → Bool
  | 0, _ => false
  | k + 1, a => Wf Y Z set p s k a || (decide ((Y k ||| Z k) = set) && decide (a = cN (bb p s (Z k))))
theorem Wf_ex {k a : Nat} : Wf Y Z set p s k a = true ↔ ∃ j, j < k ∧ (Y j ||| Z j) = set ∧ a = cN (bb p s (Z j)) := by
  induction k with
  | zero => exact ⟨fun h => (by cases h), fun ⟨j, hj, _⟩ => by omega⟩
  | succ k ih =>
    show (Wf Y Z set p s k a || (decide ((Y k ||| Z k) = set) && decide (a = cN (bb p s (Z k))))) = true ↔ _
    rw [Bool.or_eq_true, ih, Bool.and_eq_true, decide_eq_true_iff, decide_eq_true_iff]
    constructor
    · rintro (⟨j, h1, h2, h3⟩ | ⟨h2, h3⟩)
      · exact ⟨j, by omega, h2, h3⟩
      · exact ⟨k, by omega, h2, h3⟩
    · intro ⟨j, h1, h2, h3⟩
      by_cases w : j = k
      · subst w; exact Or.inr ⟨h2, h3⟩
      · exact Or.inl ⟨j, by omega, h2, h3⟩
/-- a gate of right side r -/
def Gt (Y Z : Nat → Int64) (set : Int64) (p : Nat → Nat) (s m : Nat) (r : Bool) : Prop := ∀ a, a < 2 ^ s → (parN a ^^ r) = true → Wf Y Z set p s m a = true
theorem Gt.cl {r : Bool} (h2 : 2 ≤ s) (h : Gt Y Z set p s m r) : ∃ j, j < m ∧ (Y j ||| Z j) = set ∧ cN (bb p s (Z j)) = if r then 0 else 1 := by
  have h4 : 2 ^ 1 ≤ 2 ^ s := Nat.pow_le_pow_right (by decide) (by omega)
  obtain ⟨j, h1, h2, h3⟩ := Wf_ex.mp (h (if r then 0 else 1) (by split <;> omega) (by cases r <;> decide))
  exact ⟨j, h1, h2, h3.symm⟩
theorem mask_iff (h2 : 2 ≤ s) (h4 : s ≤ 4) {w : Int32} (hw : ∀ a, a < 32 → t32 w a = Wf Y Z set p s m a) {B : Int32} {r : Bool} (hB : ∀ i, i < 16 → t32 B i = (parN i ^^ r)) : (((w ^^^ (-1 : Int32)) &&& (((1 : Int32) <<< (((1 : Int32) <<< (nI s &&& 31)) &&& 31)) - (1 : Int32))) &&& B) = 0 ↔ Gt Y Z set p s m r := by
  have hp : 2 ^ s ≤ 16 := Nat.le_trans (Nat.pow_le_pow_right (by decide) h4) (by decide)
  rw [t32_eq0]
  constructor
  · intro h a ha hpar
    have := h a (by omega)
    rw [t32_and, t32_and, t32_xor, t32_m1 a (by omega), t32_all s (by omega) h2 a (by omega), hB a (by omega), decide_eq_true ha, hpar, hw a (by omega)] at this
    simpa using this
  · intro h i hi
    rw [t32_and, t32_and, t32_xor, t32_m1 i hi, t32_all s (by omega) h2 i hi, hw i hi]
    by_cases q : i < 2 ^ s
    · rw [hB i (by omega)]
      cases z : (parN i ^^ r) with
      | false => simp
      | true => rw [h i q z]; simp
    · rw [decide_eq_false q]; simp
/-- the class: one set's gates -/
theorem ag_loop (hN : N ≤ 40) (hm : m ≤ 60) (hC : CL N Y Z m) (hP : Pos N set s p) (h2 : 2 ≤ s) (h4 : s ≤ 4) (hc : cnt 64 set = s) (size : Int32) (found : Nat → Int64) : ∀ (d k : Nat) (w : Int32), k + d = m → (∀ a, a < 32 → t32 w a = Wf Y Z set p s k a) →
    ∃ w', (∀ a, a < 32 → t32 w' a = Wf Y Z set p s m a) ∧ L_X1_addGatesOf_6 60 (nI m) 60 Y 60 Z set w (nI k) size found = L_X1_addGatesOf_6 60 (nI m) 60 Y 60 Z set w' (nI m) size found := by
  intro d
  induction d with
  | zero =>
    intro k w hk hw
    have : k = m := by omega
    subst this
    exact ⟨w, hw, rfl⟩
  | succ d ih =>
    intro k w hk hw
    have hkm : k < m := by omega
    have vp : vp_in (nI k) 60 := vp_in_nI (by omega) (by omega)
    rw [E_X1_addGatesOf_6, cif_neg (nI_ge hkm (by omega)), nI_clamp (by omega), nI_1]
    simp only [cif_pos vp]
    by_cases q : (Y k ||| Z k) = set
    · rw [cif_pos q, pressed_spec hN hP, Option.bind_some]
      have hlt : cN (bb p s (Z k)) < 16 := Nat.lt_of_lt_of_le (cN_lt h4 h2 (bb_off (Z k))) (Nat.le_trans (Nat.pow_le_pow_right (by decide) h4) (by decide))
      refine ih (k + 1) _ (by omega) (fun a ha => ?_)
      show _ = (Wf Y Z set p s k a || (decide ((Y k ||| Z k) = set) && decide (a = cN (bb p s (Z k)))))
      rw [t32_or, hw a ha, t32_bit _ hlt a ha, decide_eq_true q]; rfl
    · rw [cif_neg q]
      refine ih (k + 1) w (by omega) (fun a ha => ?_)
      show _ = (Wf Y Z set p s k a || (decide ((Y k ||| Z k) = set) && decide (a = cN (bb p s (Z k)))))
      rw [hw a ha, decide_eq_false q]; simp
/-- the reference: is this clause an earlier one? -/
theorem dup_loop (hm : m ≤ 60) (set : Int64) (r many : Int32) {k : Nat} (hk : k < m) : ∀ (d j : Nat) (fits : Bool), j + d = k →
    ∃ b : Bool, L_X8_isGate_59 (nI m) 60 Y8 60 Z8 set r many (nI k) fits (nI j) = L_X8_isGate_6 (nI m) 60 Y8 60 Z8 set r (many + (if b then 1 else 0)) (nI (k + 1)) ∧ (b = true ↔ fits = true ∧ ∀ i, j ≤ i → i < k → ¬ (Y8 i = Y8 k ∧ Z8 i = Z8 k)) := by
  intro d
  induction d with
  | zero =>
    intro j fits hj
    refine ⟨fits, ?_, ⟨fun h => ⟨h, fun i h1 h2 => by omega⟩, fun h => h.1⟩⟩
    rw [E_X8_isGate_59, cif_pos (nI_le (by omega) (by omega)), nI_1]
    cases fits with
    | true => rw [cif_pos rfl, if_pos rfl]
    | false => rw [cif_neg (by simp), if_neg (by simp)]
  | succ d ih =>
    intro j fits hj
    have hjk : j < k := by omega
    have vk : vp_in (nI k) 60 := vp_in_nI (by omega) (by omega)
    have vj : vp_in (nI j) 60 := vp_in_nI (by omega) (by omega)
    rw [E_X8_isGate_59, cif_neg (nI_ge hjk (by omega)), nI_1, nI_1, nI_clamp (show k < 2 ^ 31 by omega), nI_clamp (show j < 2 ^ 31 by omega)]
    simp only [cif_pos vk, cif_pos vj]
    cases fits with
    | false =>
      refine ⟨false, by rw [cif_neg (by simp), if_neg (by simp)], ⟨fun h => (by cases h), fun h => by cases h.1⟩⟩
    | true =>
      rw [cif_pos rfl]
      have go : ∀ f : Bool, (f = true ↔ ¬ (Y8 j = Y8 k ∧ Z8 j = Z8 k)) → ∃ b : Bool, L_X8_isGate_59 (nI m) 60 Y8 60 Z8 set r many (nI k) f (nI (j + 1)) = L_X8_isGate_6 (nI m) 60 Y8 60 Z8 set r (many + (if b then 1 else 0)) (nI (k + 1)) ∧ (b = true ↔ true = true ∧ ∀ i, j ≤ i → i < k → ¬ (Y8 i = Y8 k ∧ Z8 i = Z8 k)) := by
        intro f hf
        obtain ⟨b, e, hb⟩ := ih (j + 1) f (by omega)
        refine ⟨b, e, ?_⟩
        rw [hb]
        constructor
        · intro ⟨a1, a2⟩
          refine ⟨rfl, fun i h1 h2 => ?_⟩
          by_cases w : i = j
          · rw [w]; exact hf.mp a1
          · exact a2 i (by omega) h2
        · intro ⟨_, a2⟩
          exact ⟨hf.mpr (a2 j (Nat.le_refl j) hjk), fun i h1 h2 => a2 i (by omega) h2⟩
      by_cases e1 : Y8 j = Y8 k
      · rw [cif_pos e1]
        by_cases e2 : Z8 j = Z8 k
        · rw [cif_pos e2]
          exact go false ⟨fun h => (by cases h), fun h => absurd ⟨e1, e2⟩ h⟩
        · rw [cif_neg e2]
          exact go true ⟨fun _ h => e2 h.2, fun _ => rfl⟩
      · rw [cif_neg e1]
        exact go true ⟨fun _ h => e1 h.1, fun _ => rfl⟩
theorem sub_or {x y : Int64} {set : Int64} (h : (x ||| y) = set) : ∀ j, tb y j = true → tb set j = true := fun j e => by rw [← h, tb_or, e]; simp
theorem yes_of {N m : Nat} {Y Z : Nat → Int64} (hC : CL N Y Z m) {i k : Nat} (hi : i < m) (hk : k < m) (h : (Y i ||| Z i) = (Y k ||| Z k)) (hz : Z i = Z k) : Y i = Y k := tb_ext (fun j _ => by
  have a : tb (Y i ||| Z i) j = tb (Y k ||| Z k) j := by rw [h]
  rw [tb_or, tb_or, hz] at a
  have h1 := (hC i hi).2.2 j
  have h2 := (hC k hk).2.2 j
  rw [hz] at h1
  cases x1 : tb (Y i) j <;> cases x2 : tb (Y k) j <;> cases x3 : tb (Z k) j <;> rw [x1, x2, x3] at a <;> first | rfl | (exact absurd a (by decide)) | (exact absurd (h2 x2) (by rw [x3]; simp)) | (exact absurd (h1 x1) (by rw [x3]; simp)))
theorem ig_loop (hN : N ≤ 40) (hm : m ≤ 60) (hC : CL N Y8 Z8 m) (hP : Pos N set s p) (hset : Lo N set) (h2 : 2 ≤ s) (h4 : s ≤ 4) (r : Bool) : ∀ (d k : Nat), k + d = m →
    L_X8_isGate_6 (nI m) 60 Y8 60 Z8 set (bI r) (nI (cp (2 ^ s) (fun a => Wf Y8 Z8 set p s k a && (parN a ^^ r)))) (nI k) = L_X8_isGate_6 (nI m) 60 Y8 60 Z8 set (bI r) (nI (cp (2 ^ s) (fun a => Wf Y8 Z8 set p s m a && (parN a ^^ r)))) (nI m) := by
  intro d
  induction d with
  | zero => intro k hk; rw [show k = m by omega]
  | succ d ih =>
    intro k hk
    have hkm : k < m := by omega
    rw [← ih (k + 1) (by omega)]
    have vp : vp_in (nI k) 60 := vp_in_nI (by omega) (by omega)
    have hplus : ∀ b : Bool, nI (cp (2 ^ s) (fun a => Wf Y8 Z8 set p s k a && (parN a ^^ r))) + (if b then 1 else 0) = nI (cp (2 ^ s) (fun a => Wf Y8 Z8 set p s k a && (parN a ^^ r)) + b.toNat) := fun b => by
      cases b with
      | true => exact nI_1 _
      | false => exact Int32.add_zero _
    rw [E_X8_isGate_6, cif_neg (nI_ge hkm (by omega)), nI_clamp (by omega)]
    simp only [cif_pos vp]
    have hW : ∀ a, Wf Y8 Z8 set p s (k + 1) a = (Wf Y8 Z8 set p s k a || (decide ((Y8 k ||| Z8 k) = set) && decide (a = cN (bb p s (Z8 k))))) := fun a => rfl
    by_cases q : (Y8 k ||| Z8 k) = set
    · have hpar := code_par hN hP h4 hset (sub_or q)
      have hlt := cN_lt h4 h2 (bb_off (p := p) (s := s) (Z8 k))
      rw [cif_pos q, parity_spec, Option.bind_some]
      by_cases z : pb (Z8 k) = r
      · rw [cif_pos (by rw [z])]
        obtain ⟨b, e, hb⟩ := dup_loop (Y8 := Y8) (Z8 := Z8) hm set (bI r) (nI (cp (2 ^ s) (fun a => Wf Y8 Z8 set p s k a && (parN a ^^ r)))) hkm k 0 false (by omega)
        have hbf : b = false := by cases b with | false => rfl | true => cases (hb.mp rfl).1
        subst hbf
        rw [show (0 : Int32) = nI 0 from rfl, e, hplus]
        congr 2
        refine cp_cg (fun a ha => ?_)
        rw [hW a, decide_eq_true q]
        by_cases w : a = cN (bb p s (Z8 k))
        · have : (parN a ^^ r) = false := by rw [w, ← hpar, z]; simp
          rw [this]; simp
        · rw [decide_eq_false w]; simp
      · have z2 : (parN (cN (bb p s (Z8 k))) ^^ r) = true := by
          rw [← hpar]
          revert z
          cases pb (Z8 k) <;> cases r <;> simp
        rw [cif_neg (fun w => z (by
          revert w
          cases pb (Z8 k) <;> cases r <;> first | (intro _; rfl) | decide))]
        obtain ⟨b, e, hb⟩ := dup_loop (Y8 := Y8) (Z8 := Z8) hm set (bI r) (nI (cp (2 ^ s) (fun a => Wf Y8 Z8 set p s k a && (parN a ^^ r)))) hkm k 0 true (by omega)
        rw [show (0 : Int32) = nI 0 from rfl, e, hplus]
        congr 2
        cases b with
        | true =>
          have hnd := (hb.mp rfl).2
          have hf : Wf Y8 Z8 set p s k (cN (bb p s (Z8 k))) = false := by
            cases y : Wf Y8 Z8 set p s k (cN (bb p s (Z8 k))) with
            | false => rfl
            | true =>
              obtain ⟨i, i1, i2, i3⟩ := Wf_ex.mp y
              have hz : Z8 k = Z8 i := code_inj hP h4 (sub_or q) (sub_or i2) i3
              exact absurd ⟨yes_of hC (by omega) hkm (i2.trans q.symm) hz.symm, hz.symm⟩ (hnd i (Nat.zero_le i) i1)
          refine (cp_add (a := cN (bb p s (Z8 k))) hlt (by rw [hf]; rfl) (fun a ha => ?_)).symm
          rw [hW a, decide_eq_true q]
          by_cases w : a = cN (bb p s (Z8 k))
          · rw [decide_eq_true w, w, z2]; simp
          · rw [decide_eq_false w]; simp
        | false =>
          have ht : Wf Y8 Z8 set p s k (cN (bb p s (Z8 k))) = true := by
            refine Classical.byContradiction (fun y => ?_)
            have : false = true := hb.mpr ⟨rfl, fun i _ hi hh => y (Wf_ex.mpr ⟨i, hi, by rw [hh.1, hh.2]; exact q, by rw [hh.2]⟩)⟩
            cases this
          refine cp_cg (fun a ha => ?_)
          rw [hW a, decide_eq_true q]
          by_cases w : a = cN (bb p s (Z8 k))
          · rw [w, ht]; simp
          · rw [decide_eq_false w]; simp
    · rw [cif_neg q]
      obtain ⟨b, e, hb⟩ := dup_loop (Y8 := Y8) (Z8 := Z8) hm set (bI r) (nI (cp (2 ^ s) (fun a => Wf Y8 Z8 set p s k a && (parN a ^^ r)))) hkm k 0 false (by omega)
      have hbf : b = false := by cases b with | false => rfl | true => cases (hb.mp rfl).1
      subst hbf
      rw [show (0 : Int32) = nI 0 from rfl, e, hplus]
      congr 2
      refine cp_cg (fun a ha => ?_)
      rw [hW a, decide_eq_false q]; simp
theorem ig_spec (hN : N ≤ 40) (hm : m ≤ 60) (hC : CL N Y8 Z8 m) (hP : Pos N set s p) (hset : Lo N set) (h2 : 2 ≤ s) (h4 : s ≤ 4) (hc : cnt 63 set = s) (r : Bool) :
    (Gt Y8 Z8 set p s m r → D_X8_isGate (nI m) 60 Y8 60 Z8 set (bI r) = some true) ∧ (¬ Gt Y8 Z8 set p s m r → D_X8_isGate (nI m) 60 Y8 60 Z8 set (bI r) = some false) := by
  have e := ig_loop (Y8 := Y8) (Z8 := Z8) hN hm hC hP hset h2 h4 r m 0 (by omega)
  have e0 : cp (2 ^ s) (fun a => Wf Y8 Z8 set p s 0 a && (parN a ^^ r)) = 0 := by
    have : ∀ n, cp n (fun a => Wf Y8 Z8 set p s 0 a && (parN a ^^ r)) = 0 := by
      intro n
      induction n with
      | zero => rfl
      | succ n ih => show cp n _ + (Wf Y8 Z8 set p s 0 n && (parN n ^^ r)).toNat = 0; rw [ih]; rfl
    exact this _
  rw [e0] at e
  have hp : 2 ^ s ≤ 16 := Nat.le_trans (Nat.pow_le_pow_right (by decide) h4) (by decide)
  have hle : cp (2 ^ s) (fun a => Wf Y8 Z8 set p s m a && (parN a ^^ r)) ≤ 2 ^ s := cp_n
  have hh : 2 ^ (s - 1) ≤ 2 ^ s := Nat.pow_le_pow_right (by decide) (by omega)
  have key : nI (cp (2 ^ s) (fun a => Wf Y8 Z8 set p s m a && (parN a ^^ r))) = (1 : Int32) <<< ((nI s - 1) &&& 31) ↔ Gt Y8 Z8 set p s m r := by
    rw [shl_half s (by omega) h2, nI_eq (by omega) (by omega), ← half_cp s (by omega) h2 r, cp_eq (fun i _ h => by rw [Bool.and_eq_true] at h; exact h.2)]
    exact ⟨fun h a ha hp => by have := h a ha hp; rw [Bool.and_eq_true] at this; exact this.1, fun h a ha hp => by rw [h a ha hp, hp]; rfl⟩
  have e2 : D_X8_isGate (nI m) 60 Y8 60 Z8 set (bI r) = cif (nI (cp (2 ^ s) (fun a => Wf Y8 Z8 set p s m a && (parN a ^^ r))) = (1 : Int32) <<< ((nI s - 1) &&& 31)) (some true) (some false) := by
    unfold D_X8_isGate
    rw [show L_X8_isGate_6 (nI m) 60 Y8 60 Z8 set (bI r) 0 0 = _ from e, E_X8_isGate_6, cif_pos (nI_le (Nat.le_refl m) (by omega)), bits_spec, Option.bind_some, hc]
  rw [e2]
  exact ⟨fun h => cif_pos (key.mpr h), fun h => cif_neg (fun z => h (key.mp z))⟩
end GAT
