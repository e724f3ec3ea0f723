/-! THE REFERENCE: counting bits, rows -/
theorem bits_loop (v : Int64) : ∀ (k i : Nat), i + k = 63 → L_X8_bits_4 v (nI (cnt i v)) (nI i) = some (nI (cnt 63 v)) := by
  intro k
  induction k with
  | zero =>
    intro i hi
    have : i = 63 := by omega
    subst this
    rw [E_X8_bits_4, cif_pos (by decide)]
  | succ k ih =>
    intro i hi
    rw [E_X8_bits_4, cif_neg (fun z => by have := (nI_leI (a := 63) (b := i) (by omega) (by omega)).mp z; omega), nI_1 i, ← ih (i + 1) (by omega)]
    show _ = L_X8_bits_4 v (nI (cnt i v + (if tb v i then 1 else 0))) (nI (i + 1))
    cases e : tb v i with
    | true => rw [cif_pos ((js_bit (by omega)).mpr e), nI_1]; rfl
    | false =>
      rw [cif_neg (fun z => by rw [js_bit (by omega), e] at z; cases z)]
      show L_X8_bits_4 v (nI (cnt i v) + nI 0) (nI (i + 1)) = _
      rw [nI_add]; rfl
theorem bits_spec (v : Int64) : D_X8_bits v = some (nI (cnt 63 v)) := by
  unfold D_X8_bits
  exact bits_loop v 63 0 (by omega)
def pb (v : Int64) : Bool := decide (cnt 63 v % 2 = 1)
theorem parity_spec (v : Int64) : D_X8_parity v = some (bI (pb v)) := by
  unfold D_X8_parity
  rw [bits_spec, Option.bind_some, pk_andN (by have := cnt_le 63 v; omega) 1 (by decide)]
  unfold pb
  rcases Nat.mod_two_eq_zero_or_one (cnt 63 v) with h | h
  · rw [show cnt 63 v % 2 ^ 1 = 0 from h]; rfl
  · rw [show cnt 63 v % 2 ^ 1 = 1 from h]; rfl
theorem cnt_lo {N M : Nat} {x : Int64} (h : Lo N x) (hM : N ≤ M) : cnt M x = cnt N x := by
  induction M with
  | zero => rw [show N = 0 by omega]
  | succ n ih =>
    by_cases e : N = n + 1
    · rw [e]
    · show cnt n x + (if tb x n then 1 else 0) = _
      rw [ih (by omega), h n (by omega)]; rfl
theorem cnt_dot (N : Nat) (x o : Int64) : decide (cnt N (x &&& o) % 2 = 1) = dot N x (tb o) := by
  induction N with
  | zero => rfl
  | succ n ih =>
    show decide ((cnt n (x &&& o) + (if tb (x &&& o) n then 1 else 0)) % 2 = 1) = (dot n x (tb o) ^^ (tb x n && tb o n))
    rw [← ih, tb_and]
    cases h : (tb x n && tb o n) with
    | false => simp
    | true =>
      simp only [if_true]
      rcases Nat.mod_two_eq_zero_or_one (cnt n (x &&& o)) with q | q
      · rw [q, show (cnt n (x &&& o) + 1) % 2 = 1 by omega]; rfl
      · rw [q, show (cnt n (x &&& o) + 1) % 2 = 0 by omega]; rfl
theorem pb_dot {N : Nat} (hN : N ≤ 40) {x : Int64} (hx : Lo N x) (o : Int64) : pb (x &&& o) = dot N x (tb o) := by
  unfold pb
  rw [cnt_lo (hx.and o) (show N ≤ 63 by omega), cnt_dot]
theorem bI_xor (a b : Bool) : bI a ^^^ bI b = bI (a ^^ b) := by cases a <;> cases b <;> decide
theorem pow_lN : ∀ h, h < 62 → jshl 1 (nI h) = lN (2 ^ h) := by decide +kernel
theorem pow_le {h k : Nat} (hh : h < 62) (hk : k < 62) : jshl 1 (nI h) ≤ jshl 1 (nI k) ↔ h ≤ k := by
  have a : 2 ^ h < 2 ^ 63 := Nat.pow_lt_pow_right (by decide) (by omega)
  have b : 2 ^ k < 2 ^ 63 := Nat.pow_lt_pow_right (by decide) (by omega)
  rw [pow_lN h hh, pow_lN k hk, pk_lLE a b]
  exact Nat.pow_le_pow_iff_right (by decide)
/-- the greatest place where a bit is 1 -/
def isHigh (x : Int64) (h : Nat) : Prop := tb x h = true ∧ ∀ j, h < j → tb x j = false
theorem hi_and {x : Int64} {h : Nat} (hh : h < 63) : (x &&& jshl 1 (nI h)) = 0 ↔ tb x h = false := by
  rw [and_zero]
  constructor
  · intro z
    cases e : tb x h with
    | false => rfl
    | true => have := z h e; rw [tb_bit (by omega)] at this; simp at this
  · intro z i hi
    rw [tb_bit (by omega)]
    by_cases e : i = h
    · rw [e, z] at hi; cases hi
    · exact decide_eq_false e
theorem shr1 : ∀ k, k < 62 → jshr (jshl 1 (nI (k + 1))) 1 = jshl 1 (nI k) := by decide +kernel
theorem high_loop {x : Int64} {h : Nat} (hx : isHigh x h) : ∀ (d k : Nat), h + d = k → k < 63 → L_X8_highest_4 x (jshl 1 (nI k)) = some (jshl 1 (nI h)) := by
  intro d
  induction d with
  | zero =>
    intro k hk hlt
    have : k = h := by omega
    subst this
    rw [E_X8_highest_4, cif_neg (fun z => by rw [hi_and hlt, hx.1] at z; cases z)]
  | succ d ih =>
    intro k hk hlt
    rw [E_X8_highest_4, cif_pos ((hi_and hlt).mpr (hx.2 k (by omega)))]
    obtain ⟨j, rfl⟩ : ∃ j, k = j + 1 := ⟨k - 1, by omega⟩
    rw [shr1 j (by omega)]
    exact ih j (by omega) (by omega)
theorem highest_spec {x : Int64} {h : Nat} (hh : h < 63) (hx : isHigh x h) : D_X8_highest x = some (jshl 1 (nI h)) := by
  unfold D_X8_highest
  exact high_loop hx (62 - h) 62 (by omega) (by omega)
theorem lowest_spec {x : Int64} {h : Nat} (hx : isLow x h) : D_X8_lowest x = some (jshl 1 (nI h)) := by
  unfold D_X8_lowest
  rw [low_neg hx]
/-- heads by the least, or by the greatest variable -/
def isH (least : Bool) (x : Int64) (h : Nat) : Prop := if least then isLow x h else isHigh x h
theorem isH.bit {least : Bool} {x : Int64} {h : Nat} (hx : isH least x h) : tb x h = true := by
  unfold isH at hx
  cases least
  · exact hx.1
  · exact hx.1
theorem isH_xor {least : Bool} {x y : Int64} {g h : Nat} (hx : isH least x g) (hy : isH least y h) (h1 : tb x h = true) (h2 : tb y g = false) : isH least (x ^^^ y) g := by
  unfold isH at *
  cases least with
  | true =>
    have hlt : g < h := by
      rcases Nat.lt_trichotomy g h with q | q | q
      · exact q
      · rw [q, (show isLow y h from hy).1] at h2; cases h2
      · have := (show isLow x g from hx).2 h q; rw [h1] at this; cases this
    exact ⟨by rw [tb_xor, (show isLow x g from hx).1, h2]; rfl, fun j hj => by rw [tb_xor, (show isLow x g from hx).2 j hj, (show isLow y h from hy).2 j (by omega)]; rfl⟩
  | false =>
    have hlt : h < g := by
      rcases Nat.lt_trichotomy g h with q | q | q
      · have := (show isHigh x g from hx).2 h q; rw [h1] at this; cases this
      · rw [q, (show isHigh y h from hy).1] at h2; cases h2
      · exact q
    exact ⟨by rw [tb_xor, (show isHigh x g from hx).1, h2]; rfl, fun j hj => by rw [tb_xor, (show isHigh x g from hx).2 j hj, (show isHigh y h from hy).2 j (by omega)]; rfl⟩
theorem headOf_spec {least : Bool} {S : Nat → Int64} {j h : Nat} (hj : j < 60) (hh : h < 63) (hx : isH least (S j) h) : D_X8_headOf 60 S (nI j) least = some (jshl 1 (nI h)) := by
  unfold D_X8_headOf
  unfold isH at hx
  cases least with
  | true => rw [cif_pos rfl, cif_pos (vp_in_nI hj (by omega)), nI_clamp (by omega), lowest_spec hx]; rfl
  | false => rw [cif_neg (by simp), cif_pos (vp_in_nI hj (by omega)), nI_clamp (by omega), highest_spec hh hx]; rfl
/-- k rows in the order of their heads, each head in its own row alone -/
def LSh (least : Bool) (N k : Nat) (S : Nat → Int64) (hd : Nat → Nat) : Prop :=
  (∀ j, j < k → hd j < N ∧ isH least (S j) (hd j) ∧ Lo N (S j)) ∧ (∀ i j, i < j → j < k → hd i < hd j) ∧ ∀ i j, i < k → j < k → i ≠ j → tb (S j) (hd i) = false
theorem LSh.le {least : Bool} {N k : Nat} {S : Nat → Int64} {hd : Nat → Nat} (h : LSh least N k S hd) : k ≤ N := by
  have key : ∀ j, j < k → j ≤ hd j := by
    intro j
    induction j with
    | zero => intro _; exact Nat.zero_le _
    | succ j ih =>
      intro hj
      have := h.2.1 j (j + 1) (by omega) hj
      have := ih (by omega)
      omega
  rcases Nat.eq_zero_or_pos k with q | q
  · omega
  · have := key (k - 1) (by omega)
    have := (h.1 (k - 1) (by omega)).1
    omega
def SatL (N k : Nat) (S : Nat → Int64) (B : Nat → Bool) (a : Nat → Bool) : Prop := ∀ j, j < k → dot N (S j) a = B j
/-- how many heads are below h: just the first rows -/
theorem LSh.place {least : Bool} {N k : Nat} {S : Nat → Int64} {hd : Nat → Nat} (hL : LSh least N k S hd) (h : Nat) : ∃ pl, pl ≤ k ∧ ∀ i, i < k → (hd i < h ↔ i < pl) := by
  obtain ⟨pl, h1, h2⟩ := pk_least (fun i => i = k ∨ ¬ hd i < h) ⟨k, Or.inl rfl⟩
  have hle : pl ≤ k := by
    apply Classical.byContradiction
    intro q
    exact h2 k (by omega) (Or.inl rfl)
  refine ⟨pl, hle, fun i hi => ⟨fun q => ?_, fun q => ?_⟩⟩
  · apply Classical.byContradiction
    intro c
    rcases h1 with w | w
    · omega
    · by_cases e : i = pl
      · rw [e] at q; exact w q
      · have := hL.2.1 pl i (by omega) hi
        omega
  · apply Classical.byContradiction
    intro c
    exact h2 i q (Or.inr c)
/-- rows out of which the new head goes -/
def outS (S : Nat → Int64) (set : Int64) (h j : Nat) : Int64 := if tb (S j) h then S j ^^^ set else S j
def outB (S : Nat → Int64) (B : Nat → Bool) (b : Bool) (h j : Nat) : Bool := if tb (S j) h then B j ^^ b else B j
theorem put_loop {least : Bool} {N k : Nat} (hN : N ≤ 40) {S : Nat → Int64} {B : Nat → Bool} {hd : Nat → Nat} (hL : LSh least N k S hd) {set : Int64} {b : Bool} {h : Nat} (hh : h < N) (hset : isH least set h) (hred : ∀ i, i < k → tb set (hd i) = false) {pl : Nat} (hpl : pl ≤ k) (hp : ∀ i, i < k → (hd i < h ↔ i < pl)) :
    ∀ (q j : Nat) (S1 : Nat → Int64) (T1 : Nat → Int32), j + q = k → (∀ i, i < k → S1 i = if i < j then outS S set h i else S i) → (∀ i, i < k → T1 i = bI (if i < j then outB S B b h i else B i)) →
      ∃ S2 T2, L_X8_putRow_24 60 60 set (bI b) least (jshl 1 (nI h)) (nI (min j pl)) (nI j) (nI k) S1 T1 = L_X8_putRow_116 60 60 set (bI b) least (nI pl) (nI k) (nI k) S2 T2 ∧ (∀ i, i < k → S2 i = outS S set h i) ∧ ∀ i, i < k → T2 i = bI (outB S B b h i) := by
  have hkN := hL.le
  intro q
  induction q with
  | zero =>
    intro j S1 T1 hj h1 h2
    have : j = k := by omega
    subst this
    refine ⟨S1, T1, ?_, fun i hi => by rw [h1 i hi, if_pos hi], fun i hi => by rw [h2 i hi, if_pos hi]⟩
    rw [E_X8_putRow_24, cif_pos ((nI_leI (by omega) (by omega)).mpr (Nat.le_refl _)), Nat.min_eq_right hpl]
  | succ q ih =>
    intro j S1 T1 hj h1 h2
    have hjk : j < k := by omega
    have s1 := h1 j hjk
    have t1 := h2 j hjk
    rw [if_neg (Nat.lt_irrefl j)] at s1 t1
    obtain ⟨hdj, hHj, hLoj⟩ := hL.1 j hjk
    rw [E_X8_putRow_24, cif_neg (fun z => by have := (nI_leI (by omega) (by omega)).mp z; omega), cif_pos (vp_in_nI (by omega) (by omega)), nI_clamp (by omega), s1]
    -- the count of heads below
    have hcount : ∀ (S3 : Nat → Int64) (T3 : Nat → Int32) (X : Option (Int32 × (Nat → Int64) × (Nat → Int32))), L_X8_putRow_24 60 60 set (bI b) least (jshl 1 (nI h)) (nI (min (j + 1) pl)) (nI (j + 1)) (nI k) S3 T3 = X →
        cif (jshl 1 (nI h) ≤ jshl 1 (nI (hd j))) (L_X8_putRow_24 60 60 set (bI b) least (jshl 1 (nI h)) (nI (min j pl) + (0 : Int32)) (nI j + (1 : Int32)) (nI k) S3 T3) (L_X8_putRow_24 60 60 set (bI b) least (jshl 1 (nI h)) (nI (min j pl) + (1 : Int32)) (nI j + (1 : Int32)) (nI k) S3 T3) = X := by
      intro S3 T3 X hX
      rw [nI_1, nI_1]
      by_cases w : h ≤ hd j
      · have hnp : ¬ j < pl := fun z => by have := (hp j hjk).mpr z; omega
        rw [cif_pos ((pow_le (by omega) (by omega)).mpr w), ← hX, show min (j + 1) pl = min j pl by omega]
        show L_X8_putRow_24 60 60 set (bI b) least (jshl 1 (nI h)) (nI (min j pl) + nI 0) (nI (j + 1)) (nI k) S3 T3 = _
        rw [nI_add]; rfl
      · have hnp : j < pl := (hp j hjk).mp (by omega)
        rw [cif_neg (fun z => w ((pow_le (by omega) (by omega)).mp z)), ← hX, show min (j + 1) pl = min j pl + 1 by omega]
    cases e : tb (S j) h with
    | false =>
      rw [cif_pos ((hi_and (by omega)).mpr e), headOf_spec (h := hd j) (by omega) (by omega) (by rw [s1]; exact hHj), Option.bind_some]
      obtain ⟨S2, T2, r1, r2, r3⟩ := ih (j + 1) S1 T1 (by omega) (fun i hi => by
        rw [h1 i hi]
        by_cases w : i = j
        · subst w
          rw [if_neg (Nat.lt_irrefl i), if_pos (Nat.lt_succ_self i)]
          unfold outS; rw [e]; rfl
        · by_cases z : i < j
          · rw [if_pos z, if_pos (by omega)]
          · rw [if_neg z, if_neg (by omega)]) (fun i hi => by
        rw [h2 i hi]
        by_cases w : i = j
        · subst w
          rw [if_neg (Nat.lt_irrefl i), if_pos (Nat.lt_succ_self i)]
          unfold outB; rw [e]; rfl
        · by_cases z : i < j
          · rw [if_pos z, if_pos (by omega)]
          · rw [if_neg z, if_neg (by omega)])
      exact ⟨S2, T2, hcount S1 T1 _ r1, r2, r3⟩
    | true =>
      rw [cif_neg (fun z => by rw [hi_and (by omega), e] at z; cases z), cif_pos (vp_in_nI (by omega) (by omega)), cif_pos (vp_in_nI (by omega) (by omega)), cif_pos (vp_in_nI (by omega) (by omega)), cif_pos (vp_in_nI (by omega) (by omega)), t1, bI_xor]
      rw [headOf_spec (h := hd j) (by omega) (by omega) (by rw [pk_uLs]; exact isH_xor hHj hset e (hred j hjk)), Option.bind_some]
      obtain ⟨S2, T2, r1, r2, r3⟩ := ih (j + 1) (vp_updL S1 j (S j ^^^ set)) (upd T1 j (bI (B j ^^ b))) (by omega) (fun i hi => by
        by_cases w : i = j
        · subst w
          rw [pk_uLs, if_pos (Nat.lt_succ_self i)]
          unfold outS; rw [e]; rfl
        · rw [pk_uLn w, h1 i hi]
          by_cases z : i < j
          · rw [if_pos z, if_pos (by omega)]
          · rw [if_neg z, if_neg (by omega)]) (fun i hi => by
        by_cases w : i = j
        · subst w
          rw [pk_us, if_pos (Nat.lt_succ_self i)]
          unfold outB; rw [e]; rfl
        · rw [pk_un w, h2 i hi]
          by_cases z : i < j
          · rw [if_pos z, if_pos (by omega)]
          · rw [if_neg z, if_neg (by omega)])
      exact ⟨S2, T2, hcount _ _ _ r1, r2, r3⟩
/-- a thing put in at pl -/
def insF {α : Type} (f : Nat → α) (x : α) (pl j : Nat) : α := if j < pl then f j else if j = pl then x else f (j - 1)
theorem shift_loop {least : Bool} {k : Nat} (hk : k < 60) {set : Int64} {b : Bool} {pl : Nat} (S : Nat → Int64) (T : Nat → Int32) : ∀ (q j : Nat) (S1 : Nat → Int64) (T1 : Nat → Int32), pl + q = j → j ≤ k → (∀ i, i < j → S1 i = S i) → (∀ i, j < i → i ≤ k → S1 i = S (i - 1)) → (∀ i, i < j → T1 i = T i) → (∀ i, j < i → i ≤ k → T1 i = T (i - 1)) →
    ∃ S2 T2, L_X8_putRow_116 60 60 set (bI b) least (nI pl) (nI j) (nI k) S1 T1 = some (nI (k + 1), S2, T2) ∧ (∀ i, i ≤ k → S2 i = insF S set pl i) ∧ ∀ i, i ≤ k → T2 i = insF T (bI b) pl i := by
  intro q
  induction q with
  | zero =>
    intro j S1 T1 hj hjk h1 h2 h3 h4
    have : j = pl := by omega
    subst this
    refine ⟨vp_updL S1 j set, upd T1 j (bI b), ?_, fun i hi => ?_, fun i hi => ?_⟩
    · rw [E_X8_putRow_116, cif_pos ((nI_leI (by omega) (by omega)).mpr (Nat.le_refl _)), cif_pos (vp_in_nI (by omega) (by omega)), cif_pos (vp_in_nI (by omega) (by omega)), nI_clamp (by omega), nI_1]
    · unfold insF
      by_cases w : i = j
      · rw [w, pk_uLs, if_neg (Nat.lt_irrefl j), if_pos rfl]
      · rw [pk_uLn w]
        by_cases z : i < j
        · rw [if_pos z, h1 i z]
        · rw [if_neg z, if_neg w, h2 i (by omega) hi]
    · unfold insF
      by_cases w : i = j
      · rw [w, pk_us, if_neg (Nat.lt_irrefl j), if_pos rfl]
      · rw [pk_un w]
        by_cases z : i < j
        · rw [if_pos z, h3 i z]
        · rw [if_neg z, if_neg w, h4 i (by omega) hi]
  | succ q ih =>
    intro j S1 T1 hj hjk h1 h2 h3 h4
    obtain ⟨j, rfl⟩ : ∃ i, j = i + 1 := ⟨j - 1, by omega⟩
    have e1 : nI (j + 1) - (1 : Int32) = nI j := nI_pred j
    have e2 : nI (j + 1) + (-1 : Int32) = nI j := pk_m1 j
    rw [E_X8_putRow_116, cif_neg (fun z => by have := (nI_leI (by omega) (by omega)).mp z; omega), e1, e2, cif_pos (vp_in_nI (by omega) (by omega)), cif_pos (vp_in_nI (by omega) (by omega)), cif_pos (vp_in_nI (by omega) (by omega)), cif_pos (vp_in_nI (by omega) (by omega)), nI_clamp (show j < 2 ^ 31 by omega), nI_clamp (show j + 1 < 2 ^ 31 by omega)]
    refine ih j _ _ (by omega) (by omega) (fun i hi => ?_) (fun i hi hik => ?_) (fun i hi => ?_) (fun i hi hik => ?_)
    · rw [pk_uLn (by omega)]; exact h1 i (by omega)
    · by_cases w : i = j + 1
      · rw [w, pk_uLs]; exact h1 j (by omega)
      · rw [pk_uLn w]; exact h2 i (by omega) hik
    · rw [pk_un (by omega)]; exact h3 i (by omega)
    · by_cases w : i = j + 1
      · rw [w, pk_us]; exact h3 j (by omega)
      · rw [pk_un w]; exact h4 i (by omega) hik
