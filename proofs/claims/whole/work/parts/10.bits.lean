/-! BITS of a long: tb x i -/
def tb (x : Int64) (i : Nat) : Bool := x.toBitVec.getLsbD i
theorem tb_ext {x y : Int64} (h : ∀ i, i < 64 → tb x i = tb y i) : x = y := Int64.toBitVec_inj.mp (BitVec.eq_of_getLsbD_eq (fun i hi => h i hi))
theorem tb_or (x y : Int64) (i : Nat) : tb (x ||| y) i = (tb x i || tb y i) := by unfold tb; rw [Int64.toBitVec_or, BitVec.getLsbD_or]
theorem tb_and (x y : Int64) (i : Nat) : tb (x &&& y) i = (tb x i && tb y i) := by unfold tb; rw [Int64.toBitVec_and, BitVec.getLsbD_and]
theorem tb_xor (x y : Int64) (i : Nat) : tb (x ^^^ y) i = (tb x i ^^ tb y i) := by unfold tb; rw [Int64.toBitVec_xor, BitVec.getLsbD_xor]
theorem tb_big {x : Int64} {i : Nat} (h : 64 ≤ i) : tb x i = false := BitVec.getLsbD_of_ge _ _ h
theorem tb_0 (i : Nat) : tb 0 i = false := BitVec.getLsbD_zero
theorem tb_m1 : ∀ i, i < 64 → tb (-1) i = true := by decide +kernel
theorem tb_not (x : Int64) {i : Nat} (hi : i < 64) : tb (x ^^^ (-1)) i = !tb x i := by rw [tb_xor, tb_m1 i hi]; cases tb x i <;> rfl
theorem tb_1 (i : Nat) : tb 1 i = decide (i = 0) := by
  rcases Nat.lt_or_ge i 64 with h | h
  · exact (by decide +kernel : ∀ i, i < 64 → tb 1 i = decide (i = 0)) i h
  · rw [tb_big h, decide_eq_false (by omega)]
theorem tb_pow : ∀ k, k < 64 → ∀ i, i < 64 → tb (jshl 1 (nI k)) i = decide (i = k) := by decide +kernel
theorem tb_bit {k : Nat} (hk : k < 64) (i : Nat) : tb (jshl 1 (nI k)) i = decide (i = k) := by
  rcases Nat.lt_or_ge i 64 with h | h
  · exact tb_pow k hk i h
  · rw [tb_big h, decide_eq_false (by omega)]
theorem tb_mask : ∀ k, k < 41 → ∀ i, i < 64 → tb (jshl 1 (nI k) - 1) i = decide (i < k) := by decide +kernel
/-- bit 62: the right side of an equation -/
theorem tb_R (i : Nat) : tb 4611686018427387904 i = decide (i = 62) := by
  rcases Nat.lt_or_ge i 64 with h | h
  · exact (by decide +kernel : ∀ i, i < 64 → tb 4611686018427387904 i = decide (i = 62)) i h
  · rw [tb_big h, decide_eq_false (by omega)]
theorem tb_nR {i : Nat} (h : i < 64) : tb (-4611686018427387905) i = decide (i ≠ 62) := (by decide +kernel : ∀ i, i < 64 → tb (-4611686018427387905) i = decide (i ≠ 62)) i h
theorem tb_eq0 {x : Int64} : x = 0 ↔ ∀ i, i < 64 → tb x i = false := by
  constructor
  · intro h i _; rw [h]; exact tb_0 i
  · intro h; exact tb_ext (fun i hi => by rw [h i hi, tb_0])
theorem tb_and1 {x : Int64} : (x &&& 1) = 0 ↔ tb x 0 = false := by
  rw [tb_eq0]
  constructor
  · intro h
    have := h 0 (by decide)
    rw [tb_and, tb_1] at this
    simpa using this
  · intro h i _
    rw [tb_and, tb_1]
    by_cases e : i = 0
    · subst e; rw [h]; rfl
    · rw [decide_eq_false e]; simp
theorem js_u : ∀ k, k < 64 → ((nI k).toInt64.toUInt64 &&& Int64.toUInt64 63) = UInt64.ofNat k := by decide +kernel
theorem js_s : ∀ k, k < 64 → ((nI k).toInt64 &&& 63).toBitVec.smod 64 = BitVec.ofNat 64 k := by decide +kernel
theorem tb_ushr (x : Int64) {k : Nat} (hk : k < 64) (i : Nat) : tb (jushr x (nI k)) i = tb x (k + i) := by
  unfold jushr
  rw [js_u k hk]
  show (x.toUInt64 >>> UInt64.ofNat k).toBitVec.getLsbD i = x.toUInt64.toBitVec.getLsbD (k + i)
  rw [UInt64.toBitVec_shiftRight]
  show (x.toUInt64.toBitVec >>> ((UInt64.ofNat k).toBitVec % 64).toNat).getLsbD i = _
  have e : ((UInt64.ofNat k).toBitVec % 64).toNat = k := (by decide +kernel : ∀ k, k < 64 → ((UInt64.ofNat k).toBitVec % 64).toNat = k) k hk
  rw [e, BitVec.getLsbD_ushiftRight]
theorem tb_sshr (x : Int64) {k : Nat} (hk : k < 64) {i : Nat} (hi : i < 64) : tb (jshr x (nI k)) i = if k + i < 64 then tb x (k + i) else tb x 63 := by
  unfold jshr tb
  rw [Int64.toBitVec_shiftRight]
  show (x.toBitVec.sshiftRight ((((nI k).toInt64 &&& 63).toBitVec.smod 64).toNat)).getLsbD i = _
  rw [js_s k hk, BitVec.toNat_ofNat, Nat.mod_eq_of_lt (show k < 2 ^ 64 by omega), BitVec.getLsbD_sshiftRight, BitVec.msb_eq_getLsbD_last]
  simp [hi]
theorem ju_bit {x : Int64} {k : Nat} (hk : k < 64) : ((jushr x (nI k)) &&& 1) = 0 ↔ tb x k = false := by rw [tb_and1, tb_ushr x hk]; simp
theorem js_bit {x : Int64} {k : Nat} (hk : k < 64) : ((jshr x (nI k)) &&& 1) = 1 ↔ tb x k = true := by
  have h0 : tb (jshr x (nI k)) 0 = tb x k := by rw [tb_sshr x hk (by decide)]; simp [hk]
  constructor
  · intro h
    cases e : tb x k with
    | true => rfl
    | false =>
      rw [e] at h0
      rw [tb_and1.mpr h0] at h
      exact absurd h (by decide)
  · intro h
    rw [h] at h0
    refine tb_ext (fun i hi => ?_)
    rw [tb_and, tb_1]
    by_cases e : i = 0
    · subst e; rw [h0]; rfl
    · rw [decide_eq_false e]; simp
/-- the bits from N on are 0 -/
def Lo (N : Nat) (x : Int64) : Prop := ∀ i, N ≤ i → tb x i = false
theorem Lo.xor {N : Nat} {x y : Int64} (hx : Lo N x) (hy : Lo N y) : Lo N (x ^^^ y) := fun i hi => by rw [tb_xor, hx i hi, hy i hi]; rfl
theorem Lo.and {N : Nat} {x : Int64} (hx : Lo N x) (y : Int64) : Lo N (x &&& y) := fun i hi => by rw [tb_and, hx i hi]; rfl
theorem Lo.or {N : Nat} {x y : Int64} (hx : Lo N x) (hy : Lo N y) : Lo N (x ||| y) := fun i hi => by rw [tb_or, hx i hi, hy i hi]; rfl
theorem Lo.zero {N : Nat} : Lo N 0 := fun i _ => tb_0 i
theorem Lo.bit {N k : Nat} (hk : k < N) (hN : N ≤ 64) : Lo N (jshl 1 (nI k)) := fun i hi => by rw [tb_bit (by omega), decide_eq_false (by omega)]
/-- the class's test of a set -/
theorem isVars {N : Nat} (hN : N ≤ 40) (x : Int64) : (x &&& ((jshl 1 (nI N) - 1) ^^^ (-1))) = 0 ↔ Lo N x := by
  rw [tb_eq0]
  constructor
  · intro h i hi
    rcases Nat.lt_or_ge i 64 with h64 | h64
    · have := h i h64
      rw [tb_and, tb_not _ h64, tb_mask N (by omega) i h64, decide_eq_false (by omega)] at this
      simpa using this
    · exact tb_big h64
  · intro h i h64
    rw [tb_and, tb_not _ h64, tb_mask N (by omega) i h64]
    by_cases e : i < N
    · rw [decide_eq_true e]; simp
    · rw [h i (by omega)]; rfl
/-- the reference's test of a set -/
theorem isVars8 {N : Nat} (hN : N ≤ 40) (x : Int64) : (jshr x (nI N)) = 0 ↔ Lo N x := by
  rw [tb_eq0]
  constructor
  · intro h i hi
    rcases Nat.lt_or_ge i 64 with h64 | h64
    · have := h (i - N) (by omega)
      rw [tb_sshr x (by omega) (by omega), if_pos (by omega), show N + (i - N) = i by omega] at this
      exact this
    · exact tb_big h64
  · intro h i h64
    rw [tb_sshr x (by omega) h64]
    split
    · exact h _ (by omega)
    · exact h _ (by omega)
/-- the least place where a bit is 1 -/
def isLow (x : Int64) (h : Nat) : Prop := tb x h = true ∧ ∀ j, j < h → tb x j = false
theorem low_ex {x : Int64} (hx : x ≠ 0) : ∃ h, h < 64 ∧ isLow x h := by
  have : ∃ i, tb x i = true := by
    apply Classical.byContradiction
    intro hn
    exact hx (tb_eq0.mpr (fun i _ => by cases e : tb x i with | false => rfl | true => exact absurd ⟨i, e⟩ hn))
  obtain ⟨k, h1, h2⟩ := pk_least (fun i => tb x i = true) this
  refine ⟨k, ?_, h1, fun j hj => by cases e : tb x j with | false => rfl | true => exact absurd e (h2 j hj)⟩
  rcases Nat.lt_or_ge k 64 with h | h
  · exact h
  · rw [tb_big h] at h1; cases h1
theorem isLow.uniq {x : Int64} {a b : Nat} (ha : isLow x a) (hb : isLow x b) : a = b := by
  rcases Nat.lt_trichotomy a b with h | h | h
  · have := hb.2 a h; rw [ha.1] at this; cases this
  · exact h
  · have := ha.2 b h; rw [hb.1] at this; cases this
theorem isLow.lt {x : Int64} {h : Nat} (hx : isLow x h) : h < 64 := by
  rcases Nat.lt_or_ge h 64 with e | e
  · exact e
  · have := hx.1; rw [tb_big e] at this; cases this
theorem isLow.split {x : Int64} {h : Nat} (hx : isLow x h) : ∃ m, x.toBitVec.toNat = 2 ^ (h + 1) * m + 2 ^ h := by
  obtain ⟨h1, h2⟩ := hx
  have ht : ∀ j, x.toBitVec.toNat.testBit j = tb x j := fun j => by unfold tb; rw [BitVec.testBit_toNat]
  refine ⟨x.toBitVec.toNat / 2 ^ (h + 1), ?_⟩
  have e : x.toBitVec.toNat % 2 ^ (h + 1) = 2 ^ h := by
    apply Nat.eq_of_testBit_eq
    intro j
    rw [Nat.testBit_mod_two_pow, Nat.testBit_two_pow, ht]
    rcases Nat.lt_trichotomy j h with q | q | q
    · rw [h2 j q]; simp; omega
    · subst q; rw [h1]; simp
    · have : ¬ j < h + 1 := by omega
      simp [this]; omega
  have := Nat.div_add_mod x.toBitVec.toNat (2 ^ (h + 1))
  rw [e] at this
  exact this.symm
theorem low_neg {x : Int64} {h : Nat} (hx : isLow x h) : (x &&& (-x)) = jshl 1 (nI h) := by
  obtain ⟨m, hm⟩ := hx.split
  have hlt := hx.lt
  have hb := x.toBitVec.isLt
  refine tb_ext (fun i hi => ?_)
  rw [tb_and, tb_bit hlt]
  -- bits of -x
  have hn : (-x).toBitVec.toNat = 2 ^ (h + 1) * (2 ^ (63 - h) - m - 1) + 2 ^ h := by
    have e64 : 2 ^ 64 = 2 ^ (h + 1) * 2 ^ (63 - h) := by rw [← Nat.pow_add]; congr 1; omega
    have hm2 : m < 2 ^ (63 - h) := by
      apply Classical.byContradiction
      intro hc
      have : 2 ^ (h + 1) * 2 ^ (63 - h) ≤ 2 ^ (h + 1) * m := Nat.mul_le_mul_left _ (by omega)
      rw [← e64] at this
      rw [hm] at hb
      exact absurd (Nat.lt_of_le_of_lt (Nat.le_trans this (Nat.le_add_right _ _)) hb) (Nat.lt_irrefl _)
    rw [Int64.toBitVec_neg, BitVec.toNat_neg, hm]
    have hp : 2 ^ (h + 1) = 2 ^ h + 2 ^ h := by rw [Nat.pow_succ]; omega
    have hpos : 0 < 2 ^ h := Nat.pow_pos (by decide)
    obtain ⟨d, hd⟩ : ∃ d, 2 ^ (63 - h) = m + 1 + d := ⟨2 ^ (63 - h) - m - 1, by omega⟩
    have hk : 2 ^ (h + 1) * 2 ^ (63 - h) = 2 ^ (h + 1) * m + 2 ^ (h + 1) + 2 ^ (h + 1) * d := by rw [hd, Nat.mul_add, Nat.mul_add, Nat.mul_one]
    rw [show 2 ^ (63 - h) - m - 1 = d by omega, Nat.mod_eq_of_lt (by rw [e64, hk]; omega), e64, hk]
    omega
  have ht : ∀ j, tb (-x) j = (2 ^ (h + 1) * (2 ^ (63 - h) - m - 1) + 2 ^ h).testBit j := fun j => by unfold tb; rw [← BitVec.testBit_toNat, hn]
  rcases Nat.lt_trichotomy i h with q | q | q
  · rw [hx.2 i q, decide_eq_false (by omega)]; rfl
  · subst q
    rw [hx.1, decide_eq_true rfl, ht, Nat.testBit_two_pow_mul_add _ (Nat.pow_lt_pow_right (by decide) (by omega)), if_pos (by omega), Nat.testBit_two_pow_self]
    rfl
  · have h1 : tb x i = m.testBit (i - (h + 1)) := by
      unfold tb
      rw [← BitVec.testBit_toNat, hm, Nat.testBit_two_pow_mul_add _ (Nat.pow_lt_pow_right (by decide) (by omega)), if_neg (by omega)]
    rw [h1, ht, Nat.testBit_two_pow_mul_add _ (Nat.pow_lt_pow_right (by decide) (by omega)), if_neg (by omega), decide_eq_false (by omega)]
    have hm2 : m < 2 ^ (63 - h) := by
      have e64 : 2 ^ 64 = 2 ^ (h + 1) * 2 ^ (63 - h) := by rw [← Nat.pow_add]; congr 1; omega
      apply Classical.byContradiction
      intro hc
      have : 2 ^ (h + 1) * 2 ^ (63 - h) ≤ 2 ^ (h + 1) * m := Nat.mul_le_mul_left _ (by omega)
      rw [← e64] at this
      rw [hm] at hb
      exact absurd (Nat.lt_of_le_of_lt (Nat.le_trans this (Nat.le_add_right _ _)) hb) (Nat.lt_irrefl _)
    rw [Nat.sub_sub, Nat.testBit_two_pow_sub_succ hm2]
    cases m.testBit (i - (h + 1)) <;> simp
