/-! Long.bitCount counts the bits -/
def un (x : Int64) : Nat := x.toBitVec.toNat
theorem un_lt (x : Int64) : un x < 2 ^ 64 := x.toBitVec.isLt
theorem un_and (x y : Int64) : un (x &&& y) = un x &&& un y := by unfold un; rw [Int64.toBitVec_and, BitVec.toNat_and]
theorem un_add {x y : Int64} (h : un x + un y < 2 ^ 64) : un (x + y) = un x + un y := by
  unfold un at *
  rw [Int64.toBitVec_add, BitVec.toNat_add, Nat.mod_eq_of_lt h]
theorem un_sub {x y : Int64} (h : un y ≤ un x) : un (x - y) = un x - un y := by
  have hx := un_lt x
  have hy := un_lt y
  unfold un at *
  rw [Int64.toBitVec_sub, BitVec.toNat_sub, show 2 ^ 64 - y.toBitVec.toNat + x.toBitVec.toNat = (x.toBitVec.toNat - y.toBitVec.toNat) + 2 ^ 64 by omega, Nat.add_mod_right, Nat.mod_eq_of_lt (by omega)]
theorem un_ushr (x : Int64) {k : Nat} (hk : k < 64) : un (jushr x (nI k)) = un x / 2 ^ k := by
  unfold un jushr
  rw [js_u k hk]
  show (x.toUInt64 >>> UInt64.ofNat k).toBitVec.toNat = _
  rw [UInt64.toBitVec_shiftRight]
  show (x.toUInt64.toBitVec >>> ((UInt64.ofNat k).toBitVec % 64).toNat).toNat = _
  have e : ((UInt64.ofNat k).toBitVec % 64).toNat = k := (by decide +kernel : ∀ k, k < 64 → ((UInt64.ofNat k).toBitVec % 64).toNat = k) k hk
  rw [e, BitVec.toNat_ushiftRight, Nat.shiftRight_eq_div_pow]
  rfl
/-- digits, the lowest first -/
def dl (B : Nat) : Nat → (Nat → Nat) → Nat
  | 0, _ => 0
  | n + 1, f => f 0 + B * dl B n (fun i => f (i + 1))
theorem dl_add (B : Nat) : ∀ (n : Nat) (f g : Nat → Nat), dl B n f + dl B n g = dl B n (fun i => f i + g i) := by
  intro n
  induction n with
  | zero => intro f g; rfl
  | succ n ih =>
    intro f g
    show (f 0 + B * dl B n (fun i => f (i + 1))) + (g 0 + B * dl B n (fun i => g (i + 1))) = (f 0 + g 0) + B * dl B n (fun i => f (i + 1) + g (i + 1))
    rw [← ih, Nat.mul_add]
    omega
theorem dl_cg (B : Nat) : ∀ (n : Nat) (f g : Nat → Nat), (∀ i, i < n → f i = g i) → dl B n f = dl B n g := by
  intro n
  induction n with
  | zero => intro f g _; rfl
  | succ n ih =>
    intro f g h
    show f 0 + B * dl B n (fun i => f (i + 1)) = g 0 + B * dl B n (fun i => g (i + 1))
    rw [h 0 (by omega), ih _ _ (fun i hi => h (i + 1) (by omega))]
theorem dl_lt {B : Nat} (hB : 0 < B) : ∀ (n : Nat) (f : Nat → Nat), (∀ i, i < n → f i < B) → dl B n f < B ^ n := by
  intro n
  induction n with
  | zero => intro f _; exact Nat.one_pos
  | succ n ih =>
    intro f h
    show f 0 + B * dl B n (fun i => f (i + 1)) < B ^ (n + 1)
    have h1 := ih (fun i => f (i + 1)) (fun i hi => h (i + 1) (by omega))
    have h2 := h 0 (by omega)
    have h3 : B * (dl B n (fun i => f (i + 1)) + 1) ≤ B * B ^ n := Nat.mul_le_mul_left B h1
    rw [Nat.pow_succ, Nat.mul_comm (B ^ n) B]
    rw [Nat.mul_add] at h3
    omega
/-- a digit further: 0 comes in above -/
theorem dl_div {B : Nat} (hB : 0 < B) : ∀ (n : Nat) (f : Nat → Nat), (∀ i, i < n → f i < B) → (∀ i, n ≤ i → f i = 0) → dl B n f / B = dl B n (fun i => f (i + 1)) := by
  intro n
  cases n with
  | zero => intro f _ _; exact Nat.zero_div B
  | succ n =>
    intro f h h0
    show (f 0 + B * dl B n (fun i => f (i + 1))) / B = _
    rw [Nat.add_mul_div_left _ _ hB, Nat.div_eq_of_lt (h 0 (by omega)), Nat.zero_add]
    have ext : ∀ (m : Nat) (g : Nat → Nat), (∀ i, m ≤ i → g i = 0) → dl B m g = dl B (m + 1) g := by
      intro m
      induction m with
      | zero => intro g hg; show 0 = g 0 + B * 0; rw [hg 0 (by omega)]; simp
      | succ m ih =>
        intro g hg
        show g 0 + B * dl B m (fun i => g (i + 1)) = g 0 + B * dl B (m + 1) (fun i => g (i + 1))
        rw [ih (fun i => g (i + 1)) (fun i hi => hg (i + 1) (by omega))]
    exact ext n _ (fun i hi => h0 (i + 1) (by omega))
theorem and_low {w : Nat} {r s q p : Nat} (hr : r < 2 ^ w) (hs : s < 2 ^ w) : (r + 2 ^ w * q) &&& (s + 2 ^ w * p) = (r &&& s) + 2 ^ w * (q &&& p) := by
  have hrs : r &&& s < 2 ^ w := Nat.lt_of_le_of_lt Nat.and_le_left hr
  apply Nat.eq_of_testBit_eq
  intro j
  rw [Nat.testBit_and, Nat.add_comm r, Nat.add_comm s, Nat.add_comm (r &&& s), Nat.testBit_two_pow_mul_add _ hr, Nat.testBit_two_pow_mul_add _ hs, Nat.testBit_two_pow_mul_add _ hrs]
  split
  · rw [Nat.testBit_and]
  · rw [Nat.testBit_and]
/-- every second digit -/
theorem dl_mask {w : Nat} : ∀ (m : Nat) (f : Nat → Nat), (∀ i, f i < 2 ^ w) → dl (2 ^ w) (2 * m) f &&& dl (2 ^ w * 2 ^ w) m (fun _ => 2 ^ w - 1) = dl (2 ^ w * 2 ^ w) m (fun i => f (2 * i)) := by
  intro m
  induction m with
  | zero => intro f _; exact Nat.zero_and _
  | succ m ih =>
    intro f h
    have hp : 0 < 2 ^ w := Nat.pow_pos (by decide)
    show (f 0 + 2 ^ w * (f 1 + 2 ^ w * dl (2 ^ w) (2 * m) (fun i => f (i + 1 + 1)))) &&& ((2 ^ w - 1) + 2 ^ w * 2 ^ w * dl (2 ^ w * 2 ^ w) m (fun _ => 2 ^ w - 1)) = f 0 + 2 ^ w * 2 ^ w * dl (2 ^ w * 2 ^ w) m (fun i => f (2 * (i + 1)))
    have e1 : f 0 + 2 ^ w * (f 1 + 2 ^ w * dl (2 ^ w) (2 * m) (fun i => f (i + 1 + 1))) = (f 0 + 2 ^ w * f 1) + 2 ^ (w + w) * dl (2 ^ w) (2 * m) (fun i => f (i + 1 + 1)) := by
      rw [Nat.pow_add, Nat.mul_add, Nat.mul_assoc]; omega
    have h0 := h 0
    have h1 := h 1
    have hlt : f 0 + 2 ^ w * f 1 < 2 ^ (w + w) := by
      have : 2 ^ w * (f 1 + 1) ≤ 2 ^ w * 2 ^ w := Nat.mul_le_mul_left _ h1
      rw [Nat.mul_add] at this
      rw [Nat.pow_add]
      omega
    have hle : 2 ^ w ≤ 2 ^ (w + w) := Nat.pow_le_pow_right (by decide) (by omega)
    rw [e1, ← Nat.pow_add, and_low hlt (by omega), Nat.and_two_pow_sub_one_eq_mod, Nat.add_mul_mod_self_left, Nat.mod_eq_of_lt h0]
    have := ih (fun i => f (i + 1 + 1)) (fun i => h (i + 1 + 1))
    rw [← Nat.pow_add] at this
    rw [this]
    rfl
theorem dl_bits : ∀ (n v : Nat), v < 2 ^ n → v = dl 2 n (fun i => (v.testBit i).toNat) := by
  intro n
  induction n with
  | zero => intro v h; show v = 0; have : v < 1 := h; omega
  | succ n ih =>
    intro v h
    have h2 : v / 2 < 2 ^ n := by rw [Nat.pow_succ] at h; omega
    have e := ih (v / 2) h2
    show v = (v.testBit 0).toNat + 2 * dl 2 n (fun i => (v.testBit (i + 1)).toNat)
    have e2 : dl 2 n (fun i => (v.testBit (i + 1)).toNat) = v / 2 := by
      rw [e]
      refine (dl_cg 2 n _ _ (fun i _ => ?_))
      rw [Nat.testBit_succ]
    rw [e2, Nat.testBit_zero]
    have : (decide (v % 2 = 1)).toNat = v % 2 := by
      rcases Nat.mod_two_eq_zero_or_one v with q | q <;> rw [q] <;> rfl
    rw [this]
    omega
theorem dl_pair : ∀ (m : Nat) (f : Nat → Nat) (B : Nat), dl B (2 * m) f = dl (B * B) m (fun i => f (2 * i) + B * f (2 * i + 1)) := by
  intro m
  induction m with
  | zero => intro f B; rfl
  | succ m ih =>
    intro f B
    show f 0 + B * (f 1 + B * dl B (2 * m) (fun i => f (i + 1 + 1))) = (f 0 + B * f 1) + B * B * dl (B * B) m (fun i => f (2 * (i + 1)) + B * f (2 * (i + 1) + 1))
    rw [ih, Nat.mul_add, Nat.mul_assoc]
    show _ = f 0 + B * f 1 + B * (B * dl (B * B) m (fun i => f (2 * i + 1 + 1) + B * f (2 * i + 1 + 1 + 1)))
    omega
def bitN (x : Int64) (i : Nat) : Nat := (tb x i).toNat
theorem bitN_le (x : Int64) (i : Nat) : bitN x i ≤ 1 := by unfold bitN; cases tb x i <;> decide
theorem bitN_0 (x : Int64) {i : Nat} (h : 64 ≤ i) : bitN x i = 0 := by unfold bitN; rw [tb_big h]; rfl
theorem un_dl (x : Int64) : un x = dl 2 64 (bitN x) := by
  have h := dl_bits 64 (un x) (un_lt x)
  refine h.trans (dl_cg 2 64 _ _ (fun i _ => ?_))
  unfold bitN tb un
  rw [BitVec.testBit_toNat]
def c1 (x : Int64) (i : Nat) : Nat := bitN x (2 * i) + bitN x (2 * i + 1)
def c2 (x : Int64) (i : Nat) : Nat := c1 x (2 * i) + c1 x (2 * i + 1)
def c3 (x : Int64) (i : Nat) : Nat := c2 x (2 * i) + c2 x (2 * i + 1)
theorem c1_le (x : Int64) (i : Nat) : c1 x i ≤ 2 := by have := bitN_le x (2 * i); have := bitN_le x (2 * i + 1); unfold c1; omega
theorem c2_le (x : Int64) (i : Nat) : c2 x i ≤ 4 := by have := c1_le x (2 * i); have := c1_le x (2 * i + 1); unfold c2; omega
theorem c3_le (x : Int64) (i : Nat) : c3 x i ≤ 8 := by have := c2_le x (2 * i); have := c2_le x (2 * i + 1); unfold c3; omega
theorem c1_0 (x : Int64) {i : Nat} (h : 32 ≤ i) : c1 x i = 0 := by unfold c1; rw [bitN_0 x (by omega), bitN_0 x (by omega)]
theorem c2_0 (x : Int64) {i : Nat} (h : 16 ≤ i) : c2 x i = 0 := by unfold c2; rw [c1_0 x (by omega), c1_0 x (by omega)]
theorem c3_0 (x : Int64) {i : Nat} (h : 8 ≤ i) : c3 x i = 0 := by unfold c3; rw [c2_0 x (by omega), c2_0 x (by omega)]
theorem m1_dl : un 6148914691236517205 = dl (2 ^ 1 * 2 ^ 1) 32 (fun _ => 2 ^ 1 - 1) := by decide +kernel
theorem m2_dl : un 3689348814741910323 = dl (2 ^ 2 * 2 ^ 2) 16 (fun _ => 2 ^ 2 - 1) := by decide +kernel
theorem m3_dl : un 1085102592571150095 = dl (2 ^ 4 * 2 ^ 4) 8 (fun _ => 2 ^ 4 - 1) := by decide +kernel
theorem y1_dl (x : Int64) : un (x - ((jushr x 1) &&& 6148914691236517205)) = dl 4 32 (c1 x) := by
  have e1 : un ((jushr x 1) &&& 6148914691236517205) = dl 4 32 (fun i => bitN x (2 * i + 1)) := by
    rw [un_and, show jushr x 1 = jushr x (nI 1) from rfl, un_ushr x (by decide), un_dl, show 2 ^ 1 = 2 from rfl, dl_div (by decide) 64 _ (fun i _ => Nat.lt_of_le_of_lt (bitN_le x i) (by decide)) (fun i hi => bitN_0 x hi), m1_dl]
    exact dl_mask (w := 1) 32 (fun i => bitN x (i + 1)) (fun i => Nat.lt_of_le_of_lt (bitN_le x (i + 1)) (by decide))
  have e2 : un x = dl 4 32 (c1 x) + dl 4 32 (fun i => bitN x (2 * i + 1)) := by
    rw [dl_add, un_dl]
    refine (dl_pair 32 (bitN x) 2).trans (dl_cg 4 32 _ _ (fun i _ => ?_))
    unfold c1
    omega
  rw [un_sub (by rw [e1, e2]; omega), e1, e2]
  omega
theorem y2_dl {y x : Int64} (h : un y = dl 4 32 (c1 x)) : un ((y &&& 3689348814741910323) + ((jushr y 2) &&& 3689348814741910323)) = dl 16 16 (c2 x) := by
  have hc : ∀ i, c1 x i < 2 ^ 2 := fun i => Nat.lt_of_le_of_lt (c1_le x i) (by decide)
  have e1 : un (y &&& 3689348814741910323) = dl 16 16 (fun i => c1 x (2 * i)) := by
    rw [un_and, h, m2_dl]
    exact dl_mask (w := 2) 16 (c1 x) hc
  have e2 : un ((jushr y 2) &&& 3689348814741910323) = dl 16 16 (fun i => c1 x (2 * i + 1)) := by
    rw [un_and, show jushr y 2 = jushr y (nI 2) from rfl, un_ushr y (by decide), h, show 2 ^ 2 = 4 from rfl, dl_div (by decide) 32 _ (fun i _ => hc i) (fun i hi => c1_0 x hi), m2_dl]
    exact dl_mask (w := 2) 16 (fun i => c1 x (i + 1)) (fun i => hc (i + 1))
  have e3 : dl 16 16 (fun i => c1 x (2 * i)) + dl 16 16 (fun i => c1 x (2 * i + 1)) = dl 16 16 (c2 x) := dl_add 16 16 _ _
  have hlt : dl 16 16 (c2 x) < 16 ^ 16 := dl_lt (by decide) 16 _ (fun i _ => Nat.lt_of_le_of_lt (c2_le x i) (by decide))
  rw [un_add (by rw [e1, e2, e3]; exact hlt), e1, e2, e3]
theorem y3_dl {y x : Int64} (h : un y = dl 16 16 (c2 x)) : un ((y + (jushr y 4)) &&& 1085102592571150095) = dl 256 8 (c3 x) := by
  have hc : ∀ i, c2 x i < 16 := fun i => Nat.lt_of_le_of_lt (c2_le x i) (by decide)
  have e1 : un (jushr y 4) = dl 16 16 (fun i => c2 x (i + 1)) := by
    rw [show jushr y 4 = jushr y (nI 4) from rfl, un_ushr y (by decide), h, show 2 ^ 4 = 16 from rfl, dl_div (by decide) 16 _ (fun i _ => hc i) (fun i hi => c2_0 x hi)]
  have e3 : dl 16 16 (c2 x) + dl 16 16 (fun i => c2 x (i + 1)) = dl 16 16 (fun i => c2 x i + c2 x (i + 1)) := dl_add 16 16 _ _
  have hs : ∀ i, c2 x i + c2 x (i + 1) < 2 ^ 4 := fun i => by have := c2_le x i; have := c2_le x (i + 1); omega
  have hlt : dl 16 16 (fun i => c2 x i + c2 x (i + 1)) < 16 ^ 16 := dl_lt (by decide) 16 _ (fun i _ => hs i)
  rw [un_and, un_add (by rw [h, e1, e3]; exact hlt), h, e1, e3, m3_dl]
  exact dl_mask (w := 4) 8 _ hs
/-- digits of 256: one plus those k above -/
theorem y4_dl {y : Int64} {f : Nat → Nat} {b : Nat} (hb : 2 * b < 256) (hf : ∀ i, f i ≤ b) (f0 : ∀ i, 8 ≤ i → f i = 0) (h : un y = dl 256 8 f) {k : Nat} (hk : k < 8) : un (y + (jushr y (nI (8 * k)))) = dl 256 8 (fun i => f i + f (i + k)) := by
  have e1 : ∀ j, dl 256 8 f / 256 ^ j = dl 256 8 (fun i => f (i + j)) := by
    intro j
    induction j with
    | zero => exact Nat.div_one _
    | succ j ih =>
      rw [Nat.pow_succ, ← Nat.div_div_eq_div_mul, ih, dl_div (by decide) 8 _ (fun i _ => by have := hf (i + j); omega) (fun i hi => f0 (i + j) (by omega))]
      exact dl_cg 256 8 _ _ (fun i _ => by rw [show i + 1 + j = i + (j + 1) by omega])
  have e2 : un (jushr y (nI (8 * k))) = dl 256 8 (fun i => f (i + k)) := by
    rw [un_ushr y (by omega), h, Nat.pow_mul, show 2 ^ 8 = 256 from rfl, e1 k]
  have e3 := dl_add 256 8 f (fun i => f (i + k))
  have hlt : dl 256 8 (fun i => f i + f (i + k)) < 256 ^ 8 := dl_lt (by decide) 8 _ (fun i _ => by have := hf i; have := hf (i + k); omega)
  rw [un_add (by rw [h, e2, e3]; exact hlt), h, e2, e3]
theorem low_127 {y : Int64} {f : Nat → Nat} (h : un y = dl 256 8 f) (h0 : f 0 < 128) : y.toInt32 &&& 127 = nI (f 0) := by
  have e : un y % 128 = f 0 := by
    rw [h]
    show (f 0 + 256 * dl 256 7 (fun i => f (i + 1))) % 128 = f 0
    omega
  apply Int32.toBitVec_inj.mp
  rw [Int32.toBitVec_and]
  apply BitVec.eq_of_toNat_eq
  rw [BitVec.toNat_and]
  show (y.toInt32.toBitVec.toNat &&& 127) = (nI (f 0)).toBitVec.toNat
  have e2 : y.toInt32.toBitVec.toNat = un y % 2 ^ 32 := by
    rw [Int64.toBitVec_toInt32, BitVec.signExtend_eq_setWidth_of_le _ (by decide), BitVec.toNat_setWidth]; rfl
  have e3 : (nI (f 0)).toBitVec.toNat = f 0 := by
    show (Int32.ofNat (f 0)).toBitVec.toNat = f 0
    rw [Int32.toBitVec_ofNat', BitVec.toNat_ofNat, Nat.mod_eq_of_lt (by omega)]
  rw [e2, e3, show (127 : Nat) = 2 ^ 7 - 1 from rfl, Nat.and_two_pow_sub_one_eq_mod, show 2 ^ 7 = 128 from rfl]
  omega
theorem cnt_c (x : Int64) : cnt 64 x = c3 x 0 + c3 x 1 + c3 x 2 + c3 x 3 + c3 x 4 + c3 x 5 + c3 x 6 + c3 x 7 := by
  have e : ∀ n, cnt (n + 1) x = cnt n x + bitN x n := fun n => by
    show cnt n x + (if tb x n then 1 else 0) = _
    unfold bitN
    cases tb x n <;> rfl
  unfold c3 c2 c1
  simp only [e, show cnt 0 x = 0 from rfl, Nat.reduceMul, Nat.reduceAdd]
  omega
theorem bitCount_spec (x : Int64) : D_J13_bitCount_95d88 x = some (nI (cnt 64 x)) := by
  have h1 := y1_dl x
  have h2 := y2_dl h1
  have h3 := y3_dl h2
  have h4 := y4_dl (b := 8) (by decide) (c3_le x) (fun i hi => c3_0 x hi) h3 (k := 1) (by decide)
  have h5 := y4_dl (b := 16) (by decide) (fun i => by have := c3_le x i; have := c3_le x (i + 1); omega) (fun i hi => by rw [c3_0 x hi, c3_0 x (by omega)]) h4 (k := 2) (by decide)
  have h6 := y4_dl (b := 32) (by decide) (fun i => by have := c3_le x i; have := c3_le x (i + 1); have := c3_le x (i + 2); have := c3_le x (i + 2 + 1); omega) (fun i hi => by rw [c3_0 x hi, c3_0 x (by omega), c3_0 x (by omega), c3_0 x (by omega)]) h5 (k := 4) (by decide)
  have h7 := low_127 h6 (by have := cnt_le 64 x; rw [cnt_c] at this; simp only [Nat.reduceAdd]; omega)
  have e8 : cnt 64 x = c3 x 0 + c3 x (0 + 1) + (c3 x (0 + 2) + c3 x (0 + 2 + 1)) + (c3 x (0 + 4) + c3 x (0 + 4 + 1) + (c3 x (0 + 4 + 2) + c3 x (0 + 4 + 2 + 1))) := by
    rw [cnt_c]; simp only [Nat.reduceAdd]; omega
  unfold D_J13_bitCount_95d88
  rw [e8]
  exact congrArg some h7
