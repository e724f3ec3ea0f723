/-! THE REFERENCE's ROWS, made -/
theorem insF_lt {α : Type} {f : Nat → α} {x : α} {pl j : Nat} (h : j < pl) : insF f x pl j = f j := by unfold insF; rw [if_pos h]
theorem insF_eq {α : Type} {f : Nat → α} {x : α} {pl : Nat} : insF f x pl pl = x := by unfold insF; rw [if_neg (Nat.lt_irrefl pl), if_pos rfl]
theorem insF_gt {α : Type} {f : Nat → α} {x : α} {pl j : Nat} (h : pl < j) : insF f x pl j = f (j - 1) := by unfold insF; rw [if_neg (by omega), if_neg (by omega)]
/-- a place in the longer list: the new one, or an old one -/
theorem ins_cases {k pl : Nat} (hpl : pl ≤ k) {j : Nat} (hj : j < k + 1) : j = pl ∨ ∃ i, i < k ∧ ((j < pl ∧ i = j) ∨ (pl < j ∧ i = j - 1)) ∧ ∀ {α : Type} (f : Nat → α) (x : α), insF f x pl j = f i := by
  rcases Nat.lt_trichotomy j pl with h | h | h
  · exact Or.inr ⟨j, by omega, Or.inl ⟨h, rfl⟩, fun f x => insF_lt h⟩
  · exact Or.inl h
  · exact Or.inr ⟨j - 1, by omega, Or.inr ⟨h, rfl⟩, fun f x => insF_gt h⟩
theorem putRow_spec {least : Bool} {N k : Nat} (hN : N ≤ 40) {S : Nat → Int64} {B : Nat → Bool} {hd : Nat → Nat} (hL : LSh least N k S hd) {set : Int64} {b : Bool} {h : Nat} (hh : h < N) (hset : isH least set h) (hlo : Lo N set) (hred : ∀ i, i < k → tb set (hd i) = false) {T : Nat → Int32} (hT : ∀ i, i < k → T i = bI (B i)) :
    ∃ S' T' B' hd', D_X8_putRow (nI k) 60 S 60 T set (bI b) least = some (nI (k + 1), S', T') ∧ LSh least N (k + 1) S' hd' ∧ (∀ i, i < k + 1 → T' i = bI (B' i)) ∧ (∀ a, SatL N (k + 1) S' B' a ↔ SatL N k S B a ∧ dot N set a = b) ∧ (∀ v, (∀ j, j < k → tb (S j) v = false) → tb set v = false → ∀ j, j < k + 1 → tb (S' j) v = false) := by
  have hkN := hL.le
  obtain ⟨pl, hpl, hp⟩ := hL.place h
  have hnh : ∀ i, i < k → hd i ≠ h := fun i hi z => by
    have := hred i hi
    rw [z, hset.bit] at this
    cases this
  obtain ⟨S2, T2, e1, s2, t2⟩ := put_loop (b := b) (B := B) hN hL hh hset hred hpl hp k 0 S T (by omega) (fun i hi => by rw [if_neg (by omega)]) (fun i hi => by rw [if_neg (by omega)]; exact hT i hi)
  have hk60 : k < 60 := by omega
  obtain ⟨S3, T3, e2, s3, t3⟩ := shift_loop (least := least) (set := set) (b := b) (pl := pl) hk60 S2 T2 (k - pl) k S2 T2 (by omega) (Nat.le_refl k) (fun _ _ => rfl) (fun i h1 h2 => by omega) (fun _ _ => rfl) (fun i h1 h2 => by omega)
  have hLo : ∀ i, i < k → Lo N (outS S set h i) := fun i hi => by
    unfold outS
    split
    · exact ((hL.1 i hi).2.2).xor hlo
    · exact (hL.1 i hi).2.2
  have hHd : ∀ i, i < k → isH least (outS S set h i) (hd i) := fun i hi => by
    unfold outS
    split
    · next z => exact isH_xor (hL.1 i hi).2.1 hset z (hred i hi)
    · exact (hL.1 i hi).2.1
  have hOut : ∀ i, i < k → tb (outS S set h i) h = false := fun i hi => by
    unfold outS
    cases z : tb (S i) h with
    | true => rw [if_pos rfl, tb_xor, z, hset.bit]; rfl
    | false => rw [if_neg (by simp)]; exact z
  have hOff : ∀ i j, i < k → j < k → i ≠ j → tb (outS S set h j) (hd i) = false := fun i j hi hj hne => by
    unfold outS
    split
    · rw [tb_xor, hL.2.2 i j hi hj hne, hred i hi]; rfl
    · exact hL.2.2 i j hi hj hne
  refine ⟨S3, T3, insF (outB S B b h) b pl, insF hd h pl, ?_, ⟨fun j hj => ?_, fun i j hij hj => ?_, fun i j hi hj hne => ?_⟩, fun i hi => ?_, fun a => ?_, fun v h1 h2 j hj => ?_⟩
  · have : D_X8_putRow (nI k) 60 S 60 T set (bI b) least = L_X8_putRow_24 60 60 set (bI b) least (jshl 1 (nI h)) (nI (min 0 pl)) (nI 0) (nI k) S T := by
      unfold D_X8_putRow
      unfold isH at hset
      cases least with
      | true => rw [cif_pos rfl, lowest_spec hset, Option.bind_some, Nat.zero_min]; rfl
      | false => rw [cif_neg (by simp), highest_spec (by omega) hset, Option.bind_some, Nat.zero_min]; rfl
    rw [this, e1, e2]
  · rw [s3 j (by omega)]
    rcases ins_cases hpl hj with w | ⟨i, hi, hc, hf⟩
    · subst w
      rw [insF_eq, insF_eq]
      exact ⟨hh, hset, hlo⟩
    · rw [hf S2 set, hf hd h, s2 i hi]
      exact ⟨(hL.1 i hi).1, hHd i hi, hLo i hi⟩
  · rcases ins_cases hpl (show i < k + 1 by omega) with w | ⟨i', hi', hc', hf'⟩
    · rcases ins_cases hpl hj with w2 | ⟨j', hj', hc, hf⟩
      · omega
      · subst w
        rw [insF_eq, hf hd h]
        have h3 : ¬ j' < i := by omega
        have h4 := mt (hp j' hj').mp h3
        have h5 := hnh j' hj'
        omega
    · rcases ins_cases hpl hj with w2 | ⟨j', hj', hc, hf⟩
      · subst w2
        rw [insF_eq, hf' hd h]
        exact (hp i' hi').mpr (by omega)
      · rw [hf hd h, hf' hd h]
        exact hL.2.1 i' j' (by omega) hj'
  · rw [s3 j (by omega)]
    rcases ins_cases hpl hi with w | ⟨i', hi', hc', hf'⟩
    · rcases ins_cases hpl hj with w2 | ⟨j', hj', hc, hf⟩
      · omega
      · subst w
        rw [insF_eq, hf S2 set, s2 j' hj']
        exact hOut j' hj'
    · rcases ins_cases hpl hj with w2 | ⟨j', hj', hc, hf⟩
      · subst w2
        rw [insF_eq, hf' hd h]
        exact hred i' hi'
      · rw [hf S2 set, hf' hd h, s2 j' hj']
        exact hOff i' j' hi' hj' (by omega)
  · rw [t3 i (by omega)]
    rcases ins_cases hpl hi with w | ⟨i', hi', hc', hf'⟩
    · subst w; rw [insF_eq, insF_eq]
    · rw [hf' T2 (bI b), hf' (outB S B b h) b, t2 i' hi']
  · have hrow : ∀ i, i < k → dot N set a = b → (dot N (outS S set h i) a = outB S B b h i ↔ dot N (S i) a = B i) := fun i hi hb => by
      unfold outS outB
      cases z : tb (S i) h with
      | true =>
        rw [if_pos rfl, if_pos rfl, dot_xor, hb]
        cases dot N (S i) a <;> cases B i <;> cases b <;> simp
      | false => rw [if_neg (by simp), if_neg (by simp)]
    constructor
    · intro hs
      have hb : dot N set a = b := by
        have := hs pl (by omega)
        rw [s3 pl hpl, insF_eq, insF_eq] at this
        exact this
      refine ⟨fun i hi => (hrow i hi hb).mp ?_, hb⟩
      by_cases w : i < pl
      · have := hs i (by omega)
        rw [s3 i (by omega), insF_lt w, insF_lt w, s2 i hi] at this
        exact this
      · have := hs (i + 1) (by omega)
        rw [s3 (i + 1) (by omega), insF_gt (by omega), insF_gt (by omega), Nat.add_sub_cancel, s2 i hi] at this
        exact this
    · intro ⟨hs, hb⟩ j hj
      rw [s3 j (by omega)]
      rcases ins_cases hpl hj with w | ⟨i, hi, hc, hf⟩
      · subst w; rw [insF_eq, insF_eq]; exact hb
      · rw [hf S2 set, hf (outB S B b h) b, s2 i hi]
        exact (hrow i hi hb).mpr (hs i hi)
  · rw [s3 j (by omega)]
    rcases ins_cases hpl hj with w | ⟨i, hi, hc, hf⟩
    · subst w; rw [insF_eq]; exact h2
    · rw [hf S2 set, s2 i hi]
      unfold outS
      split
      · rw [tb_xor, h1 i hi, h2]; rfl
      · exact h1 i hi
/-- a set with variables has a head -/
theorem isH_ex (least : Bool) {N : Nat} (hN : N ≤ 40) {x : Int64} (hx : Lo N x) (h0 : x ≠ 0) : ∃ h, h < N ∧ isH least x h := by
  obtain ⟨l, hl, hlow⟩ := low_ex h0
  have hlN : l < N := by
    rcases Nat.lt_or_ge l N with q | q
    · exact q
    · have := hlow.1; rw [hx l q] at this; cases this
  cases least with
  | true => exact ⟨l, hlN, hlow⟩
  | false =>
    -- the greatest: the least of the distance from N
    obtain ⟨d, h1, h2⟩ := pk_least (fun d => d < N ∧ tb x (N - 1 - d) = true) ⟨N - 1 - l, by omega, by rw [show N - 1 - (N - 1 - l) = l by omega]; exact hlow.1⟩
    refine ⟨N - 1 - d, by omega, h1.2, fun j hj => ?_⟩
    rcases Nat.lt_or_ge j N with q | q
    · cases z : tb x j with
      | false => rfl
      | true => exact absurd ⟨by omega, by rw [show N - 1 - (N - 1 - j) = j by omega]; exact z⟩ (h2 (N - 1 - j) (by omega))
    · exact hx j q
theorem LSh.inj' {least : Bool} {N k : Nat} {S : Nat → Int64} {hd : Nat → Nat} (hL : LSh least N k S hd) {i j : Nat} (hi : i < k) (hj : j < k) (h : hd i = hd j) : i = j := by
  rcases Nat.lt_trichotomy i j with q | q | q
  · have := hL.2.1 i j q hj; omega
  · exact q
  · have := hL.2.1 j i q hi; omega
/-- whatever the other variables are, the heads can be chosen -/
theorem LSh_free {least : Bool} {N k : Nat} {S : Nat → Int64} {hd : Nat → Nat} (hN : N ≤ 40) (hL : LSh least N k S hd) (B : Nat → Bool) (f : Nat → Bool) : ∃ a : Nat → Bool, SatL N k S B a ∧ ∀ i, (∀ j, j < k → hd j ≠ i) → a i = f i := by
  refine ⟨fun i => @dite Bool (∃ j, j < k ∧ hd j = i) (Classical.propDecidable _) (fun e => dot N (S (Classical.choose e) ^^^ jshl 1 (nI i)) f ^^ B (Classical.choose e)) (fun _ => f i), ?_, fun i hn => dif_neg (fun ⟨j, h1, h2⟩ => hn j h1 h2)⟩
  intro j hj
  obtain ⟨hdN, hH, hLo⟩ := hL.1 j hj
  have e1 : S j = (S j ^^^ jshl 1 (nI (hd j))) ^^^ jshl 1 (nI (hd j)) := tb_ext (fun i _ => by rw [tb_xor, tb_xor]; cases tb (S j) i <;> cases tb (jshl 1 (nI (hd j))) i <;> rfl)
  rw [e1, dot_xor, dot_bit hdN (by omega)]
  have e3 : ∃ i, i < k ∧ hd i = hd j := ⟨j, hj, rfl⟩
  have e4 : Classical.choose e3 = j := hL.inj' (Classical.choose_spec e3).1 hj (Classical.choose_spec e3).2
  have e5 : ∀ g : Nat → Bool, g = (fun i => @dite Bool (∃ j, j < k ∧ hd j = i) (Classical.propDecidable _) (fun e => dot N (S (Classical.choose e) ^^^ jshl 1 (nI i)) f ^^ B (Classical.choose e)) (fun _ => f i)) → (dot N (S j ^^^ jshl 1 (nI (hd j))) g ^^ g (hd j)) = B j := by
    intro g hg
    have h1 : dot N (S j ^^^ jshl 1 (nI (hd j))) g = dot N (S j ^^^ jshl 1 (nI (hd j))) f := dot_congr (fun i hi e => by
      have hne : i ≠ hd j := fun z => by
        subst z
        rw [tb_xor, hH.bit, tb_bit (by omega)] at e
        simp at e
      rw [tb_xor, tb_bit (by omega), decide_eq_false hne] at e
      simp at e
      rw [hg]
      refine dif_neg (fun ⟨q, q1, q2⟩ => ?_)
      subst q2
      rw [hL.2.2 q j q1 hj (fun z => hne (by rw [z]))] at e
      cases e)
    have h2 : g (hd j) = (dot N (S j ^^^ jshl 1 (nI (hd j))) f ^^ B j) := by
      rw [hg]
      exact (dif_pos e3).trans (by rw [e4])
    rw [h1, h2]
    cases dot N (S j ^^^ jshl 1 (nI (hd j))) f <;> cases B j <;> rfl
  exact e5 _ rfl
section MKR
variable {N : Nat} {F : Nat → Int64} {G : Nat → Int32} {Gb : Nat → Bool} {c : Nat} {tk on : Int64} {least : Bool}
/-- the reference's equations: c of them, sets below N -/
def EQ8 (N c : Nat) (F : Nat → Int64) (G : Nat → Int32) (Gb : Nat → Bool) : Prop := c ≤ 60 ∧ ∀ j, j < c → Lo N (F j) ∧ G j = bI (Gb j)
/-- reducing by the rows that are there -/
theorem mk_red (hN : N ≤ 40) {k : Nat} {S : Nat → Int64} {T : Nat → Int32} {B : Nat → Bool} {hd : Nat → Nat} (hL : LSh least N k S hd) (hT : ∀ i, i < k → T i = bI (B i)) (e : Int32) (imp : Bool) :
    ∀ (q j : Nat) (set : Int64) (b : Bool), j + q = k → Lo N set → (∀ i, i < j → tb set (hd i) = false) →
      ∃ set' b', L_X8_makeRows_62 (nI c) 60 F 60 G 60 60 tk on least e set (bI b) (nI j) (nI k) imp S T = L_X8_makeRows_62 (nI c) 60 F 60 G 60 60 tk on least e set' (bI b') (nI k) (nI k) imp S T ∧ Lo N set' ∧ (∀ i, i < k → tb set' (hd i) = false) ∧ (∀ a, SatL N k S B a → (dot N set' a = b' ↔ dot N set a = b)) ∧ (∀ v, (∀ i, i < k → tb (S i) v = false) → tb set v = false → tb set' v = false) := by
  have hkN := hL.le
  intro q
  induction q with
  | zero =>
    intro j set b hj hlo hr
    have : j = k := by omega
    subst this
    exact ⟨set, b, rfl, hlo, hr, fun _ _ => Iff.rfl, fun _ _ h => h⟩
  | succ q ih =>
    intro j set b hj hlo hr
    have hjk : j < k := by omega
    obtain ⟨hdj, hHj, hLoj⟩ := hL.1 j hjk
    have hstep : L_X8_makeRows_62 (nI c) 60 F 60 G 60 60 tk on least e set (bI b) (nI j) (nI k) imp S T = (if tb set (hd j) then L_X8_makeRows_62 (nI c) 60 F 60 G 60 60 tk on least e (set ^^^ S j) (bI (b ^^ B j)) (nI (j + 1)) (nI k) imp S T else L_X8_makeRows_62 (nI c) 60 F 60 G 60 60 tk on least e set (bI b) (nI (j + 1)) (nI k) imp S T) := by
      rw [E_X8_makeRows_62, cif_neg (fun z => by have := (nI_leI (by omega) (by omega)).mp z; omega), headOf_spec (h := hd j) (by omega) (by omega) hHj, Option.bind_some, nI_1]
      cases z : tb set (hd j) with
      | false => rw [cif_pos ((hi_and (by omega)).mpr z)]; rfl
      | true => rw [cif_neg (fun w => by rw [hi_and (by omega), z] at w; cases w), cif_pos (vp_in_nI (by omega) (by omega)), cif_pos (vp_in_nI (by omega) (by omega)), nI_clamp (by omega), hT j hjk, bI_xor]; rfl
    rw [hstep]
    cases z : tb set (hd j) with
    | false =>
      obtain ⟨set', b', r1, r2, r3, r4, r5⟩ := ih (j + 1) set b (by omega) hlo (fun i hi => by
        by_cases w : i = j
        · rw [w]; exact z
        · exact hr i (by omega))
      exact ⟨set', b', r1, r2, r3, r4, r5⟩
    | true =>
      obtain ⟨set', b', r1, r2, r3, r4, r5⟩ := ih (j + 1) (set ^^^ S j) (b ^^ B j) (by omega) (hlo.xor hLoj) (fun i hi => by
        by_cases w : i = j
        · rw [w, tb_xor, z, hHj.bit]; rfl
        · rw [tb_xor, hr i (by omega), hL.2.2 i j (by omega) hjk w]; rfl)
      refine ⟨set', b', r1, r2, r3, fun a ha => ?_, fun v h1 h2 => r5 v h1 (by rw [tb_xor, h2, h1 j hjk]; rfl)⟩
      rw [r4 a ha, dot_xor, ha j hjk]
      cases dot N set a <;> cases B j <;> cases b <;> simp
/-- an equation without what is taken -/
theorem restrict (hN : N ≤ 40) (hw : WF N tk on) {x : Int64} (hx : Lo N x) {b : Bool} {a : Nat → Bool} (ha : Ext N tk on a) : dot N (x &&& (tk ^^^ (-1))) a = (b ^^ pb (x &&& on)) ↔ dot N x a = b := by
  rw [pb_dot hN hx]
  have e1 : dot N x a = (dot N (x &&& (tk ^^^ (-1))) a ^^ dot N (x &&& tk) a) := by
    rw [← dot_xor]
    refine dot_same (fun i hi => ?_)
    rw [tb_xor, tb_and, tb_and, tb_not _ (by omega)]
    cases tb x i <;> cases tb tk i <;> rfl
  have e2 : dot N (x &&& tk) a = dot N x (tb on) := by
    have : dot N (x &&& tk) a = dot N (x &&& tk) (tb on) := dot_congr (fun i hi e => by
      rw [tb_and, Bool.and_eq_true] at e
      exact ha i hi e.2)
    rw [this]
    -- the ones are taken
    have h2 : dot N x (tb on) = (dot N (x &&& tk) (tb on) ^^ dot N (x &&& (tk ^^^ (-1))) (tb on)) := by
      rw [← dot_xor]
      refine dot_same (fun i hi => ?_)
      rw [tb_xor, tb_and, tb_and, tb_not _ (by omega)]
      cases tb x i <;> cases tb tk i <;> rfl
    rw [h2, dot_none (x := x &&& (tk ^^^ (-1))) (fun i hi e => by
      rw [tb_and, tb_not _ (by omega), Bool.and_eq_true] at e
      refine hw.off ?_
      cases z : tb tk i with
      | false => rfl
      | true => rw [z] at e; cases e.2)]
    simp
  rw [e1, e2]
  cases dot N (x &&& (tk ^^^ (-1))) a <;> cases dot N x (tb on) <;> cases b <;> simp
/-- equation i says more than those before it -/
def indE (N : Nat) (F : Nat → Int64) (Gb : Nat → Bool) (tk on : Int64) (i : Nat) : Prop := ∃ a a', Ext N tk on a ∧ Ext N tk on a' ∧ (∀ j, j < i → dot N (F j) a = Gb j) ∧ (∀ j, j < i → dot N (F j) a' = Gb j) ∧ dot N (F i) a ≠ dot N (F i) a'
noncomputable def nInd (N : Nat) (F : Nat → Int64) (Gb : Nat → Bool) (tk on : Int64) : Nat → Nat
  | 0 => 0
  | i + 1 => nInd N F Gb tk on i + @ite Nat (indE N F Gb tk on i) (Classical.propDecidable _) 1 0
theorem nInd_y {i : Nat} (h : indE N F Gb tk on i) : nInd N F Gb tk on (i + 1) = nInd N F Gb tk on i + 1 := by
  have e : nInd N F Gb tk on (i + 1) = nInd N F Gb tk on i + @ite Nat (indE N F Gb tk on i) (Classical.propDecidable _) 1 0 := rfl
  rw [e, if_pos h]
theorem nInd_n {i : Nat} (h : ¬ indE N F Gb tk on i) : nInd N F Gb tk on (i + 1) = nInd N F Gb tk on i := by
  have e : nInd N F Gb tk on (i + 1) = nInd N F Gb tk on i + @ite Nat (indE N F Gb tk on i) (Classical.propDecidable _) 1 0 := rfl
  rw [e, if_neg h]; rfl
theorem mk_loop (hN : N ≤ 40) (hE : EQ8 N c F G Gb) (hw : WF N tk on) : ∀ (q i k : Nat) (imp : Bool) (S : Nat → Int64) (T : Nat → Int32) (B : Nat → Bool) (hd : Nat → Nat), i + q = c → LSh least N k S hd → (∀ j, j < k → T j = bI (B j)) → (∀ v, v < N → tb tk v = true → ∀ j, j < k → tb (S j) v = false) →
    (∀ a, Ext N tk on a → ((imp = false ∧ SatL N k S B a) ↔ ∀ j, j < i → dot N (F j) a = Gb j)) → (imp = false → k = nInd N F Gb tk on i) →
    ∃ k' imp' S' T' B' hd', L_X8_makeRows_13 (nI c) 60 F 60 G 60 60 tk on least (nI i) (nI k) imp S T = some (if imp' then 0 else nI k', imp', S', T') ∧ LSh least N k' S' hd' ∧ (∀ j, j < k' → T' j = bI (B' j)) ∧ (∀ v, v < N → tb tk v = true → ∀ j, j < k' → tb (S' j) v = false) ∧ (∀ a, Ext N tk on a → ((imp' = false ∧ SatL N k' S' B' a) ↔ ∀ j, j < c → dot N (F j) a = Gb j)) ∧ (imp' = false → k' = nInd N F Gb tk on c) := by
  intro q
  induction q with
  | zero =>
    intro i k imp S T B hd hi hL hT hv hs hk
    have : i = c := by omega
    subst this
    have := hE.1
    refine ⟨k, imp, S, T, B, hd, ?_, hL, hT, hv, hs, hk⟩
    rw [E_X8_makeRows_13, cif_pos ((nI_leI (by omega) (by omega)).mpr (Nat.le_refl _))]
    cases imp with
    | true => rw [cif_pos rfl]; rfl
    | false => rw [cif_neg (by simp)]; rfl
  | succ q ih =>
    intro i k imp S T B hd hi hL hT hv hs hk
    have hc := hE.1
    have hkN := hL.le
    obtain ⟨hFi, hGi⟩ := hE.2 i (by omega)
    obtain ⟨set', b', r1, r2, r3, r4, r5⟩ := mk_red (c := c) (F := F) (G := G) (tk := tk) (on := on) hN hL hT (nI i) imp k 0 (F i &&& (tk ^^^ (-1))) (Gb i ^^ pb (F i &&& on)) (by omega) (hFi.and _) (fun j hj => by omega)
    have hv' : ∀ v, v < N → tb tk v = true → tb set' v = false := fun v hvN ht => r5 v (hv v hvN ht) (by rw [tb_and, tb_not _ (by omega), ht]; simp)
    -- what the reduced equation says
    have hsem : ∀ a, Ext N tk on a → SatL N k S B a → (dot N set' a = b' ↔ dot N (F i) a = Gb i) := fun a ha hl => (r4 a hl).trans (restrict hN hw hFi ha)
    have hpre : L_X8_makeRows_13 (nI c) 60 F 60 G 60 60 tk on least (nI i) (nI k) imp S T = L_X8_makeRows_62 (nI c) 60 F 60 G 60 60 tk on least (nI i) set' (bI b') (nI k) (nI k) imp S T := by
      rw [E_X8_makeRows_13, cif_neg (fun z => by have := (nI_leI (by omega) (by omega)).mp z; omega), cif_pos (vp_in_nI (by omega) (by omega)), cif_pos (vp_in_nI (by omega) (by omega)), cif_pos (vp_in_nI (by omega) (by omega)), nI_clamp (by omega), parity_spec, Option.bind_some, hGi, bI_xor]
      exact r1
    rw [hpre, E_X8_makeRows_62, cif_pos ((nI_leI (by omega) (by omega)).mpr (Nat.le_refl _)), nI_1]
    by_cases h0 : set' = 0
    · rw [cif_pos h0]
      have hd0 : ∀ a, dot N set' a = false := fun a => by rw [h0]; exact dot_zero (fun j _ => tb_0 j)
      have hnew : ∀ imp2, (imp2 = (imp || b')) → ∀ a, Ext N tk on a → ((imp2 = false ∧ SatL N k S B a) ↔ ∀ j, j < i + 1 → dot N (F j) a = Gb j) := by
        intro imp2 h2 a ha
        constructor
        · intro ⟨h3, h4⟩ j hj
          have hb : imp = false ∧ b' = false := by rw [h2] at h3; simpa using h3
          rcases Nat.lt_or_ge j i with w | w
          · exact (hs a ha).mp ⟨hb.1, h4⟩ j w
          · rw [show j = i by omega]
            exact (hsem a ha h4).mp (by rw [hd0 a, hb.2])
        · intro h3
          obtain ⟨h4, h5⟩ := (hs a ha).mpr (fun j hj => h3 j (by omega))
          have := (hsem a ha h5).mpr (h3 i (by omega))
          rw [hd0 a] at this
          exact ⟨by rw [h2, h4, ← this]; rfl, h5⟩
      cases b' with
      | true => rw [cif_pos (by decide)]; exact ih (i + 1) k true S T B hd (by omega) hL hT hv (hnew true (by simp)) (fun z => by cases z)
      | false =>
        rw [cif_neg (by decide)]
        refine ih (i + 1) k imp S T B hd (by omega) hL hT hv (hnew imp (by simp)) (fun z => ?_)
        rw [nInd_n]
        · exact hk z
        · intro ⟨a, a', h1, h2, h3, h4, h5⟩
          refine h5 (((hsem a h1 ((hs a h1).mpr h3).2).mp (hd0 a)).trans ((hsem a' h2 ((hs a' h2).mpr h4).2).mp (hd0 a')).symm)
    · rw [cif_neg h0]
      obtain ⟨h, hh, hH⟩ := isH_ex least hN r2 h0
      obtain ⟨S2, T2, B2, hd2, e2, l2, t2, s2, v2⟩ := putRow_spec (b := b') hN hL hh hH r2 r3 hT
      rw [e2, Option.bind_some]
      refine ih (i + 1) (k + 1) imp S2 T2 B2 hd2 (by omega) l2 t2 (fun v hvN ht => v2 v (hv v hvN ht) (hv' v hvN ht)) (fun a ha => ?_) (fun z => ?_)
      rotate_left
      · obtain ⟨w, hw2, hw3⟩ : ∃ w, w < N ∧ tb set' w = true := ⟨h, hh, hH.bit⟩
        have mkA : ∀ b : Bool, ∃ a, Ext N tk on a ∧ SatL N k S B a ∧ dot N set' a = b := by
          intro b
          obtain ⟨a, a1, a2⟩ := LSh_free hN hL B (fun i => if tb tk i then tb on i else (decide (i = w) && b))
          have hfr : ∀ i, i < N → tb set' i = true → a i = (decide (i = w) && b) := fun i hi e => by
            rw [a2 i (fun j hj q => by rw [← q, r3 j hj] at e; cases e)]
            have : tb tk i = false := by
              cases y : tb tk i with
              | false => rfl
              | true => rw [hv' i hi y] at e; cases e
            simp [this]
          refine ⟨a, fun i hi e => ?_, a1, ?_⟩
          · rw [a2 i (fun j hj q => by
              have := hv i hi e j hj
              rw [← q, (hL.1 j hj).2.1.bit] at this
              cases this)]
            simp [e]
          · rw [dot_one hw2 hw3 (fun i hi hne e => by rw [hfr i hi e, decide_eq_false hne]; rfl), hfr w hw2 hw3]
            simp
        obtain ⟨a, a1, a2, a3⟩ := mkA b'
        obtain ⟨d, d1, d2, d3⟩ := mkA (!b')
        rw [nInd_y, hk z]
        refine ⟨a, d, a1, d1, (hs a a1).mp ⟨z, a2⟩, (hs d d1).mp ⟨z, d2⟩, fun y => ?_⟩
        have y1 := (hsem a a1 a2).mp a3
        have y2 := (hsem d d1 d2).mpr (by rw [← y]; exact y1)
        rw [d3] at y2
        cases b' <;> cases y2
      rw [s2 a]
      constructor
      · intro ⟨h3, h4, h5⟩ j hj
        rcases Nat.lt_or_ge j i with w | w
        · exact (hs a ha).mp ⟨h3, h4⟩ j w
        · rw [show j = i by omega]
          exact (hsem a ha h4).mp h5
      · intro h3
        obtain ⟨h4, h5⟩ := (hs a ha).mpr (fun j hj => h3 j (by omega))
        exact ⟨h4, h5, (hsem a ha h5).mpr (h3 i (by omega))⟩
theorem mk_spec2 (hN : N ≤ 40) (hE : EQ8 N c F G Gb) (hw : WF N tk on) (rc : Int32) (im : Bool) (S0 : Nat → Int64) (T0 : Nat → Int32) : ∃ k imp S T B hd, D_X8_makeRows (nI c) rc im 60 F 60 G 60 S0 60 T0 tk on least = some (if imp then 0 else nI k, imp, S, T) ∧ LSh least N k S hd ∧ (∀ j, j < k → T j = bI (B j)) ∧ (∀ v, v < N → tb tk v = true → ∀ j, j < k → tb (S j) v = false) ∧ (∀ a, Ext N tk on a → ((imp = false ∧ SatL N k S B a) ↔ ∀ j, j < c → dot N (F j) a = Gb j)) ∧ (imp = false → k = nInd N F Gb tk on c) := by
  obtain ⟨k, imp, S, T, B, hd, e, r⟩ := mk_loop (least := least) hN hE hw c 0 0 false S0 T0 (fun _ => false) (fun _ => 0) (by omega) ⟨fun j hj => by omega, fun i j h1 h2 => by omega, fun i j h1 => by omega⟩ (fun j hj => by omega) (fun _ _ _ j hj => by omega) (fun a _ => ⟨fun _ j hj => by omega, fun _ => ⟨rfl, fun j hj => by omega⟩⟩) (fun _ => rfl)
  refine ⟨k, imp, S, T, B, hd, ?_, r⟩
  unfold D_X8_makeRows
  exact e
theorem mk_spec (hN : N ≤ 40) (hE : EQ8 N c F G Gb) (hw : WF N tk on) (rc : Int32) (im : Bool) (S0 : Nat → Int64) (T0 : Nat → Int32) : ∃ k imp S T B hd, D_X8_makeRows (nI c) rc im 60 F 60 G 60 S0 60 T0 tk on least = some (if imp then 0 else nI k, imp, S, T) ∧ LSh least N k S hd ∧ (∀ j, j < k → T j = bI (B j)) ∧ (∀ v, v < N → tb tk v = true → ∀ j, j < k → tb (S j) v = false) ∧ (∀ a, Ext N tk on a → ((imp = false ∧ SatL N k S B a) ↔ ∀ j, j < c → dot N (F j) a = Gb j)) := by
  obtain ⟨k, imp, S, T, B, hd, h1, h2, h3, h4, h5, -⟩ := mk_spec2 (least := least) hN hE hw rc im S0 T0
  exact ⟨k, imp, S, T, B, hd, h1, h2, h3, h4, h5⟩
end MKR
