/-! THE CLASS's TAKING: take, takeFromRows, takeFromClauses, spread -/
def TI (N : Nat) (E : Nat → Int64) (c : Nat) (tk on : Int64) (imp : Bool) (R : Nat → Int64) : Prop :=
  WF N tk on ∧ Shape N R ∧ (∀ v, v < N → tb tk v = true → ∀ j, j < N → tb (R j) v = false) ∧ ∀ a, Ext N tk on a → ((imp = false ∧ SatR N R a) ↔ SatE N E c a)
/-- variable p is a row by itself -/
def uni (N : Nat) (R : Nat → Int64) (p : Nat) : Prop := ∀ i, i < N → tb (R p) i = decide (i = p)
theorem uni.ne {N : Nat} {R : Nat → Int64} {p : Nat} (hp : p < N) (h : uni N R p) : R p ≠ 0 := fun z => by
  have := h p hp
  rw [z, tb_0] at this
  simp at this
theorem uni.eq {N : Nat} (hN : N ≤ 40) {R : Nat → Int64} {p : Nat} (hp : p < N) (h62 : Eq62 N (R p)) (h : uni N R p) : R p = chg p (tb (R p) 62) := tb_ext (fun i hi => by
  rw [chg_tb (by omega)]
  rcases Nat.lt_or_ge i N with q | q
  · rw [h i q, decide_eq_false (show ¬ i = 62 by omega)]; simp
  · by_cases w : i = 62
    · rw [w, decide_eq_false (show ¬ 62 = p by omega)]; simp
    · rw [h62 i q w, decide_eq_false w, decide_eq_false (show ¬ i = p by omega)]; simp)
theorem has_spec {N : Nat} (hN : N ≤ 40) {R : Nat → Int64} {p : Nat} (hp : p < N) (h62 : Eq62 N (R p)) : (uni N R p → D_X5_hasOneValue N R (nI p) = some true) ∧ (¬ uni N R p → D_X5_hasOneValue N R (nI p) = some false) := by
  have key : ((R p &&& (-4611686018427387905)) = jshl 1 (nI p)) ↔ uni N R p := by
    constructor
    · intro h i hi
      have : tb (R p &&& (-4611686018427387905)) i = tb (jshl 1 (nI p)) i := by rw [h]
      rw [tb_and, tb_nR (by omega), tb_bit (by omega), decide_eq_true (show i ≠ 62 by omega)] at this
      simpa using this
    · intro h
      refine tb_ext (fun i hi => ?_)
      rw [tb_and, tb_nR hi, tb_bit (by omega)]
      rcases Nat.lt_or_ge i N with q | q
      · rw [h i q, decide_eq_true (show i ≠ 62 by omega)]; simp
      · by_cases w : i = 62
        · rw [w, decide_eq_false (show ¬ 62 = p by omega)]; simp
        · rw [h62 i q w, decide_eq_false (show ¬ i = p by omega)]; rfl
  unfold D_X5_hasOneValue
  rw [cif_pos (vp_in_nI hp (by omega)), nI_clamp (by omega)]
  exact ⟨fun h => by rw [cif_pos (key.mpr h)], fun h => by rw [cif_neg (fun q => h (key.mp q))]⟩
theorem take_D {tk on : Int64} {N : Nat} {imp imp' : Bool} {R R' : Nat → Int64} {p : Nat} {b : Bool} (h : D_X2_settle (nI N) imp N R (nI p) b = some (imp', R')) : D_X5_take tk on (nI N) imp N R (nI p) b = some (addT tk p, addO on p b, imp', R') := by
  unfold D_X5_take addT addO
  cases b with
  | true => rw [cif_pos rfl, h, if_pos rfl]; rfl
  | false => rw [cif_neg (by simp), h, if_neg (by simp)]; rfl
section TAK
variable {N : Nat} {E : Nat → Int64} {c : Nat} {Y Z : Nat → Int64} {m : Nat} {t0 o0 tk on : Int64} {imp : Bool} {R : Nat → Int64}
theorem take_spec (hN : N ≤ 40) (h : TI N E c tk on imp R) {p : Nat} (hp : p < N) (e : tb tk p = false) (b : Bool) : ∃ imp' R', D_X5_take tk on (nI N) imp N R (nI p) b = some (addT tk p, addO on p b, imp', R') ∧ TI N E c (addT tk p) (addO on p b) imp' R' := by
  obtain ⟨hw, hR, hv, hs⟩ := h
  obtain ⟨imp', R', e1, s1, s2, s3, s4⟩ := settle_spec hN hR imp hp b
  refine ⟨imp', R', take_D e1, hw.add hN hp b, s1, fun v hvN q j hj => ?_, fun a ha => ?_⟩
  · rw [addT_tb (by omega)] at q
    by_cases z : v = p
    · rw [z]; exact s2 j hj
    · rw [decide_eq_false z] at q
      simp at q
      exact s3 v hvN (hv v hvN q) j hj
  · obtain ⟨h1, h2⟩ := (Ext.add hN hp hw e a).mp ha
    rw [s4 a h2]
    exact hs a h1
theorem settle_unit (hN : N ≤ 40) (hR : Shape N R) {p : Nat} (hp : p < N) (hu : uni N R p) : D_X2_settle (nI N) imp N R (nI p) (tb (R p) 62) = some (imp, vp_updL R p 0) := by
  have h0 := hu.ne hp
  have h62 := hR.eq62 hp
  have hx : R p ^^^ chg p (tb (R p) 62) = 0 := by
    have := hu.eq hN hp h62
    refine tb_eq0.mpr (fun i _ => ?_)
    rw [tb_xor, ← this]
    cases tb (R p) i <;> rfl
  have he : D_X2_enter (nI N) imp N (vp_updL R p 0) 0 = some (imp, vp_updL R p 0) := by
    have := ent_none hN (vp_updL R p 0) (x := 0) imp Eq62.zero (fun i _ => tb_0 i)
    rw [tb_0] at this
    rw [this]
    simp
  unfold D_X2_settle
  rw [cif_neg (nI_pos (by omega)), cif_pos ((nI_ltI (by omega) (by omega)).mpr hp)]
  cases q : tb (R p) 62 with
  | true =>
    rw [q] at hx
    rw [cif_pos rfl, cif_pos (vp_in_nI hp (by omega)), nI_clamp (by omega), cif_neg h0, cif_pos (vp_in_nI hp (by omega))]
    show Option.bind (D_X2_enter (nI N) imp N (vp_updL R p 0) (R p ^^^ chg p true)) _ = _
    rw [hx, he]; rfl
  | false =>
    rw [q] at hx
    rw [cif_neg (by simp), cif_pos (vp_in_nI hp (by omega)), nI_clamp (by omega), cif_neg h0, cif_pos (vp_in_nI hp (by omega))]
    show Option.bind (D_X2_enter (nI N) imp N (vp_updL R p 0) (R p ^^^ chg p false)) _ = _
    rw [hx, he]; rfl
theorem TI.open_of_uni (h : TI N E c tk on imp R) {p : Nat} (hp : p < N) (hu : uni N R p) : tb tk p = false := by
  cases z : tb tk p with
  | false => rfl
  | true =>
    have := h.2.2.1 p hp z p hp
    rw [hu p hp] at this
    simp at this
theorem TI.forced (hN : N ≤ 40) (h : TI N E c tk on imp R) {p : Nat} (hp : p < N) (hu : uni N R p) : ∀ a, Ext N tk on a → SatE N E c a → a p = tb (R p) 62 := fun a ha hs =>
  shape_unit (by omega) hp hu ((h.2.2.2 a ha).mpr hs).2
theorem tfr_loop (hN : N ≤ 40) : ∀ (k i : Nat) (tk on : Int64) (R : Nat → Int64), i + k = N → TI N E c tk on imp R → Under N E c Y Z m t0 o0 tk on → (∀ p, p < i → ¬ uni N R p) →
    ∃ tk' on' R', L_X5_takeFromRows_2 (nI N) (nI N) N (nI i) tk on imp R = some (tk', on', imp, R') ∧ TI N E c tk' on' imp R' ∧ Under N E c Y Z m t0 o0 tk' on' ∧ Sub N tk on tk' on' ∧ ∀ p, p < N → ¬ uni N R' p := by
  intro k
  induction k with
  | zero =>
    intro i tk on R hi ht hU hu
    refine ⟨tk, on, R, ?_, ht, hU, Sub.rf, fun p hp => hu p (by omega)⟩
    rw [E_X5_takeFromRows_2, cif_pos ((nI_leI (by omega) (by omega)).mpr (by omega))]
  | succ k ih =>
    intro i tk on R hi ht hU hu
    have hiN : i < N := by omega
    have h62 := ht.2.1.eq62 hiN
    rw [E_X5_takeFromRows_2, cif_neg (fun q => by have := (nI_leI (by omega) (by omega)).mp q; omega), nI_1]
    by_cases q : uni N R i
    · have hop := ht.open_of_uni hiN q
      have hset := settle_unit (imp := imp) hN ht.2.1 hiN q
      obtain ⟨imp2, R2, e2, t2⟩ := take_spec hN ht hiN hop (tb (R i) 62)
      have e3 := take_D (tk := tk) (on := on) hset
      have e4 := Option.some.inj (e2.symm.trans e3)
      have e5 : imp2 = imp := congrArg (fun z => z.2.2.1) e4
      have e6 : R2 = vp_updL R i 0 := congrArg (fun z => z.2.2.2) e4
      subst e5; subst e6
      have hU2 := hU.forced hN ht.1 hiN hop (ht.forced hN hiN q)
      obtain ⟨tk', on', R', r1, r2, r3, r4, r5⟩ := ih (i + 1) _ _ _ (by omega) t2 hU2 (fun p hp => by
        by_cases w : p = i
        · intro z
          have := z i hiN
          rw [w, pk_uLs, tb_0] at this
          simp at this
        · intro z
          refine hu p (by omega) (fun j hj => ?_)
          have := z j hj
          rw [pk_uLn w] at this
          exact this)
      refine ⟨tk', on', R', ?_, r2, r3, (Sub.add hN ht.1 hiN hop _).tr r4, r5⟩
      rw [(has_spec hN hiN h62).1 q, Option.bind_some, cif_pos rfl, cif_pos (vp_in_nI hiN (by omega)), nI_clamp (by omega)]
      have hbit : R i = jshl 1 (nI i) ↔ tb (R i) 62 = false := by
        have e := q.eq hN hiN h62
        constructor
        · intro z
          rw [z, tb_bit (by omega), decide_eq_false (show ¬ 62 = i by omega)]
        · intro z
          rw [e, z]
          refine tb_ext (fun j _ => ?_)
          rw [chg_tb (by omega), tb_bit (by omega)]
          simp
      cases z : tb (R i) 62 with
      | false =>
        rw [z] at e3 r1
        rw [cif_pos (hbit.mpr z), e3]
        exact r1
      | true =>
        rw [z] at e3 r1
        rw [cif_neg (fun w => by rw [hbit.mp w] at z; cases z), e3]
        exact r1
    · rw [(has_spec hN hiN h62).2 q, Option.bind_some, cif_neg (by simp)]
      exact ih (i + 1) tk on R (by omega) ht hU (fun p hp => by
        by_cases w : p = i
        · rw [w]; exact q
        · exact hu p (by omega))
theorem tb_pred {x : Int64} {h : Nat} (hx : isLow x h) {i : Nat} (hi : i < 64) : tb (x - 1) i = if i < h then true else if i = h then false else tb x i := by
  obtain ⟨q, hq⟩ := hx.split
  have hlt := hx.lt
  have hb := x.toBitVec.isLt
  have hpos : 0 < 2 ^ h := Nat.pow_pos (by decide)
  have hn : (x - 1).toBitVec.toNat = 2 ^ (h + 1) * q + (2 ^ h - 1) := by
    rw [Int64.toBitVec_sub, BitVec.toNat_sub]
    show (2 ^ 64 - (1 : Int64).toBitVec.toNat + x.toBitVec.toNat) % 2 ^ 64 = _
    rw [show (1 : Int64).toBitVec.toNat = 1 from rfl, show 2 ^ 64 - 1 + x.toBitVec.toNat = (x.toBitVec.toNat - 1) + 2 ^ 64 by omega, Nat.add_mod_right, Nat.mod_eq_of_lt (by omega), hq]
    omega
  have hsm : 2 ^ h - 1 < 2 ^ (h + 1) := by rw [Nat.pow_succ]; omega
  have e1 : tb (x - 1) i = (2 ^ (h + 1) * q + (2 ^ h - 1)).testBit i := by unfold tb; rw [← BitVec.testBit_toNat, hn]
  have e2 : tb x i = (2 ^ (h + 1) * q + 2 ^ h).testBit i := by unfold tb; rw [← BitVec.testBit_toNat, hq]
  rw [e1, Nat.testBit_two_pow_mul_add _ hsm]
  rcases Nat.lt_trichotomy i h with w | w | w
  · rw [if_pos (by omega), if_pos w, Nat.testBit_two_pow_sub_one, decide_eq_true w]
  · rw [if_pos (by omega), if_neg (by omega), if_pos w, Nat.testBit_two_pow_sub_one, decide_eq_false (by omega)]
  · rw [if_neg (by omega), if_neg (by omega), if_neg (by omega), e2, Nat.testBit_two_pow_mul_add _ (by rw [Nat.pow_succ]; omega), if_neg (by omega)]
/-- a set of just one variable -/
theorem one_bit {x : Int64} {h : Nat} (hx : isLow x h) : (x &&& (x - 1)) = 0 ↔ ∀ i, tb x i = true → i = h := by
  rw [tb_eq0]
  constructor
  · intro hz i hi
    have h64 : i < 64 := by
      rcases Nat.lt_or_ge i 64 with q | q
      · exact q
      · rw [tb_big q] at hi; cases hi
    have := hz i h64
    rw [tb_and, tb_pred hx h64, hi] at this
    rcases Nat.lt_trichotomy i h with w | w | w
    · rw [hx.2 i w] at hi; cases hi
    · exact w
    · rw [if_neg (by omega), if_neg (by omega)] at this; simp at this
  · intro hz i hi
    rw [tb_and, tb_pred hx hi]
    cases z : tb x i with
    | false => rfl
    | true => rw [hz i z, if_neg (by omega), if_pos rfl]; rfl
end TAK
