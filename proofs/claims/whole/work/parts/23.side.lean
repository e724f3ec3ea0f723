/-! CLASS AND REFERENCE SIDE BY SIDE: what they hold; what follows -/
def Rel (N c m : Nat) (E Y Z F : Nat → Int64) (G : Nat → Int32) (Gb : Nat → Bool) (Y8 Z8 : Nat → Int64) : Prop :=
  (1 ≤ N ∧ N ≤ 40) ∧ (c ≤ 60 ∧ m ≤ 60) ∧ (∀ j, j < c → E j = E8 F Gb j) ∧ EQ8 N c F G Gb ∧ (∀ k, k < m → Y k = Y8 k ∧ Z k = Z8 k) ∧ CL N Y8 Z8 m
section CG
variable {N c m : Nat} {E E' Y Z Y' Z' : Nat → Int64} {t0 o0 tk on : Int64}
theorem SatE_cg (h : ∀ j, j < c → E j = E' j) (a : Nat → Bool) : SatE N E c a ↔ SatE N E' c a :=
  ⟨fun q j hj => by rw [← h j hj]; exact q j hj, fun q j hj => by rw [h j hj]; exact q j hj⟩
theorem Good_cg (hE : ∀ j, j < c → E j = E' j) (hY : ∀ k, k < m → Y k = Y' k ∧ Z k = Z' k) (h : Good N E c Y Z m tk on) : Good N E' c Y' Z' m tk on := by
  obtain ⟨⟨a, h1, h2⟩, h3, h4⟩ := h
  refine ⟨⟨a, h1, (SatE_cg hE a).mp h2⟩, fun k hk => ?_, fun v hv e b q => h4 v hv e b (fun a ha hs => q a ha ((SatE_cg hE a).mp hs))⟩
  have := h3 k hk
  unfold cSat cOpen at this ⊢
  rw [(hY k hk).1, (hY k hk).2] at this
  exact this
theorem ResS_cg (hE : ∀ j, j < c → E j = E' j) (hY : ∀ k, k < m → Y k = Y' k ∧ Z k = Z' k) (h : ResS N E c Y Z m t0 o0 tk on) : ResS N E' c Y' Z' m t0 o0 tk on :=
  ⟨h.1, h.2.1, Good_cg hE hY h.2.2.1, fun t o hw hs hg => h.2.2.2 t o hw hs (Good_cg (fun j hj => (hE j hj).symm) (fun k hk => ⟨(hY k hk).1.symm, (hY k hk).2.symm⟩) hg)⟩
theorem ResN_cg (hE : ∀ j, j < c → E j = E' j) (hY : ∀ k, k < m → Y k = Y' k ∧ Z k = Z' k) (h : ResN N E c Y Z m t0 o0) : ResN N E' c Y' Z' m t0 o0 :=
  fun t o hw hs hg => h t o hw hs (Good_cg (fun j hj => (hE j hj).symm) (fun k hk => ⟨(hY k hk).1.symm, (hY k hk).2.symm⟩) hg)
end CG
section SIDE
variable {N c m : Nat} {E Y Z F : Nat → Int64} {G : Nat → Int32} {Gb : Nat → Bool} {Y8 Z8 : Nat → Int64} {tk on : Int64} {imp : Bool} {R : Nat → Int64}
theorem Rel.n1 (h : Rel N c m E Y Z F G Gb Y8 Z8) : 1 ≤ N := h.1.1
theorem Rel.hN (h : Rel N c m E Y Z F G Gb Y8 Z8) : N ≤ 40 := h.1.2
theorem Rel.hc (h : Rel N c m E Y Z F G Gb Y8 Z8) : c ≤ 60 := h.2.1.1
theorem Rel.hm (h : Rel N c m E Y Z F G Gb Y8 Z8) : m ≤ 60 := h.2.1.2
theorem Rel.hE (h : Rel N c m E Y Z F G Gb Y8 Z8) : ∀ j, j < c → E j = E8 F Gb j := h.2.2.1
theorem Rel.h8 (h : Rel N c m E Y Z F G Gb Y8 Z8) : EQ8 N c F G Gb := h.2.2.2.1
theorem Rel.hY (h : Rel N c m E Y Z F G Gb Y8 Z8) : ∀ k, k < m → Y k = Y8 k ∧ Z k = Z8 k := h.2.2.2.2.1
theorem Rel.hC8 (h : Rel N c m E Y Z F G Gb Y8 Z8) : CL N Y8 Z8 m := h.2.2.2.2.2
theorem Rel.hC (h : Rel N c m E Y Z F G Gb Y8 Z8) : CL N Y Z m := fun k hk => by
  rw [(h.hY k hk).1, (h.hY k hk).2]; exact h.hC8 k hk
theorem Rel.e62 (h : Rel N c m E Y Z F G Gb Y8 Z8) : ∀ j, j < c → Eq62 N (E j) := fun j hj => by
  rw [h.hE j hj]; exact comb_eq62 (h.h8.2 j hj).1 _
theorem spread_eq (hr : Rel N c m E Y Z F G Gb Y8 Z8) (ht : TI N E c tk on imp R) (rc : Int32) (im : Bool) (S : Nat → Int64) (T : Nat → Int32) :
    ∃ q r, D_X5_spread (nI N) tk on (nI N) imp N R (nI m) 60 Y 60 Z = some q ∧ D_X8_allFollows (nI c) (nI m) rc im tk on 60 F 60 G 60 Y8 60 Z8 60 S 60 T = some r ∧ r.1 = q.1 ∧
      (q.1 = true → r.2.2.2.1 = q.2.1 ∧ r.2.2.2.2.1 = q.2.2.1 ∧ q.2.2.2.1 = false ∧ TI N E c q.2.1 q.2.2.1 false q.2.2.2.2 ∧ Sub N tk on q.2.1 q.2.2.1) := by
  obtain ⟨q, e1, h1, h2⟩ := spread_spec hr.hN hr.hm hr.hC ht
  obtain ⟨r, e2, h3, h4⟩ := af_spec hr.hN hr.hm hr.hC8 hr.h8 ht.1 rc im S T
  have key : r.1 = q.1 ∧ (q.1 = true → r.2.2.2.1 = q.2.1 ∧ r.2.2.2.2.1 = q.2.2.1 ∧ q.2.2.2.1 = false ∧ TI N E c q.2.1 q.2.2.1 false q.2.2.2.2 ∧ Sub N tk on q.2.1 q.2.2.1) := by
    cases e : q.1 with
    | true =>
      obtain ⟨a1, a2, a3⟩ := h1 e
      have a3' := ResS_cg hr.hE hr.hY a3
      cases e' : r.1 with
      | true =>
        obtain ⟨u1, u2⟩ := (h3 e').uniq a3'
        exact ⟨rfl, fun _ => ⟨u1, u2, a1, a2, a3.2.1⟩⟩
      | false => exact (a3'.not (h4 e')).elim
    | false =>
      have a3' := ResN_cg hr.hE hr.hY (h2 e)
      cases e' : r.1 with
      | true => exact ((h3 e').not a3').elim
      | false => exact ⟨rfl, fun h => by cases h⟩
  exact ⟨q, r, e1, e2, key.1, key.2⟩
def Fresh (N : Nat) (E : Nat → Int64) (c : Nat) (fr imp : Bool) (R : Nat → Int64) : Prop := fr = true → Says N E c imp R
theorem fresh_spec (hr : Rel N c m E Y Z F G Gb Y8 Z8) {fr : Bool} (hf : Fresh N E c fr imp R) : ∃ imp' R', D_X7_freshenRows fr (nI c) 60 E (nI N) imp N R = some (true, imp', R') ∧ Says N E c imp' R' := by
  unfold D_X7_freshenRows
  cases fr with
  | true => exact ⟨imp, R, by rw [cif_pos rfl], hf rfl⟩
  | false =>
    obtain ⟨imp', R', e, h⟩ := build_spec hr.hN hr.hc hr.e62 imp R
    exact ⟨imp', R', by rw [cif_neg (by simp), e]; rfl, h⟩
theorem nI_mul (a b : Nat) : nI a * nI b = nI (a * b) := (Int32.ofNat_mul a b).symm
theorem jmin_self (x : Int32) : jmin x x = x := by unfold jmin; split <;> rfl
theorem Shape.cg {R R' : Nat → Int64} (h : ∀ j, j < N → R' j = R j) (hs : Shape N R) : Shape N R' := fun j hj h0 => by
  rw [h j hj] at h0 ⊢
  obtain ⟨a, b, d⟩ := hs j hj h0
  exact ⟨a, b, fun k hk hne k0 => d k hk hne (by rw [h k hk] at k0; exact k0)⟩
theorem SatR.cg {R R' : Nat → Int64} (h : ∀ j, j < N → R' j = R j) (a : Nat → Bool) : SatR N R' a ↔ SatR N R a :=
  ⟨fun q j hj => by rw [← h j hj]; exact q j hj, fun q j hj => by rw [h j hj]; exact q j hj⟩
theorem TI.cg {R R' : Nat → Int64} (h : ∀ j, j < N → R' j = R j) (ht : TI N E c tk on imp R) : TI N E c tk on imp R' :=
  ⟨ht.1, ht.2.1.cg h, fun v hv e j hj => by rw [h j hj]; exact ht.2.2.1 v hv e j hj, fun a ha => by rw [SatR.cg h a]; exact ht.2.2.2 a ha⟩
theorem Says.TI0 (h : Says N E c imp R) : TI N E c 0 0 imp R :=
  ⟨⟨Lo.zero, fun i e => by rw [tb_0] at e; cases e⟩, h.1, (fun v _ e => by rw [tb_0] at e; cases e), fun a _ => h.2 a⟩
theorem cpy0 (hN : N ≤ 40) (R R0 : Nat → Int64) : ∀ j, j < N → va_cpy R R0 (0 : Int32).toNatClampNeg (0 : Int32).toNatClampNeg (nI N).toNatClampNeg j = R j := fun j hj => by
  rw [nI_clamp (by omega), show (0 : Int32).toNatClampNeg = 0 from rfl, pk_cpy_in (Nat.zero_le j) (by omega)]
  congr 1; omega
theorem begin_spec (hN : N ≤ 40) (h : Says N E c imp R) (tt to : Int64) (ti : Bool) (tR : Nat → Int64) : ∃ R', D_X5_begin tt to (nI N) ti N tR (nI N) imp N R = some (0, 0, imp, R') ∧ TI N E c 0 0 imp R' := by
  refine ⟨va_cpy R tR (0 : Int32).toNatClampNeg (0 : Int32).toNatClampNeg (nI N).toNatClampNeg, ?_, h.TI0.cg (cpy0 hN R tR)⟩
  unfold D_X5_begin D_X2_copyFrom
  rw [jmin_self, cif_pos]
  · rfl
  · rw [nI_clamp (by omega)]
    refine ⟨by decide, by decide, nI_pos (by omega), ?_, ?_⟩ <;> show 0 + N ≤ N <;> omega
/-- takeAll: the bits below i of yes and no are taken -/
theorem ta_loop (hN : N ≤ 40) {x y : Int64} (hx : Lo N x) (hy : Lo N y) (hxy : ∀ i, tb x i = true → tb y i = false) : ∀ (k i : Nat) (tk on : Int64) (imp : Bool) (R : Nat → Int64), i + k = N → TI N E c tk on imp R → (∀ j, tb tk j = (decide (j < i) && (tb x j || tb y j))) → (∀ j, tb on j = (decide (j < i) && tb x j)) →
    ∃ imp' R', L_X5_takeAll_3 (nI N) (nI N) N x y (nI i) tk on imp R = some (x ||| y, x, imp', R') ∧ TI N E c (x ||| y) x imp' R' := by
  intro k
  induction k with
  | zero =>
    intro i tk on imp R hi ht h1 h2
    have e1 : tk = x ||| y := tb_ext (fun j _ => by
      rw [h1, tb_or]
      rcases Nat.lt_or_ge j i with q | q
      · rw [decide_eq_true q]; rfl
      · rw [hx j (by omega), hy j (by omega)]; simp)
    have e2 : on = x := tb_ext (fun j _ => by
      rw [h2]
      rcases Nat.lt_or_ge j i with q | q
      · rw [decide_eq_true q]; rfl
      · rw [hx j (by omega)]; simp)
    subst e1; subst e2
    refine ⟨imp, R, ?_, ht⟩
    rw [E_X5_takeAll_3, cif_pos ((nI_leI (by omega) (by omega)).mpr (by omega))]
  | succ k ih =>
    intro i tk on imp R hi ht h1 h2
    have hiN : i < N := by omega
    have hop : tb tk i = false := by rw [h1, decide_eq_false (Nat.lt_irrefl i)]; rfl
    rw [E_X5_takeAll_3, cif_neg (fun q => by have := (nI_leI (by omega) (by omega)).mp q; omega), nI_1]
    have same : ∀ j, j ≠ i → decide (j < i + 1) = decide (j < i) := fun j hj => by
      by_cases q : j < i
      · rw [decide_eq_true q, decide_eq_true (by omega)]
      · rw [decide_eq_false q, decide_eq_false (by omega)]
    cases e : tb (x ||| y) i with
    | false =>
      rw [cif_pos ((ju_bit (by omega)).mpr e)]
      rw [tb_or] at e
      refine ih (i + 1) tk on imp R (by omega) ht (fun j => ?_) (fun j => ?_)
      · by_cases q : j = i
        · subst q; rw [hop, e]; simp
        · rw [h1, same j q]
      · by_cases q : j = i
        · subst q
          have : tb x j = false := by cases z : tb x j with | false => rfl | true => rw [z] at e; cases e
          rw [h2, this]; simp
        · rw [h2, same j q]
    | true =>
      rw [cif_neg (fun z => by rw [ju_bit (by omega), e] at z; cases z)]
      rw [tb_or] at e
      have go : ∀ b, tb x i = b → ∃ imp' R', Option.bind (D_X5_take tk on (nI N) imp N R (nI i) b) (fun u => L_X5_takeAll_3 (nI N) (nI N) N x y (nI (i + 1)) u.1 u.2.1 u.2.2.1 u.2.2.2) = some (x ||| y, x, imp', R') ∧ TI N E c (x ||| y) x imp' R' := by
        intro b hb
        obtain ⟨i1, R1, e1, t1⟩ := take_spec hN ht hiN hop b
        rw [e1, Option.bind_some]
        refine ih (i + 1) _ _ i1 R1 (by omega) t1 (fun j => ?_) (fun j => ?_)
        · rw [addT_tb (by omega)]
          by_cases q : j = i
          · subst q; rw [e, decide_eq_true rfl, decide_eq_true (Nat.lt_succ_self j)]; simp
          · rw [h1, same j q, decide_eq_false q]; simp
        · rw [addO_tb (by omega)]
          by_cases q : j = i
          · subst q
            have : tb on j = false := by rw [h2, decide_eq_false (Nat.lt_irrefl j)]; rfl
            rw [this, hb, decide_eq_true (Nat.lt_succ_self j)]; simp
          · rw [h2, same j q, decide_eq_false q]; simp
      cases z : tb x i with
      | false =>
        rw [cif_pos ((ju_bit (by omega)).mpr z)]
        exact go false z
      | true =>
        rw [cif_neg (fun w => by rw [ju_bit (by omega), z] at w; cases w)]
        exact go true z
theorem takeAll_spec (hN : N ≤ 40) {x y : Int64} (hx : Lo N x) (hy : Lo N y) (hxy : ∀ i, tb x i = true → tb y i = false) (ht : TI N E c 0 0 imp R) : ∃ imp' R', D_X5_takeAll (nI N) 0 0 (nI N) imp N R x y = some (x ||| y, x, imp', R') ∧ TI N E c (x ||| y) x imp' R' := by
  obtain ⟨imp', R', e, h⟩ := ta_loop hN hx hy hxy N 0 0 0 imp R (by omega) ht (fun j => by rw [tb_0]; simp) (fun j => by rw [tb_0]; simp)
  exact ⟨imp', R', by unfold D_X5_takeAll; exact e, h⟩
theorem orLo {N : Nat} {x y : Int64} : Lo N (x ||| y) ↔ Lo N x ∧ Lo N y := by
  constructor
  · intro h
    refine ⟨fun i hi => ?_, fun i hi => ?_⟩ <;> have := h i hi <;> rw [tb_or] at this
    · cases z : tb x i with | false => rfl | true => rw [z] at this; cases this
    · cases z : tb y i with | false => rfl | true => rw [z] at this; simp at this
  · intro ⟨h1, h2⟩; exact h1.or h2
/-- the class's mask of variables -/
def vars (N : Nat) : Int64 := jshl 1 (nI N) - 1
theorem two_yes {x y : Int64} (hN : N ≤ 40) (hx : Lo N x) (hy : Lo N y) (h : (x &&& y) = 0) : D_X7_areTwoSets (vars N) x y = some true := by
  unfold D_X7_areTwoSets D_X7_areVariables vars
  rw [cif_pos ((isVars hN _).mpr (hx.or hy)), Option.bind_some, cif_pos rfl, cif_pos h]
theorem two_no {x y : Int64} (hN : N ≤ 40) (h : ¬ (Lo N x ∧ Lo N y ∧ (x &&& y) = 0)) : D_X7_areTwoSets (vars N) x y = some false := by
  unfold D_X7_areTwoSets D_X7_areVariables vars
  by_cases q : Lo N (x ||| y)
  · rw [cif_pos ((isVars hN _).mpr q), Option.bind_some, cif_pos rfl, cif_neg (fun z => h ⟨(orLo.mp q).1, (orLo.mp q).2, z⟩)]
  · rw [cif_neg (fun z => q ((isVars hN _).mp z)), Option.bind_some, cif_neg (by simp)]
theorem there_yes {x : Int64} (hN : N ≤ 40) (h : Lo N x) : D_X8_areThere (nI N) x = some true := by
  unfold D_X8_areThere; rw [cif_pos ((isVars8 hN x).mpr h)]
theorem there_no {x : Int64} (hN : N ≤ 40) (h : ¬ Lo N x) : D_X8_areThere (nI N) x = some false := by
  unfold D_X8_areThere; rw [cif_neg (fun z => h ((isVars8 hN x).mp z))]
theorem may_tt (t : Int32) : D_X8_may t true true = some (true, 0) := by unfold D_X8_may; rw [cif_pos rfl, cif_pos rfl]
theorem may_f (t : Int32) (b : Bool) : D_X8_may t false b = some (false, 1) := by unfold D_X8_may; rw [cif_neg (by simp)]
theorem may_tf (t : Int32) : D_X8_may t true false = some (false, 2) := by unfold D_X8_may; rw [cif_pos rfl, cif_neg (by simp)]
theorem follow_eq (hr : Rel N c m E Y Z F G Gb Y8 Z8) {fr : Bool} (hf : Fresh N E c fr imp R) (tt to : Int64) (ti : Bool) (tR : Nat → Int64) (th rc : Int32) (im : Bool) (rt ro : Int64) (S : Nat → Int64) (T : Nat → Int32) (x y : Int64) (b : Bool) :
    ∃ r s, D_X7_follow (vars N) fr (nI c) (nI m) 60 E 60 Y 60 Z (nI N) imp N R (nI N) tt to (nI N) ti N tR x y b = some r ∧
      D_X8_follow th (nI N) (nI c) (nI m) rc im rt ro 60 F 60 G 60 Y8 60 Z8 60 S 60 T x y b = some s ∧ Fresh N E c r.2.1 r.2.2.1 r.2.2.2.1 ∧ ((r.1 = .inr 0 ∧ s.2.1 = 1) ∨ (r.1 = .inl s.1 ∧ s.2.1 = 0)) := by
  have hN := hr.hN
  by_cases h : Lo N x ∧ Lo N y ∧ (x &&& y) = 0
  · obtain ⟨hx, hy, hxy⟩ := h
    obtain ⟨i1, R1, e1, h1⟩ := fresh_spec hr hf
    obtain ⟨R2, e2, h2⟩ := begin_spec hN h1 tt to ti tR
    obtain ⟨i3, R3, e3, h3⟩ := takeAll_spec hN hx hy (and_zero.mp hxy) h2
    obtain ⟨q, r, e4, e5, k1, k2⟩ := spread_eq hr h3 rc im S T
    have fr' : Fresh N E c true i1 R1 := fun _ => h1
    unfold D_X7_follow D_X8_follow
    rw [two_yes hN hx hy hxy, Option.bind_some, cif_pos rfl, e1, Option.bind_some]
    simp only [e2, e3, e4, e5, Option.bind_some, there_yes hN hx, there_yes hN hy, cif_pos hxy, may_tt, cif_pos]
    cases e : q.1 with
    | true =>
      obtain ⟨a1, a2, -⟩ := k2 e
      rw [e] at k1
      rw [k1, a1, a2]
      cases b with
      | true => exact ⟨_, _, by rw [cif_pos rfl, cif_pos rfl], by rw [cif_pos rfl, cif_pos rfl], fr', Or.inr ⟨rfl, rfl⟩⟩
      | false => exact ⟨_, _, by rw [cif_pos rfl, cif_neg (by simp)], by rw [cif_pos rfl, cif_neg (by simp)], fr', Or.inr ⟨rfl, rfl⟩⟩
    | false =>
      rw [e] at k1
      rw [k1]
      exact ⟨_, _, by rw [cif_neg (by simp)], by rw [cif_neg (by simp)], fr', Or.inr ⟨rfl, rfl⟩⟩
  · unfold D_X7_follow D_X8_follow
    rw [two_no hN h, Option.bind_some, cif_neg (by simp)]
    by_cases hx : Lo N x
    · by_cases hy : Lo N y
      · have hz : ¬ (x &&& y) = 0 := fun z => h ⟨hx, hy, z⟩
        simp only [there_yes hN hx, there_yes hN hy, Option.bind_some, cif_pos, cif_neg hz, may_f]
        exact ⟨_, _, rfl, by rw [cif_neg (by simp)], hf, Or.inl ⟨rfl, rfl⟩⟩
      · simp only [there_yes hN hx, there_no hN hy, Option.bind_some, cif_pos, may_f]
        exact ⟨_, _, rfl, by rw [cif_neg (by simp), cif_neg (by simp)], hf, Or.inl ⟨rfl, rfl⟩⟩
    · simp only [there_no hN hx, Option.bind_some, may_f]
      exact ⟨_, _, rfl, by rw [cif_neg (by simp), cif_neg (by simp)], hf, Or.inl ⟨rfl, rfl⟩⟩
end SIDE
