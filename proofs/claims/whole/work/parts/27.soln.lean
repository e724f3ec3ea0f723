/-! SOLUTION k -/
theorem nI_sub {a b : Nat} (h : b ≤ a) : nI a - nI b = nI (a - b) := by
  have e : nI a = nI (a - b) + nI b := by rw [nI_add]; congr 1; omega
  rw [e, Int32.add_sub_cancel]
section SLN
variable {N c m : Nat} {E Y Z F : Nat → Int64} {G : Nat → Int32} {Gb : Nat → Bool} {Y8 Z8 : Nat → Int64} {tk on : Int64} {imp : Bool} {R : Nat → Int64}
theorem TI.some (hN : N ≤ 40) (h : TI N E c tk on false R) : ∃ a, Ext N tk on a ∧ SatE N E c a := by
  obtain ⟨a, ha, -⟩ := shape_free (by omega) h.2.1 (fun _ => false)
  obtain ⟨h1, h2⟩ := h.bend ha
  exact ⟨_, h2, (h.2.2.2 _ h2).mp ⟨rfl, h1⟩⟩
theorem TI.both (hN : N ≤ 40) (h : TI N E c tk on false R) {v : Nat} (hv : v < N) (hop : tb tk v = false) (hu : ¬ uni N R v) (b : Bool) : ∃ a, Ext N tk on a ∧ SatE N E c a ∧ a v = b := by
  obtain ⟨a, ha, hb⟩ := shape_both (by omega) h.2.1 hv hu b
  obtain ⟨h1, h2⟩ := h.bend ha
  refine ⟨_, h2, (h.2.2.2 _ h2).mp ⟨rfl, h1⟩, ?_⟩
  simp [hop, hb]
/-- a head by the highest: the variables before it say what it is -/
theorem high_val (hN : N ≤ 40) {k : Nat} {S : Nat → Int64} {B : Nat → Bool} {hd : Nat → Nat} (hL : LSh false N k S hd) {r : Nat} (hrk : r < k) (hw : WF N tk on) (ht : ∀ i, tb tk i = decide (i < hd r)) {a : Nat → Bool} (ha : Ext N tk on a) (hs : SatL N k S B a) : a (hd r) = (B r ^^ pb (S r &&& on)) := by
  obtain ⟨h1, h2, h3⟩ := hL.1 r hrk
  have h2 : isHigh (S r) (hd r) := h2
  have e1 : S r = (S r ^^^ jshl 1 (nI (hd r))) ^^^ jshl 1 (nI (hd r)) := tb_ext (fun i _ => by rw [tb_xor, tb_xor]; cases tb (S r) i <;> cases tb (jshl 1 (nI (hd r))) i <;> rfl)
  have hon : tb on (hd r) = false := hw.off (by rw [ht, decide_eq_false (Nat.lt_irrefl _)])
  have e2 : dot N (S r ^^^ jshl 1 (nI (hd r))) a = dot N (S r ^^^ jshl 1 (nI (hd r))) (tb on) := dot_congr (fun i hi e => by
    have hne : i ≠ hd r := fun z => by
      subst z
      rw [tb_xor, h2.1, tb_bit (by omega)] at e
      simp at e
    rw [tb_xor, tb_bit (by omega), decide_eq_false hne] at e
    simp at e
    have hlt : i < hd r := by
      rcases Nat.lt_trichotomy i (hd r) with q | q | q
      · exact q
      · exact absurd q hne
      · rw [h2.2 i q] at e; cases e
    exact ha i hi (by rw [ht, decide_eq_true hlt]))
  have e3 := hs r hrk
  rw [e1, dot_xor, dot_bit h1 (by omega), e2] at e3
  rw [pb_dot hN h3]
  have e4 : dot N (S r) (tb on) = dot N (S r ^^^ jshl 1 (nI (hd r))) (tb on) := by
    have : dot N (S r) (tb on) = dot N ((S r ^^^ jshl 1 (nI (hd r))) ^^^ jshl 1 (nI (hd r))) (tb on) := by rw [← e1]
    rw [this, dot_xor, dot_bit h1 (by omega), hon]; simp
  rw [e4]
  revert e3
  cases dot N (S r ^^^ jshl 1 (nI (hd r))) (tb on) <;> cases a (hd r) <;> cases B r <;> simp
/-- no head by the highest: it can be both -/
theorem high_free (hN : N ≤ 40) {k : Nat} {S : Nat → Int64} {B : Nat → Bool} {hd : Nat → Nat} (hL : LSh false N k S hd) {v : Nat} (hv : v < N) (hno : ∀ j, j < k → hd j ≠ v) (ht : ∀ i, tb tk i = decide (i < v)) {a0 : Nat → Bool} (ha : Ext N tk on a0) (hs : SatL N k S B a0) (b : Bool) : ∃ a, Ext N tk on a ∧ SatL N k S B a ∧ a v = b := by
  obtain ⟨a, h1, h2⟩ := LSh_free hN hL B (fun i => if i = v then b else a0 i)
  have hfr : ∀ i, i < v → (∀ j, j < k → hd j ≠ i) → a i = a0 i := fun i hi hn => by
    rw [h2 i hn, if_neg (by omega)]
  refine ⟨a, fun i hi e => ?_, h1, by rw [h2 v hno, if_pos rfl]⟩
  have hiv : i < v := by rw [ht] at e; simpa using e
  rw [← ha i hi e]
  by_cases q : ∃ j, j < k ∧ hd j = i
  · obtain ⟨j, hj, rfl⟩ := q
    obtain ⟨g1, g2, g3⟩ := hL.1 j hj
    have g2 : isHigh (S j) (hd j) := g2
    have e1 : S j = (S j ^^^ jshl 1 (nI (hd j))) ^^^ jshl 1 (nI (hd j)) := tb_ext (fun i _ => by rw [tb_xor, tb_xor]; cases tb (S j) i <;> cases tb (jshl 1 (nI (hd j))) i <;> rfl)
    have e2 : dot N (S j ^^^ jshl 1 (nI (hd j))) a = dot N (S j ^^^ jshl 1 (nI (hd j))) a0 := dot_congr (fun i hi e => by
      have hne : i ≠ hd j := fun z => by
        subst z
        rw [tb_xor, g2.1, tb_bit (by omega)] at e
        simp at e
      rw [tb_xor, tb_bit (by omega), decide_eq_false hne] at e
      simp at e
      have hlt : i < hd j := by
        rcases Nat.lt_trichotomy i (hd j) with q | q | q
        · exact q
        · exact absurd q hne
        · rw [g2.2 i q] at e; cases e
      exact hfr i (by omega) (fun p hp z => by
        rw [← z, hL.2.2 p j hp hj (fun y => hne (by rw [← z, y]))] at e
        cases e))
    have e3 := h1 j hj
    have e4 := hs j hj
    rw [e1, dot_xor, dot_bit g1 (by omega)] at e3 e4
    rw [e2] at e3
    have := e3.trans e4.symm
    revert this
    cases dot N (S j ^^^ jshl 1 (nI (hd j))) a0 <;> cases a (hd j) <;> cases a0 (hd j) <;> simp
  · exact hfr i hiv (fun j hj z => q ⟨j, hj, z⟩)
theorem heads_left {k : Nat} {S : Nat → Int64} {hd : Nat → Nat} {least : Bool} (hL : LSh least N k S hd) {r v : Nat} (hp : ∀ j, j < k → (hd j < v ↔ j < r)) (hno : ∀ j, j < k → hd j ≠ v) (hv : v < N) : k - r ≤ N - v - 1 := by
  have key : ∀ d, r + d < k → v + 1 + d ≤ hd (r + d) := by
    intro d
    induction d with
    | zero =>
      intro h
      have a := hno r h
      have b : ¬ hd r < v := fun z => by have := (hp r h).mp z; omega
      show v + 1 ≤ hd r
      omega
    | succ d ih =>
      intro h
      have := ih (by omega)
      have := hL.2.1 (r + d) (r + (d + 1)) (by omega) h
      omega
  rcases Nat.lt_or_ge r k with q | q
  · have := key (k - r - 1) (by omega)
    have := (hL.1 (r + (k - r - 1)) (by omega)).1
    omega
  · omega
theorem soln_loop (hN : N ≤ 40) {k : Nat} {S : Nat → Int64} {T : Nat → Int32} {B : Nat → Bool} {hd : Nat → Nat} (hL : LSh false N k S hd) (hT : ∀ j, j < k → T j = bI (B j)) (hs : ∀ a, SatL N k S B a ↔ SatE N E c a) (x : Int64) (x3 : Int32) (th : Int32) : ∀ (d v r l : Nat) (tk on : Int64) (R : Nat → Int64), v + d = N → r ≤ k → (∀ j, j < k → (hd j < v ↔ j < r)) → l + v + k = N + r → TI N E c tk on false R → (∀ i, tb tk i = decide (i < v)) →
    ∃ q s, L_X5_takeByNumber_6 (nI N) (nI N) N x x3 (nI l) (nI v) tk on false R = some q ∧ L_X8_solution_64 (nI N) (nI c) 60 F 60 G 60 60 x (nI l) on (nI r) (nI v) th (nI k) false S T = some s ∧ q.1 = s.1 := by
  have hkN := hL.le
  intro d
  induction d with
  | zero =>
    intro v r l tk on R hv hr hp hl ht htk
    rw [E_X5_takeByNumber_6, E_X8_solution_64, cif_pos ((nI_leI (by omega) (by omega)).mpr (by omega)), cif_pos ((nI_leI (by omega) (by omega)).mpr (by omega))]
    exact ⟨_, _, rfl, rfl, rfl⟩
  | succ d ih =>
    intro v r l tk on R hv hr hp hl ht htk
    have hvN : v < N := by omega
    have hop : tb tk v = false := by rw [htk, decide_eq_false (Nat.lt_irrefl v)]
    have h62 := ht.2.1.eq62 hvN
    -- a value is taken
    have go : ∀ (b : Bool) (r' l' : Nat), (∃ a, Ext N tk on a ∧ SatE N E c a ∧ a v = b) → r' ≤ k → (∀ j, j < k → (hd j < v + 1 ↔ j < r')) → l' + (v + 1) + k = N + r' →
        ∃ q s, Option.bind (D_X5_take tk on (nI N) false N R (nI v) b) (fun u => L_X5_takeByNumber_6 (nI N) (nI N) N x x3 (nI l') (nI (v + 1)) u.1 u.2.1 u.2.2.1 u.2.2.2) = some q ∧
          L_X8_solution_64 (nI N) (nI c) 60 F 60 G 60 60 x (nI l') (addO on v b) (nI r') (nI (v + 1)) th (nI k) false S T = some s ∧ q.1 = s.1 := by
      intro b r' l' ⟨a, a1, a2, a3⟩ h1 h2 h3
      obtain ⟨i2, R2, e2, t2⟩ := take_spec hN ht hvN hop b
      have hi : i2 = false := ((t2.2.2.2 a ((Ext.add hN hvN ht.1 hop a).mpr ⟨a1, a3⟩)).mpr a2).1
      subst hi
      rw [e2, Option.bind_some]
      refine ih (v + 1) r' l' _ _ R2 (by omega) h1 h2 h3 t2 (fun i => ?_)
      rw [addT_tb (by omega), htk]
      by_cases q : i = v
      · subst q; simp
      · rw [decide_eq_false q]
        by_cases w : i < v
        · rw [decide_eq_true w, decide_eq_true (by omega)]; rfl
        · rw [decide_eq_false w, decide_eq_false (by omega)]; rfl
    have orB : ∀ b : Bool, (if b then on ||| jshl 1 (nI v) else on ||| 0) = addO on v b := fun b => by
      unfold addO
      cases b with
      | true => rfl
      | false => exact or_zero on
    have hnv : ¬ nI N ≤ nI v := nI_ge hvN (by omega)
    rw [E_X5_takeByNumber_6, E_X8_solution_64, cif_neg hnv, cif_neg hnv]
    simp only [nI_1]
    by_cases hd1 : r < k ∧ hd r = v
    · obtain ⟨hrk, rfl⟩ := hd1
      obtain ⟨g1, g2, g3⟩ := hL.1 r hrk
      have g2 : isHigh (S r) (hd r) := g2
      have hval : ∀ a, Ext N tk on a → SatE N E c a → a (hd r) = (B r ^^ pb (S r &&& on)) := fun a ha hsa => high_val hN hL hrk ht.1 htk ha ((hs a).mpr hsa)
      have hu : uni N R (hd r) := by
        refine Classical.byContradiction (fun hu => ?_)
        obtain ⟨a, a1, a2, a3⟩ := ht.both hN hvN hop hu (!(B r ^^ pb (S r &&& on)))
        have := hval a a1 a2
        rw [a3] at this
        revert this
        cases (B r ^^ pb (S r &&& on)) <;> simp
      obtain ⟨a, a1, a2⟩ := ht.some hN
      have hb : tb (R (hd r)) 62 = (B r ^^ pb (S r &&& on)) := (ht.forced hN hvN hu a a1 a2).symm.trans (hval a a1 a2)
      have hbit : R (hd r) = jshl 1 (nI (hd r)) ↔ tb (R (hd r)) 62 = false := by
        have e := hu.eq hN hvN h62
        constructor
        · intro z
          rw [z, tb_bit (by omega), decide_eq_false (show ¬ 62 = hd r by omega)]
        · intro z
          rw [e, z]
          refine tb_ext (fun j _ => ?_)
          rw [chg_tb (by omega), tb_bit (by omega)]
          simp
      have vp : vp_in (nI r) 60 := vp_in_nI (by omega) (by omega)
      rw [(has_spec hN hvN h62).1 hu, Option.bind_some, cif_pos rfl, cif_pos (vp_in_nI hvN (by omega)), nI_clamp (show hd r < 2 ^ 31 by omega)]
      rw [cif_neg (nI_ge hrk (by omega)), cif_pos vp, nI_clamp (show r < 2 ^ 31 by omega), highest_spec (by omega) g2, Option.bind_some, cif_pos rfl, cif_pos vp, cif_pos vp, parity_spec, Option.bind_some, hT r hrk, bI_xor]
      have next := go (B r ^^ pb (S r &&& on)) (r + 1) l ⟨a, a1, a2, hval a a1 a2⟩ (by omega) (fun j hj => ⟨fun z => by
        rcases Nat.lt_or_ge r j with w | w
        · have := hL.2.1 r j w hj; omega
        · omega, fun z => by
        rcases Nat.lt_or_ge j r with w | w
        · have := hL.2.1 j r w hrk; omega
        · rw [show j = r by omega]; omega⟩) (by omega)
      rw [← orB] at next
      cases z : (B r ^^ pb (S r &&& on)) with
      | false =>
        rw [z] at next
        rw [cif_pos (hbit.mpr (hb.trans z)), cif_neg (by decide)]
        exact next
      | true =>
        rw [z] at next
        rw [cif_neg (fun w => by rw [hbit.mp w, z] at hb; cases hb), cif_pos bI_t]
        exact next
    · have hno : ∀ j, j < k → hd j ≠ v := fun j hj z => by
        rcases Nat.lt_trichotomy j r with w | w | w
        · have := (hp j hj).mpr w; omega
        · exact hd1 ⟨by omega, by rw [← w]; exact z⟩
        · have h1 : ¬ hd r < v := fun y => by have := (hp r (by omega)).mp y; omega
          have := hL.2.1 r j w hj
          omega
      have hl1 := heads_left hL hp hno hvN
      obtain ⟨l', rfl⟩ : ∃ l', l = l' + 1 := ⟨l - 1, by omega⟩
      have hu : ¬ uni N R v := fun hu => by
        obtain ⟨a, a1, a2⟩ := ht.some hN
        obtain ⟨a', b1, b2, b3⟩ := high_free hN hL hvN hno htk a1 ((hs a).mpr a2) (!(tb (R v) 62))
        have := ht.forced hN hvN hu a' b1 ((hs a').mp b2)
        rw [b3] at this
        revert this
        cases tb (R v) 62 <;> simp
      rw [(has_spec hN hvN h62).2 hu, Option.bind_some, cif_neg (by simp), nI_m1]
      have next : ∀ b, _ := fun b => go b r l' (ht.both hN hvN hop hu b) hr (fun j hj => ⟨fun z => (hp j hj).mp (by have := hno j hj; omega), fun z => by have := (hp j hj).mpr z; omega⟩) (by omega)
      have ref : (cif (nI k ≤ nI r)
        (cif (((jshr x (nI l')) &&& (1 : Int64)) = (1 : Int64))
          (L_X8_solution_64 (nI N) (nI c) 60 F 60 G 60 60 x (nI l') (on ||| (jshl (1 : Int64) (nI v))) (nI r) (nI (v + 1)) th (nI k) false S T)
          (L_X8_solution_64 (nI N) (nI c) 60 F 60 G 60 60 x (nI l') (on ||| (0 : Int64)) (nI r) (nI (v + 1)) th (nI k) false S T))
        (cif (vp_in (nI r) 60)
          (Option.bind (D_X8_highest (S (nI r).toNatClampNeg)) (fun u_16 =>
            cif (u_16 = (jshl (1 : Int64) (nI v)))
              (cif (vp_in (nI r) 60)
                (cif (vp_in (nI r) 60)
                  (Option.bind (D_X8_parity ((S (nI r).toNatClampNeg) &&& on)) (fun u_24 =>
                    cif (((T (nI r).toNatClampNeg) ^^^ u_24) = (1 : Int32))
                      (L_X8_solution_64 (nI N) (nI c) 60 F 60 G 60 60 x (nI (l' + 1)) (on ||| (jshl (1 : Int64) (nI v))) (nI (r + 1)) (nI (v + 1)) th (nI k) false S T)
                      (L_X8_solution_64 (nI N) (nI c) 60 F 60 G 60 60 x (nI (l' + 1)) (on ||| (0 : Int64)) (nI (r + 1)) (nI (v + 1)) th (nI k) false S T)))
                  (none))
                (none))
              (cif (((jshr x (nI l')) &&& (1 : Int64)) = (1 : Int64))
                (L_X8_solution_64 (nI N) (nI c) 60 F 60 G 60 60 x (nI l') (on ||| (jshl (1 : Int64) (nI v))) (nI r) (nI (v + 1)) th (nI k) false S T)
                (L_X8_solution_64 (nI N) (nI c) 60 F 60 G 60 60 x (nI l') (on ||| (0 : Int64)) (nI r) (nI (v + 1)) th (nI k) false S T))))
          (none))) = L_X8_solution_64 (nI N) (nI c) 60 F 60 G 60 60 x (nI l') (addO on v (tb x l')) (nI r) (nI (v + 1)) th (nI k) false S T := by
        have inner : (cif (((jshr x (nI l')) &&& (1 : Int64)) = (1 : Int64))
                (L_X8_solution_64 (nI N) (nI c) 60 F 60 G 60 60 x (nI l') (on ||| (jshl (1 : Int64) (nI v))) (nI r) (nI (v + 1)) th (nI k) false S T)
                (L_X8_solution_64 (nI N) (nI c) 60 F 60 G 60 60 x (nI l') (on ||| (0 : Int64)) (nI r) (nI (v + 1)) th (nI k) false S T)) = L_X8_solution_64 (nI N) (nI c) 60 F 60 G 60 60 x (nI l') (addO on v (tb x l')) (nI r) (nI (v + 1)) th (nI k) false S T := by
          rw [← orB]
          cases z : tb x l' with
          | true => rw [cif_pos ((js_bit (by omega)).mpr z), if_pos rfl]
          | false => rw [cif_neg (fun w => by rw [js_bit (by omega), z] at w; cases w), if_neg (by simp)]
        rw [inner]
        rcases Nat.lt_or_ge r k with w | w
        · obtain ⟨g1, g2, g3⟩ := hL.1 r w
          have g2 : isHigh (S r) (hd r) := g2
          rw [cif_neg (fun q => by have := (nI_leI (by omega) (by omega)).mp q; omega), cif_pos (vp_in_nI (by omega) (by omega)), nI_clamp (by omega), highest_spec (by omega) g2, Option.bind_some, cif_neg (fun q => by
            have : tb (jshl 1 (nI (hd r))) v = tb (jshl 1 (nI v)) v := by rw [q]
            rw [tb_bit (by omega), tb_bit (by omega), decide_eq_false (fun y => hno r w y.symm)] at this
            simp at this)]
        · rw [cif_pos ((nI_leI (by omega) (by omega)).mpr w)]
      rw [ref]
      cases z : tb x l' with
      | false =>
        rw [cif_pos ((ju_bit (by omega)).mpr z)]
        exact next false
      | true =>
        rw [cif_neg (fun w => by rw [ju_bit (by omega), z] at w; cases w)]
        exact next true
theorem solution_eq (hr : Rel N c m E Y Z F G Gb Y8 Z8) {fr : Bool} (hf : Fresh N E c fr imp R) (tt to : Int64) (ti : Bool) (tR : Nat → Int64) (th rc : Int32) (im : Bool) (S : Nat → Int64) (T : Nat → Int32) (x : Int64) :
    ∃ r s, D_X7_solution (nI N) fr (nI c) 60 E (nI N) imp N R (nI N) tt to (nI N) ti N tR x = some r ∧ D_X8_solution th (nI N) (nI c) rc im 60 F 60 G 60 S 60 T x = some s ∧ Fresh N E c r.2.1 r.2.2.1 r.2.2.2.1 ∧ r.1 = s.1 := by
  have hN := hr.hN
  obtain ⟨k, i9, S9, T9, B, hd, e9, hL, hT, -, hsem, hk9⟩ := mk_spec2 (least := false) hN hr.h8 (WF0 (N := N)) rc im S T
  have hkN := hL.le
  obtain ⟨i1, R1, e1, h1⟩ := fresh_spec hr hf
  obtain ⟨k8, S1, T1, B1, hd1, -, -, -, hk⟩ := mk_class hr h1 0 false (fun _ => 0) (fun _ => 0)
  have hsE : ∀ a, (i9 = false ∧ SatL N k S9 B a) ↔ SatE N E c a := fun a => by
    rw [hsem a (Ext0 a), SatE_cg hr.hE a, E8_sat hN hr.h8]
  have hi : i9 = i1 := by
    obtain ⟨a, ha, -⟩ := shape_free (by omega) h1.1 (fun _ => false)
    obtain ⟨a', ha', -⟩ := LSh_free hN hL B (fun _ => false)
    cases i1 with
    | false => exact ((hsE a).mpr ((h1.2 a).mp ⟨rfl, ha⟩)).1
    | true =>
      cases i9 with
      | true => rfl
      | false => exact absurd ((h1.2 a').mpr ((hsE a').mp ⟨rfl, ha'⟩)).1 (by simp)
  subst hi
  unfold D_X7_solution D_X8_solution D_X7_solutions
  rw [e9, Option.bind_some]
  by_cases hx : x < 0
  · rw [cif_pos hx]
    refine ⟨_, (-1, 0, if i9 then 0 else nI k, i9, S9, T9), rfl, ?_, hf, rfl⟩
    cases i9 with
    | true => rw [cif_pos rfl]
    | false => rw [cif_neg (by simp), cif_pos hx]
  · rw [cif_neg hx, e1, Option.bind_some]
    cases i9 with
    | true =>
      rw [cif_pos rfl, cif_pos rfl, Option.bind_some, cif_neg hx]
      exact ⟨_, _, rfl, rfl, fun _ => h1, rfl⟩
    | false =>
      obtain ⟨k1, k2, k3⟩ := hk rfl
      have hkk : num N R1 = k := by rw [k2, k3, hk9 rfl]
      rw [cif_neg (by simp), cif_neg (by simp), cif_neg hx]
      rw [size_spec hN]
      simp only [Option.bind_some]
      rw [hkk]
      have hif : (if false = true then (0 : Int32) else nI k) = nI k := rfl
      rw [hif]
      by_cases hlt : x < jshl 1 (nI N - nI k)
      · rw [cif_pos hlt, cif_pos hlt]
        obtain ⟨R2, e2, h2⟩ := begin_spec hN h1 tt to ti tR
        rw [e2, Option.bind_some]
        have hs' : ∀ a, SatL N k S9 B a ↔ SatE N E c a := fun a => ⟨fun q => (hsE a).mp ⟨rfl, q⟩, fun q => ((hsE a).mpr q).2⟩
        rw [nI_sub hkN]
        obtain ⟨q, s, g1, g2, g3⟩ := soln_loop (F := F) (G := G) hN hL hT hs' x (nI (N - k)) 0 N 0 0 (N - k) 0 0 R2 (by omega) (Nat.zero_le k) (fun j _ => ⟨fun z => by omega, fun z => by omega⟩) (by omega) h2 (fun i => by rw [tb_0]; simp)
        have g1' : D_X5_takeByNumber (nI N) 0 0 (nI N) false N R2 x (nI (N - k)) = some q := by unfold D_X5_takeByNumber; exact g1
        dsimp only
        rw [size_spec hN, Option.bind_some, hkk, nI_sub hkN, g1', Option.bind_some]
        exact ⟨_, s, rfl, g2, fun _ => h1, g3⟩
      · rw [cif_neg hlt, cif_neg hlt]
        exact ⟨_, _, rfl, rfl, fun _ => h1, rfl⟩
end SLN
