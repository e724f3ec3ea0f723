/-! ROWS ARE ONE: two lists of rows with the same solutions are the same; rows, row, solutions, sum -/
section UNQ
variable {N : Nat} {R R' : Nat → Int64}
theorem noHead_zero (hN : N ≤ 40) (hR : Shape N R) {y : Int64} (hy : Eq62 N y) (hno : ∀ k, k < N → R k ≠ 0 → tb y k = false) (hall : ∀ a, SatR N R a → holds N y a) : y = 0 := by
  have hv : ∀ w, w < N → tb y w = false := fun w hw => by
    cases e : tb y w with
    | false => rfl
    | true =>
      exfalso
      have mk : ∀ b : Bool, tb y 62 = b := fun b => by
        obtain ⟨a, ha, hf⟩ := shape_free (by omega) hR (fun i => decide (i = w) && b)
        have h1 := hall a ha
        unfold holds at h1
        have hfr : ∀ i, i < N → tb y i = true → a i = (decide (i = w) && b) := fun i hi e => hf i hi (Classical.byContradiction (fun z => by rw [hno i hi z] at e; cases e))
        rw [dot_one hw e (fun i hi hne e' => by rw [hfr i hi e', decide_eq_false hne]; rfl), hfr w hw e] at h1
        simpa using h1.symm
      have := (mk true).symm.trans (mk false)
      cases this
  obtain ⟨a, ha, -⟩ := shape_free (by omega) hR (fun _ => false)
  have h1 := hall a ha
  unfold holds at h1
  rw [dot_zero hv] at h1
  refine tb_eq0.mpr (fun i _ => ?_)
  rcases Nat.lt_or_ge i N with q | q
  · exact hv i q
  · by_cases z : i = 62
    · rw [z]; exact h1.symm
    · exact hy i q z
theorem head_of (hN : N ≤ 40) (hR : Shape N R) (hR' : Shape N R') (hs : ∀ a, SatR N R' a → SatR N R a) {h : Nat} (hh : h < N) (h0 : R h ≠ 0) : R' h ≠ 0 := by
  intro z
  obtain ⟨hl, h62, -⟩ := hR h hh h0
  have e0 : redF R' (R h) N = 0 := noHead_zero hN hR' (redF_eq62 (fun k hk => hR'.eq62 hk) h62 N (Nat.le_refl N)) (redF_red hR' (R h)) (fun a ha => (redF_holds ha N (Nat.le_refl N)).mpr (hs a ha h hh))
  have e1 : ∀ i, i ≤ N → tb (redF R' (R h) i) h = true := by
    intro i
    induction i with
    | zero => intro _; exact hl.1
    | succ i ih =>
      intro hi
      show tb (if tb (R h) i then redF R' (R h) i ^^^ R' i else redF R' (R h) i) h = true
      cases e : tb (R h) i with
      | false => rw [if_neg (by simp)]; exact ih (by omega)
      | true =>
        rw [if_pos rfl, tb_xor, ih (by omega)]
        have : tb (R' i) h = false := by
          rcases Nat.lt_trichotomy i h with q | q | q
          · rw [hl.2 i q] at e; cases e
          · rw [q, z]; exact tb_0 h
          · by_cases w : R' i = 0
            · rw [w]; exact tb_0 h
            · exact (hR' i (by omega) w).1.2 h q
        rw [this]; rfl
  have := e1 N (Nat.le_refl N)
  rw [e0, tb_0] at this
  cases this
theorem xor_zero {x y : Int64} (h : x ^^^ y = 0) : x = y := tb_ext (fun i hi => by
  have := (tb_eq0.mp h) i hi
  rw [tb_xor] at this
  cases a : tb x i <;> cases b : tb y i <;> rw [a, b] at this <;> first | rfl | cases this)
theorem shape_uniq (hN : N ≤ 40) (hR : Shape N R) (hR' : Shape N R') (hs : ∀ a, SatR N R a ↔ SatR N R' a) : ∀ h, h < N → R h = R' h := by
  intro h hh
  by_cases z : R h = 0
  · rw [z]
    refine (Classical.byContradiction (fun w => ?_))
    exact head_of hN hR' hR (fun a ha => (hs a).mp ha) hh (fun q => w q.symm) z
  · have z' : R' h ≠ 0 := head_of hN hR hR' (fun a ha => (hs a).mpr ha) hh z
    obtain ⟨l1, e1, d1⟩ := hR h hh z
    obtain ⟨l2, e2, d2⟩ := hR' h hh z'
    refine xor_zero (noHead_zero hN hR (e1.xor e2) (fun k hk k0 => ?_) (fun a ha => holds_xor (ha h hh) ((hs a).mp ha h hh)))
    rw [tb_xor]
    by_cases w : k = h
    · rw [w, l1.1, l2.1]; rfl
    · rw [d1 k hk w k0, d2 k hk w (head_of hN hR hR' (fun a ha => (hs a).mpr ha) hk k0)]; rfl
theorem says_uniq {c : Nat} {E E' : Nat → Int64} {imp imp' : Bool} (hN : N ≤ 40) (h : Says N E c imp R) (h' : Says N E' c imp' R') (hE : ∀ j, j < c → E j = E' j) : imp = imp' ∧ (imp = false → ∀ k, k < N → R k = R' k) := by
  have key : ∀ a, (imp = false ∧ SatR N R a) ↔ (imp' = false ∧ SatR N R' a) := fun a => by
    rw [h.2 a, h'.2 a]
    exact SatE_cg hE a
  obtain ⟨a, ha, -⟩ := shape_free (by omega) h.1 (fun _ => false)
  obtain ⟨a', ha', -⟩ := shape_free (by omega) h'.1 (fun _ => false)
  have e : imp = imp' := by
    cases imp with
    | false => exact ((key a).mp ⟨rfl, ha⟩).1.symm
    | true =>
      cases imp' with
      | true => rfl
      | false => exact absurd ((key a').mpr ⟨rfl, ha'⟩).1 (by simp)
  subst e
  exact ⟨rfl, fun z => shape_uniq hN h.1 h'.1 (fun a => ⟨fun q => ((key a).mp ⟨z, q⟩).2, fun q => ((key a).mpr ⟨z, q⟩).2⟩)⟩
/-- how many rows stand below place n -/
def num : Nat → (Nat → Int64) → Nat
  | 0, _ => 0
  | n + 1, R => num n R + (if R n = 0 then 0 else 1)
theorem num_z {n : Nat} (h : R n = 0) : num (n + 1) R = num n R := by
  show num n R + (if R n = 0 then 0 else 1) = _
  rw [if_pos h]; rfl
theorem num_s {n : Nat} (h : R n ≠ 0) : num (n + 1) R = num n R + 1 := by
  show num n R + (if R n = 0 then 0 else 1) = _
  rw [if_neg h]
theorem num_le (n : Nat) : num n R ≤ n := by
  induction n with
  | zero => exact Nat.le_refl 0
  | succ n ih =>
    by_cases z : R n = 0
    · rw [num_z z]; omega
    · rw [num_s z]; omega
theorem num_mono {i j : Nat} (h : i ≤ j) : num i R ≤ num j R := by
  induction j with
  | zero => rw [show i = 0 by omega]; exact Nat.le_refl _
  | succ j ih =>
    by_cases w : i = j + 1
    · rw [w]; exact Nat.le_refl _
    · have := ih (by omega)
      by_cases z : R j = 0
      · rw [num_z z]; exact this
      · rw [num_s z]; omega
theorem num_cg {n : Nat} (h : ∀ j, j < n → R j = R' j) : num n R = num n R' := by
  induction n with
  | zero => rfl
  | succ n ih =>
    show num n R + (if R n = 0 then 0 else 1) = num n R' + (if R' n = 0 then 0 else 1)
    rw [ih (fun j hj => h j (by omega)), h n (by omega)]
theorem size_loop (hN : N ≤ 40) : ∀ (k i : Nat), i + k = N → L_X2_size_4 (nI N) N R (nI (num i R)) (nI i) = some (nI (num N R)) := by
  intro k
  induction k with
  | zero =>
    intro i hi
    rw [E_X2_size_4, cif_pos ((nI_leI (by omega) (by omega)).mpr (by omega)), show i = N by omega]
  | succ k ih =>
    intro i hi
    rw [E_X2_size_4, cif_neg (fun q => by have := (nI_leI (by omega) (by omega)).mp q; omega), cif_pos (vp_in_nI (by omega) (by omega)), nI_clamp (by omega), nI_1, nI_1]
    by_cases z : R i = 0
    · rw [cif_pos z, ← ih (i + 1) (by omega), num_z z]
    · rw [cif_neg z, ← ih (i + 1) (by omega), num_s z]
theorem size_spec (hN : N ≤ 40) : D_X2_size (nI N) N R = some (nI (num N R)) := by
  unfold D_X2_size
  exact size_loop hN N 0 (by omega)
theorem inOrder_hit (hN : N ≤ 40) {g i : Nat} (hg : g < N) (h0 : R g ≠ 0) (hi : num g R = i) : ∀ (d h : Nat), h + d = g → L_X2_inOrder_4 (nI N) N R (nI i) (nI (num h R)) (nI h) = some (R g) := by
  intro d
  induction d with
  | zero =>
    intro h hh
    have : h = g := by omega
    subst this
    rw [E_X2_inOrder_4, cif_neg (fun q => by have := (nI_leI (by omega) (by omega)).mp q; omega), cif_pos (vp_in_nI (by omega) (by omega)), nI_clamp (by omega), cif_neg h0, hi, cif_pos rfl, cif_pos (vp_in_nI (by omega) (by omega))]
  | succ d ih =>
    intro h hh
    rw [E_X2_inOrder_4, cif_neg (fun q => by have := (nI_leI (by omega) (by omega)).mp q; omega), cif_pos (vp_in_nI (by omega) (by omega)), nI_clamp (by omega), nI_1, nI_1]
    by_cases z : R h = 0
    · rw [cif_pos z, ← ih (h + 1) (by omega), num_z z]
    · have h1 := num_s z
      have h2 : num (h + 1) R ≤ num g R := num_mono (by omega)
      have h3 := num_le (R := R) g
      rw [cif_neg z, cif_neg (fun q => by have := (nI_eq (by omega) (by omega)).mp q; omega), ← ih (h + 1) (by omega), h1]
theorem inOrder_miss (hN : N ≤ 40) {i : Nat} (hi : num N R ≤ i) (hi2 : i < 2 ^ 31) : ∀ (d h : Nat), h + d = N → L_X2_inOrder_4 (nI N) N R (nI i) (nI (num h R)) (nI h) = some 0 := by
  intro d
  induction d with
  | zero =>
    intro h hh
    rw [E_X2_inOrder_4, cif_pos ((nI_leI (by omega) (by omega)).mpr (by omega))]
  | succ d ih =>
    intro h hh
    rw [E_X2_inOrder_4, cif_neg (fun q => by have := (nI_leI (by omega) (by omega)).mp q; omega), cif_pos (vp_in_nI (by omega) (by omega)), nI_clamp (by omega), nI_1, nI_1]
    by_cases z : R h = 0
    · rw [cif_pos z, ← ih (h + 1) (by omega), num_z z]
    · have h1 := num_s z
      have h2 : num (h + 1) R ≤ num N R := num_mono (by omega)
      have h3 := num_le (R := R) h
      rw [cif_neg z, cif_neg (fun q => by have := (nI_eq (by omega) (by omega)).mp q; omega), ← ih (h + 1) (by omega), h1]
theorem num_rowAt {k : Nat} {S : Nat → Int64} {B : Nat → Bool} {hd : Nat → Nat} (hN : N ≤ 40) (hL : LSh true N k S hd) : ∀ i, i ≤ N → ∀ pl, pl ≤ k → (∀ j, j < k → (hd j < i ↔ j < pl)) → num i (rowAt k S B hd) = pl := by
  intro i
  induction i with
  | zero =>
    intro _ pl hpl hp
    rcases Nat.eq_zero_or_pos pl with q | q
    · rw [q]; rfl
    · have := (hp 0 (by omega)).mpr q; omega
  | succ i ih =>
    intro hi pl hpl hp
    obtain ⟨pl', h1, h2⟩ := hL.place i
    have e := ih (by omega) pl' h1 h2
    by_cases q : ∃ j, j < k ∧ hd j = i
    · obtain ⟨j, hj, rfl⟩ := q
      have hne : rowAt k S B hd (hd j) ≠ 0 := by
        rw [rowAt_hd hL hj]
        exact comb_ne (by omega) (hL.1 j hj).2.1.bit
      rw [num_s hne, e]
      have a1 : ¬ j < pl' := fun z => by have := (h2 j hj).mpr z; omega
      have a2 : j < pl := (hp j hj).mp (by omega)
      have a3 : ¬ j + 1 < pl := fun z => by
        have b1 := (hp (j + 1) (by omega)).mpr z
        have b2 := hL.2.1 j (j + 1) (by omega) (by omega)
        omega
      have a4 : ¬ pl' < j := fun z => by
        have b2 := hL.2.1 pl' j z hj
        have := (h2 pl' (by omega)).mp b2
        omega
      omega
    · have hz : rowAt k S B hd i = 0 := rowAt_no q
      rw [num_z hz, e]
      have same : ∀ j, j < k → (j < pl' ↔ j < pl) := fun j hj => by
        rw [← h2 j hj, ← hp j hj]
        have : hd j ≠ i := fun z => q ⟨j, hj, z⟩
        omega
      rcases Nat.lt_trichotomy pl' pl with w | w | w
      · have := (same pl' (by omega)).mpr w; omega
      · exact w
      · have := (same pl (by omega)).mp w; omega
end UNQ
section ROW
variable {N c m : Nat} {E Y Z F : Nat → Int64} {G : Nat → Int32} {Gb : Nat → Bool} {Y8 Z8 : Nat → Int64} {tk on : Int64} {imp : Bool} {R : Nat → Int64}
theorem WF0 : WF N 0 0 := ⟨Lo.zero, fun i e => by rw [tb_0] at e; cases e⟩
theorem Ext0 (a : Nat → Bool) : Ext N 0 0 a := fun i _ e => by rw [tb_0] at e; cases e
/-- the reference's rows are the class's -/
theorem mk_class (hr : Rel N c m E Y Z F G Gb Y8 Z8) (hs : Says N E c imp R) (rc : Int32) (im : Bool) (S0 : Nat → Int64) (T0 : Nat → Int32) :
    ∃ k S T B hd, D_X8_makeRows (nI c) rc im 60 F 60 G 60 S0 60 T0 0 0 true = some (if imp then 0 else nI k, imp, S, T) ∧ LSh true N k S hd ∧ (∀ j, j < k → T j = bI (B j)) ∧ (imp = false → (∀ h, h < N → R h = rowAt k S B hd h) ∧ num N R = k ∧ k = nInd N F Gb 0 0 c) := by
  obtain ⟨k, imp', S, T, B, hd, e, hL, hT, hv, hsem, hk⟩ := mk_spec2 (least := true) hr.hN hr.h8 WF0 rc im S0 T0
  have hTI := mk_TI hr.hN hr.h8 WF0 hL hv hsem
  obtain ⟨e1, e2⟩ := says_uniq hr.hN hs (⟨hTI.2.1, fun a => hTI.2.2.2 a (Ext0 a)⟩ : Says N (E8 F Gb) c imp' (rowAt k S B hd)) hr.hE
  subst e1
  refine ⟨k, S, T, B, hd, e, hL, hT, fun z => ⟨e2 z, ?_, hk z⟩⟩
  rw [num_cg (e2 z)]
  exact num_rowAt hr.hN hL N (Nat.le_refl N) k (Nat.le_refl k) (fun j hj => ⟨fun _ => hj, fun _ => (hL.1 j hj).1⟩)
theorem rows_eq (hr : Rel N c m E Y Z F G Gb Y8 Z8) {fr : Bool} (hf : Fresh N E c fr imp R) (th rc : Int32) (im : Bool) (S : Nat → Int64) (T : Nat → Int32) :
    ∃ r s, D_X7_rows fr (nI c) 60 E (nI N) imp N R = some r ∧ D_X8_rows th (nI c) rc im 60 F 60 G 60 S 60 T = some s ∧ Fresh N E c r.2.1 r.2.2.1 r.2.2.2 ∧ r.1 = s.1 := by
  obtain ⟨i1, R1, e1, h1⟩ := fresh_spec hr hf
  obtain ⟨k, S1, T1, B, hd, e2, hL, hT, hk⟩ := mk_class hr h1 rc im S T
  unfold D_X7_rows D_X8_rows
  rw [e1, Option.bind_some, e2, Option.bind_some]
  cases i1 with
  | true => exact ⟨_, _, by rw [cif_pos rfl], by rw [cif_pos rfl], fun _ => h1, rfl⟩
  | false =>
    obtain ⟨k1, k2, -⟩ := hk rfl
    exact ⟨_, _, by rw [cif_neg (by simp), size_spec hr.hN, Option.bind_some], by rw [cif_neg (by simp)], fun _ => h1, by rw [k2]; rfl⟩
theorem row_eq (hr : Rel N c m E Y Z F G Gb Y8 Z8) {fr : Bool} (hf : Fresh N E c fr imp R) (th rc : Int32) (im : Bool) (S : Nat → Int64) (T : Nat → Int32) (x : Int32) :
    ∃ r s, D_X7_row fr (nI c) 60 E (nI N) imp N R x = some r ∧ D_X8_row th (nI c) rc im 60 F 60 G 60 S 60 T x = some s ∧ Fresh N E c r.2.1 r.2.2.1 r.2.2.2 ∧ ((r.1 = .inr 2 ∧ s.2.1 = 1) ∨ (r.1 = .inl s.1 ∧ s.2.1 = 0)) := by
  have hN := hr.hN
  obtain ⟨i1, R1, e1, h1⟩ := fresh_spec hr hf
  obtain ⟨k, S1, T1, B, hd, e2, hL, hT, hk⟩ := mk_class hr h1 rc im S T
  have hkN := hL.le
  unfold D_X7_row D_X8_row
  rw [e1, Option.bind_some, e2, Option.bind_some]
  cases i1 with
  | true =>
    have h9 : ¬ (¬ x < 0 ∧ ¬ ((0 : Int32) - 1) < x) := fun ⟨a, b⟩ => by
      rw [Int32.lt_iff_toInt_lt] at a b
      have a1 : (0 : Int32).toInt = 0 := by decide
      have a2 : ((0 : Int32) - 1).toInt = -1 := by decide
      omega
    have h8 := isIn_no (x := x) (a := 0) (b := (0 : Int32) - 1) h9
    refine ⟨_, _, by rw [cif_pos rfl, cif_pos rfl], by
      show Option.bind (D_X8_isIn x.toInt64 0 ((0 : Int32) - 1).toInt64) _ = _
      rw [show D_X8_isIn x.toInt64 0 ((0 : Int32) - 1).toInt64 = some false from h8, Option.bind_some, may_f, Option.bind_some, cif_neg (by simp)], fun _ => h1, Or.inl ⟨rfl, rfl⟩⟩
  | false =>
    obtain ⟨k1, k2, -⟩ := hk rfl
    rw [cif_neg (by simp)]
    by_cases hx : x < 0
    · have h8 : D_X8_isIn x.toInt64 0 ((nI k) - 1).toInt64 = some false := isIn_lo (x := x) (a := 0) hx
      refine ⟨_, _, by rw [cif_neg (Int32.not_le.mpr hx), cif_pos rfl], by
        show Option.bind (D_X8_isIn x.toInt64 0 ((nI k) - 1).toInt64) _ = _
        rw [h8, Option.bind_some, may_f, Option.bind_some, cif_neg (by simp)], fun _ => h1, Or.inl ⟨rfl, rfl⟩⟩
    · obtain ⟨i, hi, rfl⟩ := nI_of hx
      rw [cif_pos (nI_pos' hi)]
      unfold D_X2_inOrder
      rcases Nat.lt_or_ge i k with q | q
      · obtain ⟨hdN, hH, hLo⟩ := hL.1 i q
        have hRi : R1 (hd i) = comb (S1 i) (B i) := by rw [k1 _ hdN, rowAt_hd hL q]
        have hR0 : R1 (hd i) ≠ 0 := by rw [hRi]; exact comb_ne (by omega) hH.bit
        have hnum : num (hd i) R1 = i := by
          rw [num_cg (fun j hj => k1 j (by omega))]
          exact num_rowAt hN hL (hd i) (by omega) i (by omega) (fun j hj => ⟨fun z => by
            rcases Nat.lt_or_ge j i with w | w
            · exact w
            · rcases Nat.lt_or_ge i j with y | y
              · have := hL.2.1 i j y hj; omega
              · have : j = i := by omega
                subst this; omega, fun z => hL.2.1 j i z q⟩)
        have h8 : D_X8_isIn (nI i).toInt64 0 ((nI k) - 1).toInt64 = some true := by
          obtain ⟨k', rfl⟩ : ∃ k', k = k' + 1 := ⟨k - 1, by omega⟩
          rw [nI_pred]
          exact isIn_yes (a := 0) (nI_pos hi) (nI_nlt (by omega) (by omega))
        have e3 := inOrder_hit hN hdN hR0 hnum (hd i) 0 (by omega)
        have e3' : L_X2_inOrder_4 (nI N) N R1 (nI i) 0 0 = some (R1 (hd i)) := e3
        rw [e3', Option.bind_some, cif_neg hR0]
        have vp : vp_in (nI i) 60 := vp_in_nI (by omega) (by omega)
        refine ⟨_, (comb (S1 i) (B i), 0, nI k, false, S1, T1), rfl, ?_, fun _ => h1, Or.inr ⟨by rw [hRi], rfl⟩⟩
        show Option.bind (D_X8_isIn (nI i).toInt64 0 ((nI k) - 1).toInt64) _ = _
        rw [h8, Option.bind_some, may_tt, Option.bind_some, cif_pos rfl, cif_pos vp, cif_pos vp, nI_clamp (by omega)]
        dsimp only
        rw [hT i q]
        unfold comb
        cases B i with
        | true => rw [cif_pos bI_t]; rfl
        | false => rw [cif_neg (by decide)]; rfl
      · have e3 : L_X2_inOrder_4 (nI N) N R1 (nI i) 0 0 = some 0 := inOrder_miss hN (R := R1) (i := i) (by omega) hi N 0 (by omega)
        rw [e3, Option.bind_some, cif_pos rfl]
        have h8 : D_X8_isIn (nI i).toInt64 0 ((nI k) - 1).toInt64 = some false := by
          refine isIn_no (a := 0) (fun z => z.2 ?_)
          cases k with
          | zero =>
            rw [Int32.lt_iff_toInt_lt, nI_toInt hi]
            have : (nI 0 - 1).toInt = -1 := by decide
            omega
          | succ k' => rw [nI_pred]; exact nI_lt (by omega) hi
        refine ⟨_, (0, 1, nI k, false, S1, T1), rfl, ?_, fun _ => h1, Or.inl ⟨rfl, rfl⟩⟩
        show Option.bind (D_X8_isIn (nI i).toInt64 0 ((nI k) - 1).toInt64) _ = _
        rw [h8, Option.bind_some, may_f, Option.bind_some, cif_neg (by simp)]
        rfl
theorem solutions_eq (hr : Rel N c m E Y Z F G Gb Y8 Z8) {fr : Bool} (hf : Fresh N E c fr imp R) (th rc : Int32) (im : Bool) (S : Nat → Int64) (T : Nat → Int32) :
    ∃ r s, D_X7_solutions (nI N) fr (nI c) 60 E (nI N) imp N R = some r ∧ D_X8_solutions th (nI N) (nI c) rc im 60 F 60 G 60 S 60 T = some s ∧ Fresh N E c r.2.1 r.2.2.1 r.2.2.2 ∧ r.1 = s.1 := by
  obtain ⟨i1, R1, e1, h1⟩ := fresh_spec hr hf
  obtain ⟨k, S1, T1, B, hd, e2, hL, hT, hk⟩ := mk_class hr h1 rc im S T
  unfold D_X7_solutions D_X8_solutions
  rw [e1, Option.bind_some, e2, Option.bind_some]
  cases i1 with
  | true => exact ⟨_, _, by rw [cif_pos rfl], by rw [cif_pos rfl], fun _ => h1, rfl⟩
  | false =>
    obtain ⟨k1, k2, -⟩ := hk rfl
    exact ⟨_, _, by rw [cif_neg (by simp), size_spec hr.hN, Option.bind_some], by rw [cif_neg (by simp)], fun _ => h1, by rw [k2]; rfl⟩
/-- the reference's sum: over the rows in their order -/
def sumS (S : Nat → Int64) (hd : Nat → Nat) (x : Int64) : Nat → Int64
  | 0 => x
  | j + 1 => if tb x (hd j) then sumS S hd x j ^^^ S j else sumS S hd x j
def sumB (B : Nat → Bool) (hd : Nat → Nat) (x : Int64) : Nat → Bool
  | 0 => false
  | j + 1 => if tb x (hd j) then sumB B hd x j ^^ B j else sumB B hd x j
theorem sumS_lo {k : Nat} {S : Nat → Int64} {hd : Nat → Nat} (hL : LSh true N k S hd) {x : Int64} (hx : Lo N x) : ∀ j, j ≤ k → Lo N (sumS S hd x j) := by
  intro j
  induction j with
  | zero => intro _; exact hx
  | succ j ih =>
    intro hj
    show Lo N (if tb x (hd j) then sumS S hd x j ^^^ S j else sumS S hd x j)
    split
    · exact (ih (by omega)).xor (hL.1 j (by omega)).2.2
    · exact ih (by omega)
theorem sumS_bit {k : Nat} {S : Nat → Int64} {hd : Nat → Nat} (hL : LSh true N k S hd) (x : Int64) {i : Nat} (hi : i < k) : ∀ j, j ≤ i → tb (sumS S hd x j) (hd i) = tb x (hd i) := by
  intro j
  induction j with
  | zero => intro _; rfl
  | succ j ih =>
    intro hj
    show tb (if tb x (hd j) then sumS S hd x j ^^^ S j else sumS S hd x j) (hd i) = _
    split
    · rw [tb_xor, ih (by omega), hL.2.2 i j hi (by omega) (by omega)]; simp
    · exact ih (by omega)
theorem sum_loop (hN : N ≤ 40) {k : Nat} {S : Nat → Int64} {T : Nat → Int32} {B : Nat → Bool} {hd : Nat → Nat} (hL : LSh true N k S hd) (hT : ∀ j, j < k → T j = bI (B j)) (x0 x : Int64) (th : Int32) (im : Bool) : ∀ (d j : Nat), j + d = k →
    L_X8_sum_40 (nI N) (nI c) 60 F 60 G 60 60 x0 (sumS S hd x j) (bI (sumB B hd x j)) (nI j) th (nI k) im S T = some (if sumS S hd x k = 0 then bI (sumB B hd x k) else -1, th, nI k, im, S, T) := by
  have hkN := hL.le
  intro d
  induction d with
  | zero =>
    intro j hj
    have : j = k := by omega
    subst this
    rw [E_X8_sum_40, cif_pos ((nI_leI (by omega) (by omega)).mpr (Nat.le_refl _))]
    by_cases z : sumS S hd x j = 0
    · rw [cif_pos z, if_pos z]
    · rw [cif_neg z, if_neg z]
  | succ d ih =>
    intro j hj
    have hjk : j < k := by omega
    obtain ⟨h1, h2, h3⟩ := hL.1 j hjk
    have vp : vp_in (nI j) 60 := vp_in_nI (by omega) (by omega)
    rw [E_X8_sum_40, cif_neg (fun z => by have := (nI_leI (by omega) (by omega)).mp z; omega), nI_clamp (by omega), nI_1]
    simp only [cif_pos vp]
    rw [lowest_spec (show isLow (S j) (hd j) from h2), Option.bind_some]
    have hb := sumS_bit hL x hjk j (Nat.le_refl j)
    rw [← ih (j + 1) (by omega)]
    show _ = L_X8_sum_40 (nI N) (nI c) 60 F 60 G 60 60 x0 (if tb x (hd j) then sumS S hd x j ^^^ S j else sumS S hd x j) (bI (if tb x (hd j) then sumB B hd x j ^^ B j else sumB B hd x j)) (nI (j + 1)) th (nI k) im S T
    cases z : tb x (hd j) with
    | false => rw [cif_pos ((hi_and (by omega)).mpr (hb.trans z))]; rfl
    | true => rw [cif_neg (fun w => by rw [hi_and (by omega), hb, z] at w; cases w), hT j hjk, bI_xor]; rfl
theorem comb_xor (hN : N ≤ 40) {s t : Int64} (hs : Lo N s) (ht : Lo N t) (a b : Bool) : comb (s ^^^ t) (a ^^ b) = comb s a ^^^ comb t b := tb_ext (fun i _ => by
  rw [tb_xor, comb_tb, comb_tb, comb_tb, tb_xor]
  by_cases q : i = 62
  · rw [q, hs 62 (by omega), ht 62 (by omega)]; cases a <;> cases b <;> rfl
  · rw [decide_eq_false q]; cases a <;> cases b <;> simp)
/-- the class's reduction is the same sum -/
theorem red_sum (hN : N ≤ 40) {k : Nat} {S : Nat → Int64} {B : Nat → Bool} {hd : Nat → Nat} (hL : LSh true N k S hd) {x : Int64} (hx : Lo N x) : ∀ i, i ≤ N → ∀ pl, pl ≤ k → (∀ j, j < k → (hd j < i ↔ j < pl)) → redF (rowAt k S B hd) x i = comb (sumS S hd x pl) (sumB B hd x pl) := by
  intro i
  induction i with
  | zero =>
    intro _ pl hpl hp
    rcases Nat.eq_zero_or_pos pl with q | q
    · subst q
      show x = comb x false
      unfold comb
      rw [if_neg (by simp), or_zero]
    · have := (hp 0 (by omega)).mpr q; omega
  | succ i ih =>
    intro hi pl hpl hp
    obtain ⟨pl', h1, h2⟩ := hL.place i
    have e := ih (by omega) pl' h1 h2
    have hn := num_rowAt (B := B) hN hL i (by omega) pl' h1 h2
    have hn1 := num_rowAt (B := B) hN hL (i + 1) hi pl hpl hp
    show (if tb x i then redF (rowAt k S B hd) x i ^^^ rowAt k S B hd i else redF (rowAt k S B hd) x i) = _
    by_cases q : ∃ j, j < k ∧ hd j = i
    · obtain ⟨j, hj, rfl⟩ := q
      have hne : rowAt k S B hd (hd j) ≠ 0 := by
        rw [rowAt_hd hL hj]
        exact comb_ne (by omega) (hL.1 j hj).2.1.bit
      rw [num_s hne, hn] at hn1
      have a1 : ¬ j < pl' := fun z => by have := (h2 j hj).mpr z; omega
      have a2 : j < pl := (hp j hj).mp (by omega)
      have : pl' = j := by omega
      subst this
      rw [← hn1, e, rowAt_hd hL hj]
      show _ = comb (if tb x (hd pl') then sumS S hd x pl' ^^^ S pl' else sumS S hd x pl') (if tb x (hd pl') then sumB B hd x pl' ^^ B pl' else sumB B hd x pl')
      split
      · rw [comb_xor hN (sumS_lo hL hx pl' (by omega)) (hL.1 pl' hj).2.2]
      · rfl
    · have hz : rowAt k S B hd i = 0 := rowAt_no q
      rw [num_z hz, hn] at hn1
      subst hn1
      rw [hz, e]
      split
      · exact tb_ext (fun t _ => by rw [tb_xor, tb_0]; simp)
      · rfl
theorem redF_cg {R R' : Nat → Int64} (x : Int64) {n : Nat} (h : ∀ j, j < n → R j = R' j) : redF R x n = redF R' x n := by
  induction n with
  | zero => rfl
  | succ n ih =>
    show (if tb x n then redF R x n ^^^ R n else redF R x n) = (if tb x n then redF R' x n ^^^ R' n else redF R' x n)
    rw [ih (fun j hj => h j (by omega)), h n (by omega)]
theorem sum_eq (hr : Rel N c m E Y Z F G Gb Y8 Z8) {fr : Bool} (hf : Fresh N E c fr imp R) (th rc : Int32) (im : Bool) (S : Nat → Int64) (T : Nat → Int32) (x : Int64) :
    ∃ r s, D_X7_sum (vars N) fr (nI c) 60 E (nI N) imp N R x = some r ∧ D_X8_sum th (nI N) (nI c) rc im 60 F 60 G 60 S 60 T x = some s ∧ Fresh N E c r.2.1 r.2.2.1 r.2.2.2 ∧ ((r.1 = .inr 0 ∧ s.2.1 = 1) ∨ (r.1 = .inl s.1 ∧ s.2.1 = 0)) := by
  have hN := hr.hN
  unfold D_X7_sum D_X8_sum D_X7_areVariables vars
  by_cases hx : Lo N x
  · obtain ⟨i1, R1, e1, h1⟩ := fresh_spec hr hf
    obtain ⟨k, S1, T1, B, hd, e2, hL, hT, hk⟩ := mk_class hr h1 rc im S T
    rw [cif_pos ((isVars hN x).mpr hx), Option.bind_some, cif_pos rfl, e1, Option.bind_some, there_yes hN hx, Option.bind_some, may_tt, Option.bind_some, cif_pos rfl, e2, Option.bind_some]
    cases i1 with
    | true => exact ⟨_, _, by rw [cif_pos rfl], by rw [cif_pos rfl], fun _ => h1, Or.inr ⟨rfl, rfl⟩⟩
    | false =>
      obtain ⟨k1, k2, -⟩ := hk rfl
      rw [cif_neg (by simp), cif_neg (by simp), red_spec hN, Option.bind_some]
      have e3 : redF R1 x N = comb (sumS S1 hd x k) (sumB B hd x k) := by
        rw [redF_cg x k1]
        exact red_sum hN hL hx N (Nat.le_refl N) k (Nat.le_refl k) (fun j hj => ⟨fun _ => hj, fun _ => (hL.1 j hj).1⟩)
      have e4 := sum_loop (c := c) (F := F) (G := G) hN hL hT x x 0 false k 0 (by omega)
      have e5 : L_X8_sum_40 (nI N) (nI c) 60 F 60 G 60 60 x x 0 0 0 (nI k) false S1 T1 = _ := e4
      have hlo := sumS_lo hL hx k (Nat.le_refl k)
      have hz : (comb (sumS S1 hd x k) (sumB B hd x k) &&& (-4611686018427387905)) = sumS S1 hd x k := tb_ext (fun i hi => by
        rw [tb_and, comb_tb, tb_nR hi]
        by_cases q : i = 62
        · rw [q, hlo 62 (by omega)]; simp
        · rw [decide_eq_false q, decide_eq_true q]; simp)
      rw [e3, hz]
      by_cases z : sumS S1 hd x k = 0
      · rw [cif_pos z]
        rw [if_pos z] at e5
        rw [z]
        cases w : sumB B hd x k with
        | false =>
          rw [w] at e5
          refine ⟨_, _, by rw [cif_pos (by decide)], e5, fun _ => h1, Or.inr ⟨rfl, rfl⟩⟩
        | true =>
          rw [w] at e5
          refine ⟨_, _, by rw [cif_neg (by decide)], e5, fun _ => h1, Or.inr ⟨rfl, rfl⟩⟩
      · rw [cif_neg z]
        rw [if_neg z] at e5
        exact ⟨_, _, rfl, e5, fun _ => h1, Or.inr ⟨rfl, rfl⟩⟩
  · rw [cif_neg (fun z => hx ((isVars hN x).mp z)), Option.bind_some, cif_neg (by simp), there_no hN hx, Option.bind_some, may_f, Option.bind_some, cif_neg (by simp)]
    exact ⟨_, _, rfl, rfl, hf, Or.inl ⟨rfl, rfl⟩⟩
end ROW
