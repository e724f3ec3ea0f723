/-! BLAME: sums of equations, told by the set of their numbers -/
def lc (E : Nat → Int64) : Nat → Int64 → Int64
  | 0, _ => 0
  | n + 1, P => if tb P n then lc E n P ^^^ E n else lc E n P
theorem lc_xor (E : Nat → Int64) (n : Nat) (P Q : Int64) : lc E n (P ^^^ Q) = lc E n P ^^^ lc E n Q := by
  induction n with
  | zero => exact tb_ext (fun i _ => by show tb 0 i = tb (0 ^^^ 0) i; rw [tb_xor, tb_0]; rfl)
  | succ n ih =>
    show (if tb (P ^^^ Q) n then lc E n (P ^^^ Q) ^^^ E n else lc E n (P ^^^ Q)) = (if tb P n then lc E n P ^^^ E n else lc E n P) ^^^ (if tb Q n then lc E n Q ^^^ E n else lc E n Q)
    rw [ih, tb_xor]
    refine tb_ext (fun i _ => ?_)
    cases tb P n <;> cases tb Q n <;> simp [tb_xor] <;> cases tb (lc E n P) i <;> cases tb (lc E n Q) i <;> cases tb (E n) i <;> rfl
theorem lc_no (E : Nat → Int64) {n : Nat} {P : Int64} (h : ∀ j, j < n → tb P j = false) : lc E n P = 0 := by
  induction n with
  | zero => rfl
  | succ n ih =>
    show (if tb P n then lc E n P ^^^ E n else lc E n P) = 0
    rw [h n (by omega), if_neg (by simp)]
    exact ih (fun j hj => h j (by omega))
theorem zero_x (x : Int64) : 0 ^^^ x = x := tb_ext (fun i _ => by rw [tb_xor, tb_0]; simp)
theorem lc_bit (E : Nat → Int64) {e : Nat} (he : e < 64) : ∀ n, e < n → lc E n (jshl 1 (nI e)) = E e := by
  intro n
  induction n with
  | zero => intro h; omega
  | succ n ih =>
    intro h
    show (if tb (jshl 1 (nI e)) n then lc E n (jshl 1 (nI e)) ^^^ E n else lc E n (jshl 1 (nI e))) = E e
    rw [tb_bit he]
    by_cases q : n = e
    · subst q
      rw [decide_eq_true rfl, if_pos rfl, lc_no E (fun j hj => by rw [tb_bit he, decide_eq_false (by omega)]), zero_x]
    · rw [decide_eq_false q, if_neg (by simp)]
      exact ih (by omega)
section LC
variable {N : Nat} {E : Nat → Int64} {a : Nat → Bool}
theorem lc_dot0 {n : Nat} {P : Int64} (h : ∀ j, j < n → tb P j = true → dot N (E j) a = false) : dot N (lc E n P) a = false := by
  induction n with
  | zero => exact dot_zero (fun i _ => tb_0 i)
  | succ n ih =>
    show dot N (if tb P n then lc E n P ^^^ E n else lc E n P) a = false
    have := ih (fun j hj => h j (by omega))
    cases e : tb P n with
    | false => rw [if_neg (by simp)]; exact this
    | true => rw [if_pos rfl, dot_xor, this, h n (by omega) e]; rfl
theorem lc_dotH {e : Nat} {P : Int64} (hP : isHigh P e) (h : ∀ j, j < e → dot N (E j) a = false) : ∀ n, e < n → dot N (lc E n P) a = dot N (E e) a := by
  intro n
  induction n with
  | zero => intro h; omega
  | succ n ih =>
    intro hn
    show dot N (if tb P n then lc E n P ^^^ E n else lc E n P) a = _
    by_cases q : n = e
    · subst q
      rw [hP.1, if_pos rfl, dot_xor, lc_dot0 (fun j hj _ => h j hj)]; simp
    · rw [hP.2 n (by omega), if_neg (by simp)]
      exact ih (by omega)
theorem lc_holds {n : Nat} {P : Int64} (h : ∀ j, j < n → tb P j = true → holds N (E j) a) : holds N (lc E n P) a := by
  induction n with
  | zero => exact holds_0
  | succ n ih =>
    show holds N (if tb P n then lc E n P ^^^ E n else lc E n P) a
    have := ih (fun j hj => h j (by omega))
    cases e : tb P n with
    | false => rw [if_neg (by simp)]; exact this
    | true => rw [if_pos rfl]; exact holds_xor this (h n (by omega) e)
/-- equation e is no sum of earlier ones -/
def hInd (N : Nat) (E : Nat → Int64) (e : Nat) : Prop := ∃ a : Nat → Bool, (∀ j, j < e → dot N (E j) a = false) ∧ dot N (E e) a = true
theorem high_ex {x : Int64} (hx : x ≠ 0) : ∃ h, h < 64 ∧ isHigh x h := by
  obtain ⟨i0, h0, hl⟩ := low_ex hx
  obtain ⟨k, h1, h2⟩ := pk_least (fun i => i < 64 ∧ tb x (63 - i) = true) ⟨63 - i0, by omega, by rw [show 63 - (63 - i0) = i0 by omega]; exact hl.1⟩
  refine ⟨63 - k, by omega, h1.2, fun j hj => ?_⟩
  rcases Nat.lt_or_ge j 64 with q | q
  · cases e : tb x j with
    | false => rfl
    | true => exact absurd ⟨by omega, by rw [show 63 - (63 - j) = j by omega]; exact e⟩ (h2 (63 - j) (by omega))
  · exact tb_big q
theorem ind_zero {n : Nat} {P : Int64} (hP : ∀ j, tb P j = true → j < n ∧ hInd N E j) (hz : ∀ i, i < N → tb (lc E n P) i = false) : P = 0 := by
  refine Classical.byContradiction (fun h0 => ?_)
  obtain ⟨e, he, hH⟩ := high_ex h0
  obtain ⟨hn, a, h1, h2⟩ := hP e hH.1
  have h3 := lc_dotH (N := N) (E := E) (a := a) hH h1 n hn
  rw [h2, dot_zero hz] at h3
  cases h3
/-- a set of equations: e, and some before it that are no sums of earlier ones -/
def Parts (N : Nat) (E : Nat → Int64) (e : Nat) (P : Int64) : Prop := tb P e = true ∧ ∀ j, tb P j = true → j = e ∨ (j < e ∧ hInd N E j)
theorem Parts.high {e : Nat} {P : Int64} (h : Parts N E e P) : isHigh P e := ⟨h.1, fun j hj => by
  cases z : tb P j with
  | false => rfl
  | true => rcases h.2 j z with q | q <;> omega⟩
theorem parts_uniq {e : Nat} {P Q : Int64} (he : e < 60) (hP : Parts N E e P) (hQ : Parts N E e Q) (zP : ∀ i, i < N → tb (lc E 60 P) i = false) (zQ : ∀ i, i < N → tb (lc E 60 Q) i = false) : P = Q := by
  refine xor_zero (ind_zero (N := N) (E := E) (n := 60) (fun j hj => ?_) (fun i hi => by rw [lc_xor, tb_xor, zP i hi, zQ i hi]; rfl))
  rw [tb_xor] at hj
  have hne : j ≠ e := fun z => by rw [z, hP.1, hQ.1] at hj; cases hj
  cases z : tb P j with
  | true =>
    rcases hP.2 j z with q | q
    · exact absurd q hne
    · exact ⟨by omega, q.2⟩
  | false =>
    rw [z] at hj
    simp at hj
    rcases hQ.2 j hj with q | q
    · exact absurd q hne
    · exact ⟨by omega, q.2⟩
theorem parts_dep {e : Nat} {P : Int64} (he : e < 60) (hP : Parts N E e P) (zP : ∀ i, i < N → tb (lc E 60 P) i = false) : ¬ hInd N E e := fun ⟨a, h1, h2⟩ => by
  have h3 := lc_dotH (N := N) (E := E) (a := a) hP.high h1 60 he
  rw [h2, dot_zero zP] at h3
  cases h3
/-- rows of which each lacks the heads before it: whatever they shall be, they can be -/
theorem tri_sol {n : Nat} {R : Nat → Int64} {hd : Nat → Nat} (hN : N ≤ 64) (t : Nat → Bool) (hR : ∀ k, k < n → R k ≠ 0 → hd k < N ∧ tb (R k) (hd k) = true) (hT : ∀ i j, i < j → j < n → R i ≠ 0 → tb (R j) (hd i) = false) : ∀ d j, j + d = n → ∃ a : Nat → Bool, ∀ k, j ≤ k → k < n → R k ≠ 0 → dot N (R k) a = t k := by
  intro d
  induction d with
  | zero => intro j hj; exact ⟨fun _ => false, fun k h1 h2 => by omega⟩
  | succ d ih =>
    intro j hj
    obtain ⟨a, ha⟩ := ih (j + 1) (by omega)
    by_cases h0 : R j = 0
    · refine ⟨a, fun k h1 h2 h3 => ?_⟩
      by_cases q : k = j
      · rw [q] at h3; exact absurd h0 h3
      · exact ha k (by omega) h2 h3
    · obtain ⟨g1, g2⟩ := hR j (by omega) h0
      have key : ∃ b : Nat → Bool, b (hd j) = (a (hd j) ^^ (dot N (R j) a ^^ t j)) ∧ ∀ i, i ≠ hd j → b i = a i := ⟨fun i => if i = hd j then (a i ^^ (dot N (R j) a ^^ t j)) else a i, by simp, fun i hi => by simp [hi]⟩
      obtain ⟨b, b1, b2⟩ := key
      refine ⟨b, fun k h1 h2 h3 => ?_⟩
      by_cases q : k = j
      · subst q
        have e1 : R k = (R k ^^^ jshl 1 (nI (hd k))) ^^^ jshl 1 (nI (hd k)) := tb_ext (fun i _ => by rw [tb_xor, tb_xor]; cases tb (R k) i <;> cases tb (jshl 1 (nI (hd k))) i <;> rfl)
        have e2 : dot N (R k ^^^ jshl 1 (nI (hd k))) b = dot N (R k ^^^ jshl 1 (nI (hd k))) a := dot_congr (fun i hi e => by
          refine b2 i (fun z => ?_)
          rw [z, tb_xor, g2, tb_bit (by omega)] at e
          simp at e)
        have e3 : dot N (R k) a = (dot N (R k ^^^ jshl 1 (nI (hd k))) a ^^ a (hd k)) := by
          have : dot N (R k) a = dot N ((R k ^^^ jshl 1 (nI (hd k))) ^^^ jshl 1 (nI (hd k))) a := by rw [← e1]
          rw [this, dot_xor, dot_bit g1 hN]
        have e4 : dot N (R k) b = (dot N (R k ^^^ jshl 1 (nI (hd k))) b ^^ b (hd k)) := by
          have : dot N (R k) b = dot N ((R k ^^^ jshl 1 (nI (hd k))) ^^^ jshl 1 (nI (hd k))) b := by rw [← e1]
          rw [this, dot_xor, dot_bit g1 hN]
        rw [e4, e2, b1, e3]
        cases dot N (R k ^^^ jshl 1 (nI (hd k))) a <;> cases a (hd k) <;> cases t k <;> rfl
      · rw [← ha k (by omega) h2 h3]
        refine dot_congr (fun i hi e => b2 i (fun z => ?_))
        rw [z, hT j k (by omega) h2 h0] at e
        cases e
end LC
section CBL
variable {N e : Nat} {E H M : Nat → Int64}
/-- the class's rows of blame -/
def CB (N : Nat) (E : Nat → Int64) (e : Nat) (H M : Nat → Int64) : Prop :=
  (∀ h, h < N → H h ≠ 0 → isLow (H h) h ∧ Eq62 N (H h) ∧ H h = lc E 60 (M h) ∧ ∀ j, tb (M h) j = true → j < e ∧ hInd N E j) ∧ ∀ a, (∀ h, h < N → dot N (H h) a = false) → ∀ j, j < e → dot N (E j) a = false
theorem add_loop (hN : N ≤ 40) (he : e < 60) (hC : CB N E e H M) (x1 x3 : Int64) : ∀ (d h : Nat) (rest parts : Int64), h + d = N → (∀ i, i < h → tb rest i = false) → Eq62 N rest → rest = lc E 60 parts → Parts N E e parts → (∀ a, (∀ h, h < N → dot N (H h) a = false) → dot N rest a = dot N (E e) a) →
    ∃ y H' M', L_X0_add_9 (nI N) N N x1 x3 rest parts (nI h) H M = some (y, H', M') ∧ CB N E (e + 1) H' M' ∧
      ((hInd N E e ∧ y = 0) ∨ (¬ hInd N E e ∧ ∃ P, Parts N E e P ∧ (∀ i, i < N → tb (lc E 60 P) i = false) ∧ y = if tb (lc E 60 P) 62 then P else 0)) := by
  intro d
  induction d with
  | zero =>
    intro h rest parts hh hb h62 hlc hP hZ
    have : h = N := by omega
    subst this
    have hdep := parts_dep he hP (by rw [← hlc]; exact hb)
    refine ⟨if tb rest 62 then parts else 0, H, M, ?_, ⟨fun k hk k0 => ?_, fun a ha j hj => ?_⟩, Or.inr ⟨hdep, parts, hP, by rw [← hlc]; exact hb, by rw [← hlc]⟩⟩
    · rw [E_X0_add_9, cif_pos ((nI_leI (by omega) (by omega)).mpr (Nat.le_refl _))]
      cases z : tb rest 62 with
      | true => rw [cif_neg (fun w => by rw [w, tb_0] at z; cases z), if_pos rfl]
      | false =>
        rw [cif_pos, if_neg (by simp)]
        rw [tb_eq0]
        intro i hi
        rcases Nat.lt_or_ge i h with q | q
        · exact hb i q
        · by_cases w : i = 62
          · rw [w]; exact z
          · exact h62 i q w
    · obtain ⟨a1, a2, a3, a4⟩ := hC.1 k hk k0
      exact ⟨a1, a2, a3, fun j hj => ⟨by have := (a4 j hj).1; omega, (a4 j hj).2⟩⟩
    · rcases Nat.lt_or_ge j e with q | q
      · exact hC.2 a ha j q
      · rw [show j = e by omega, ← hZ a ha]
        exact dot_zero hb
  | succ d ih =>
    intro h rest parts hh hb h62 hlc hP hZ
    have hhN : h < N := by omega
    have vp : vp_in (nI h) N := vp_in_nI hhN (by omega)
    rw [E_X0_add_9, cif_neg (nI_ge hhN (by omega)), nI_clamp (by omega), nI_1]
    simp only [cif_pos vp]
    cases z : tb rest h with
    | false =>
      rw [cif_pos ((ju_bit (by omega)).mpr z)]
      exact ih (h + 1) rest parts (by omega) (fun i hi => by
        by_cases q : i = h
        · rw [q]; exact z
        · exact hb i (by omega)) h62 hlc hP hZ
    | true =>
      rw [cif_neg (fun w => by rw [ju_bit (by omega), z] at w; cases w)]
      have hr0 : rest ≠ 0 := fun w => by rw [w, tb_0] at z; cases z
      by_cases h0 : H h = 0
      · rw [cif_pos h0]
        have hnew : ∀ k, k < N → vp_updL H h rest k ≠ 0 → isLow (vp_updL H h rest k) k := fun k hk k0 => by
          by_cases q : k = h
          · subst q; rw [pk_uLs]; exact ⟨z, hb⟩
          · rw [pk_uLn q] at k0 ⊢; exact (hC.1 k hk k0).1
        have hind : hInd N E e := by
          obtain ⟨a, ha⟩ := tri_sol (N := N) (n := N) (R := vp_updL H h rest) (hd := fun k => k) (by omega) (fun k => decide (k = h)) (fun k hk k0 => ⟨hk, (hnew k hk k0).1⟩) (fun i j hij hj _ => by
            by_cases q : vp_updL H h rest j = 0
            · rw [q]; exact tb_0 i
            · exact (hnew j hj q).2 i hij) N 0 (by omega)
          have hz : ∀ k, k < N → dot N (H k) a = false := fun k hk => by
            by_cases q : H k = 0
            · rw [q]; exact dot_zero (fun i _ => tb_0 i)
            · have hne : k ≠ h := fun w => q (by rw [w]; exact h0)
              have := ha k (Nat.zero_le k) hk (by rw [pk_uLn hne]; exact q)
              rw [pk_uLn hne, decide_eq_false hne] at this
              exact this
          refine ⟨a, hC.2 a hz, ?_⟩
          rw [← hZ a hz]
          have := ha h (Nat.zero_le h) hhN (by rw [pk_uLs]; exact hr0)
          rw [pk_uLs] at this
          simpa using this
        refine ⟨0, vp_updL H h rest, vp_updL M h parts, rfl, ⟨fun k hk k0 => ?_, fun a ha j hj => ?_⟩, Or.inl ⟨hind, rfl⟩⟩
        · by_cases q : k = h
          · subst q
            rw [pk_uLs, pk_uLs]
            refine ⟨⟨z, hb⟩, h62, hlc, fun j hj => ?_⟩
            rcases hP.2 j hj with w | w
            · rw [w]; exact ⟨by omega, hind⟩
            · exact ⟨by omega, w.2⟩
          · rw [pk_uLn q] at k0
            rw [pk_uLn q, pk_uLn q]
            obtain ⟨a1, a2, a3, a4⟩ := hC.1 k hk k0
            exact ⟨a1, a2, a3, fun j hj => ⟨by have := (a4 j hj).1; omega, (a4 j hj).2⟩⟩
        · have hz : ∀ k, k < N → dot N (H k) a = false := fun k hk => by
            by_cases q : k = h
            · rw [q, h0]; exact dot_zero (fun i _ => tb_0 i)
            · have := ha k hk; rw [pk_uLn q] at this; exact this
          rcases Nat.lt_or_ge j e with q | q
          · exact hC.2 a hz j q
          · rw [show j = e by omega, ← hZ a hz]
            have := ha h hhN
            rw [pk_uLs] at this
            exact this
      · rw [cif_neg h0]
        obtain ⟨a1, a2, a3, a4⟩ := hC.1 h hhN h0
        refine ih (h + 1) (rest ^^^ H h) (parts ^^^ M h) (by omega) (fun i hi => ?_) (h62.xor a2) (by rw [lc_xor, ← hlc, ← a3]) ⟨?_, fun j hj => ?_⟩ (fun a ha => ?_)
        · rw [tb_xor]
          by_cases q : i = h
          · rw [q, z, a1.1]; rfl
          · rw [hb i (by omega), a1.2 i (by omega)]; rfl
        · rw [tb_xor, hP.1]
          cases w : tb (M h) e with
          | false => rfl
          | true => have := (a4 e w).1; omega
        · rw [tb_xor] at hj
          cases w : tb (M h) j with
          | true => exact Or.inr (a4 j w)
          | false => rw [w] at hj; simp at hj; exact hP.2 j hj
        · rw [dot_xor, ha h hhN, hZ a ha]; simp
end CBL
section RBL
variable {N c e : Nat} {F : Nat → Int64} {G : Nat → Int32} {Gb : Nat → Bool} {s : Nat} {SS SO : Nat → Int64} {SR : Nat → Int32} {SB : Nat → Bool} {hd : Nat → Nat}
/-- the reference's rows of blame -/
def RB (N : Nat) (E : Nat → Int64) (e s : Nat) (SS SO : Nat → Int64) (SR : Nat → Int32) (SB : Nat → Bool) (hd : Nat → Nat) : Prop :=
  (∀ k, k < s → (hd k < N ∧ isLow (SS k) (hd k) ∧ Lo N (SS k)) ∧ comb (SS k) (SB k) = lc E 60 (SO k) ∧ SR k = bI (SB k) ∧ ∀ j, tb (SO k) j = true → j < e ∧ hInd N E j) ∧ (∀ i j, i < j → j < s → tb (SS j) (hd i) = false) ∧ s ≤ e ∧ ∀ a, (∀ k, k < s → dot N (SS k) a = false) → ∀ j, j < e → dot N (E j) a = false
theorem bl_red (hN : N ≤ 40) (he : e < 60) (hR : RB N (E8 F Gb) e s SS SO SR SB hd) (w : Int64) (ei th em : Int32) (EM : Nat → Int64) : ∀ (d k : Nat) (set of : Int64) (b : Bool), k + d = s → Lo N set → (∀ i, i < k → tb set (hd i) = false) → comb set b = lc (E8 F Gb) 60 of → Parts N (E8 F Gb) e of → (∀ a, (∀ k, k < s → dot N (SS k) a = false) → dot N set a = dot N (E8 F Gb e) a) →
    ∃ set' of' b', L_X8_blame_53 (nI c) 60 F 60 G 60 60 60 60 (nI s) w ei set of (bI b) (nI k) th em SS SO SR EM = L_X8_blame_53 (nI c) 60 F 60 G 60 60 60 60 (nI s) w ei set' of' (bI b') (nI s) th em SS SO SR EM ∧
      Lo N set' ∧ (∀ i, i < s → tb set' (hd i) = false) ∧ comb set' b' = lc (E8 F Gb) 60 of' ∧ Parts N (E8 F Gb) e of' ∧ (∀ a, (∀ k, k < s → dot N (SS k) a = false) → dot N set' a = dot N (E8 F Gb e) a) := by
  intro d
  induction d with
  | zero =>
    intro k set of b hk h1 h2 h3 h4 h5
    have : k = s := by omega
    subst this
    exact ⟨set, of, b, rfl, h1, h2, h3, h4, h5⟩
  | succ d ih =>
    intro k set of b hk h1 h2 h3 h4 h5
    have hks : k < s := by omega
    have hse := hR.2.2.1
    obtain ⟨⟨g1, g2, g3⟩, g4, g5, g6⟩ := hR.1 k hks
    have vp : vp_in (nI k) 60 := vp_in_nI (by omega) (by omega)
    have hstep : L_X8_blame_53 (nI c) 60 F 60 G 60 60 60 60 (nI s) w ei set of (bI b) (nI k) th em SS SO SR EM = if tb set (hd k) then L_X8_blame_53 (nI c) 60 F 60 G 60 60 60 60 (nI s) w ei (set ^^^ SS k) (of ^^^ SO k) (bI (b ^^ SB k)) (nI (k + 1)) th em SS SO SR EM else L_X8_blame_53 (nI c) 60 F 60 G 60 60 60 60 (nI s) w ei set of (bI b) (nI (k + 1)) th em SS SO SR EM := by
      rw [E_X8_blame_53, cif_neg (nI_ge hks (by omega)), cif_pos vp, nI_clamp (by omega), lowest_spec g2, Option.bind_some, nI_1]
      cases z : tb set (hd k) with
      | false => rw [cif_pos ((hi_and (by omega)).mpr z), if_neg (by simp)]
      | true => rw [cif_neg (fun y => by rw [hi_and (by omega), z] at y; cases y), cif_pos vp, cif_pos vp, cif_pos vp, g5, bI_xor, if_pos rfl]
    rw [hstep]
    cases z : tb set (hd k) with
    | false =>
      rw [if_neg (by simp)]
      exact ih (k + 1) set of b (by omega) h1 (fun i hi => by
        by_cases q : i = k
        · rw [q]; exact z
        · exact h2 i (by omega)) h3 h4 h5
    | true =>
      rw [if_pos rfl]
      refine ih (k + 1) (set ^^^ SS k) (of ^^^ SO k) (b ^^ SB k) (by omega) (h1.xor g3) (fun i hi => ?_) (by rw [comb_xor hN h1 g3, h3, g4, lc_xor]) ⟨?_, fun j hj => ?_⟩ (fun a ha => ?_)
      · rw [tb_xor]
        by_cases q : i = k
        · rw [q, z, g2.1]; rfl
        · rw [h2 i (by omega), hR.2.1 i k (by omega) hks]; rfl
      · rw [tb_xor, h4.1]
        cases y : tb (SO k) e with
        | false => rfl
        | true => have := (g6 e y).1; omega
      · rw [tb_xor] at hj
        cases y : tb (SO k) j with
        | true => exact Or.inr (g6 j y)
        | false => rw [y] at hj; simp at hj; exact h4.2 j hj
      · rw [dot_xor, ha k hks, h5 a ha]; simp
/-- reduced keeps what stays when such a sum is added at its highest equation -/
theorem shr_0 : jshr (jshl 1 (nI 0)) 1 = 0 := by decide +kernel
theorem pow_pos' : ∀ p, p < 62 → ¬ jshl 1 (nI p) ≤ 0 := by decide +kernel
theorem pow_inj {p q : Nat} (hp : p < 64) (hq : q < 64) (h : jshl 1 (nI p) = jshl 1 (nI q)) : p = q := by
  have : tb (jshl 1 (nI p)) p = tb (jshl 1 (nI q)) p := by rw [h]
  rw [tb_bit hp, tb_bit hq] at this
  simpa using this
theorem red_in {em : Nat} (hem : em ≤ 60) {EM : Nat → Int64} {g : Nat → Nat} (hg : ∀ k, k < em → g k < 60 ∧ isHigh (EM k) (g k)) (Q : Int64 → Prop) (hQ : ∀ x k, Q x → k < em → tb x (g k) = true → Q (x ^^^ EM k)) (x1 : Int64) {p : Nat} (hp : p ≤ 60) : ∀ (d k : Nat) (left : Int64), k + d = em → Q left →
    ∃ left', L_X8_reduced_17 (nI em) 60 EM x1 left (jshl 1 (nI p)) (nI k) = L_X8_reduced_7 (nI em) 60 EM x1 left' (jshr (jshl 1 (nI p)) 1) ∧ Q left' := by
  intro d
  induction d with
  | zero =>
    intro k left hk hq
    exact ⟨left, by rw [E_X8_reduced_17, cif_pos ((nI_leI (by omega) (by omega)).mpr (by omega))], hq⟩
  | succ d ih =>
    intro k left hk hq
    have hke : k < em := by omega
    obtain ⟨g1, g2⟩ := hg k hke
    have vp : vp_in (nI k) 60 := vp_in_nI (by omega) (by omega)
    rw [E_X8_reduced_17, cif_neg (nI_ge hke (by omega)), nI_clamp (by omega), nI_1]
    simp only [cif_pos vp]
    cases z : tb left p with
    | false => exact ⟨left, by rw [cif_pos ((hi_and (by omega)).mpr z)], hq⟩
    | true =>
      rw [cif_neg (fun y => by rw [hi_and (by omega), z] at y; cases y), highest_spec (by omega) g2, Option.bind_some]
      by_cases q : g k = p
      · rw [cif_pos (by rw [q])]
        exact ih (k + 1) _ (by omega) (hQ left k hq hke (by rw [q]; exact z))
      · rw [cif_neg (fun y => q (pow_inj (by omega) (by omega) y))]
        exact ih (k + 1) left (by omega) hq
theorem red_out {em : Nat} (hem : em ≤ 60) {EM : Nat → Int64} {g : Nat → Nat} (hg : ∀ k, k < em → g k < 60 ∧ isHigh (EM k) (g k)) (Q : Int64 → Prop) (hQ : ∀ x k, Q x → k < em → tb x (g k) = true → Q (x ^^^ EM k)) (x1 : Int64) : ∀ (p : Nat) (left : Int64), p ≤ 60 → Q left → ∃ y, L_X8_reduced_7 (nI em) 60 EM x1 left (jshl 1 (nI p)) = some y ∧ Q y := by
  intro p
  induction p with
  | zero =>
    intro left hp hq
    obtain ⟨l2, e2, q2⟩ := red_in hem hg Q hQ x1 (p := 0) (by omega) em 0 left (by omega) hq
    refine ⟨l2, ?_, q2⟩
    rw [E_X8_reduced_7, cif_neg (pow_pos' 0 (by omega))]
    rw [show L_X8_reduced_17 (nI em) 60 EM x1 left (jshl 1 (nI 0)) 0 = _ from e2, shr_0, E_X8_reduced_7, cif_pos (by decide)]
  | succ p ih =>
    intro left hp hq
    obtain ⟨l2, e2, q2⟩ := red_in hem hg Q hQ x1 (p := p + 1) (by omega) em 0 left (by omega) hq
    obtain ⟨y, e3, q3⟩ := ih l2 (by omega) q2
    refine ⟨y, ?_, q3⟩
    rw [E_X8_reduced_7, cif_neg (pow_pos' (p + 1) (by omega))]
    rw [show L_X8_reduced_17 (nI em) 60 EM x1 left (jshl 1 (nI (p + 1))) 0 = _ from e2, shr1 p (by omega), e3]
theorem red8_spec {em : Nat} (hem : em ≤ 60) {EM : Nat → Int64} {g : Nat → Nat} (hg : ∀ k, k < em → g k < 60 ∧ isHigh (EM k) (g k)) (Q : Int64 → Prop) (hQ : ∀ x k, Q x → k < em → tb x (g k) = true → Q (x ^^^ EM k)) {x : Int64} (hx : Q x) : ∃ y, D_X8_reduced (nI em) 60 EM x = some y ∧ Q y := by
  unfold D_X8_reduced
  rw [show (1152921504606846976 : Int64) = jshl 1 (nI 60) by decide +kernel]
  exact red_out hem hg Q hQ x 60 x (by omega) hx
/-- the empty sums: each has a highest equation, which is a sum of earlier ones and not in the wrong sum -/
def EMok (N : Nat) (E : Nat → Int64) (e em : Nat) (EM : Nat → Int64) (w : Int64) (g : Nat → Nat) : Prop := em ≤ e ∧ ∀ k, k < em → g k < e ∧ isHigh (EM k) (g k) ∧ ¬ hInd N E (g k) ∧ tb w (g k) = false
theorem red_high {E : Nat → Int64} {em : Nat} {EM : Nat → Int64} {w : Int64} {g : Nat → Nat} (he : e < 60) (h : EMok N E e em EM w g) {x : Int64} (hx : isHigh x e) : ∃ y, D_X8_reduced (nI em) 60 EM x = some y ∧ isHigh y e := by
  have hle := h.1
  refine red8_spec (by omega) (fun k hk => ⟨by have := (h.2 k hk).1; omega, (h.2 k hk).2.1⟩) (fun x => isHigh x e) (fun x k hq hk _ => ?_) hx
  obtain ⟨g1, g2, -⟩ := h.2 k hk
  exact ⟨by rw [tb_xor, hq.1, g2.2 e g1]; rfl, fun j hj => by rw [tb_xor, hq.2 j hj, g2.2 j (by omega)]; rfl⟩
theorem red_same {E : Nat → Int64} {em : Nat} {EM : Nat → Int64} {w : Int64} {g : Nat → Nat} (he : e ≤ 60) (h : EMok N E e em EM w g) : D_X8_reduced (nI em) 60 EM w = some w := by
  have hle := h.1
  obtain ⟨y, e1, e2⟩ := red8_spec (by omega) (fun k hk => ⟨by have := (h.2 k hk).1; omega, (h.2 k hk).2.1⟩) (fun x => x = w) (fun x k hq hk z => by rw [hq, (h.2 k hk).2.2.2] at z; cases z) (rfl : w = w)
  rw [e1, e2]
theorem EMok.add {E : Nat → Int64} {em : Nat} {EM : Nat → Int64} {w y : Int64} {g : Nat → Nat} (h : EMok N E e em EM w g) (hy : isHigh y e) (hd : ¬ hInd N E e) (hw : tb w e = false) : ∃ g', EMok N E (e + 1) (em + 1) (vp_updL EM em y) w g' := by
  refine ⟨fun k => if k = em then e else g k, by have := h.1; omega, fun k hk => ?_⟩
  by_cases q : k = em
  · subst q
    simp only [if_pos, pk_uLs]
    exact ⟨by omega, hy, hd, hw⟩
  · simp only [if_neg q, pk_uLn q]
    obtain ⟨a1, a2, a3, a4⟩ := h.2 k (by omega)
    exact ⟨by omega, a2, a3, a4⟩
theorem EMok.up {E : Nat → Int64} {em : Nat} {EM : Nat → Int64} {w : Int64} {g : Nat → Nat} (h : EMok N E e em EM w g) : EMok N E (e + 1) em EM w g :=
  ⟨by have := h.1; omega, fun k hk => ⟨by have := (h.2 k hk).1; omega, (h.2 k hk).2⟩⟩
/-- one equation of the reference's blame -/
theorem bl_step (hN : N ≤ 40) (hE : EQ8 N c F G Gb) (hec : e < c) (hR : RB N (E8 F Gb) e s SS SO SR SB hd) {w : Int64} {em : Nat} {EM : Nat → Int64} {g : Nat → Nat} (hM : EMok N (E8 F Gb) e em EM w g) (hw : ∀ j, e ≤ j → tb w j = false) (th : Int32) :
    (hInd N (E8 F Gb) e ∧ ∃ SS' SO' SR' SB' hd', L_X8_blame_17 (nI c) 60 F 60 G 60 60 60 60 (nI s) w (nI e) th (nI em) SS SO SR EM = L_X8_blame_17 (nI c) 60 F 60 G 60 60 60 60 (nI (s + 1)) w (nI (e + 1)) th (nI em) SS' SO' SR' EM ∧ RB N (E8 F Gb) (e + 1) (s + 1) SS' SO' SR' SB' hd') ∨
    (¬ hInd N (E8 F Gb) e ∧ RB N (E8 F Gb) (e + 1) s SS SO SR SB hd ∧ ∃ P, Parts N (E8 F Gb) e P ∧ (∀ i, i < N → tb (lc (E8 F Gb) 60 P) i = false) ∧
      (tb (lc (E8 F Gb) 60 P) 62 = true ∧ w = 0 → L_X8_blame_17 (nI c) 60 F 60 G 60 60 60 60 (nI s) w (nI e) th (nI em) SS SO SR EM = L_X8_blame_17 (nI c) 60 F 60 G 60 60 60 60 (nI s) P (nI (e + 1)) th (nI em) SS SO SR EM) ∧
      (¬ (tb (lc (E8 F Gb) 60 P) 62 = true ∧ w = 0) → ∃ EM' g', L_X8_blame_17 (nI c) 60 F 60 G 60 60 60 60 (nI s) w (nI e) th (nI em) SS SO SR EM = L_X8_blame_17 (nI c) 60 F 60 G 60 60 60 60 (nI s) w (nI (e + 1)) th (nI (em + 1)) SS SO SR EM' ∧ EMok N (E8 F Gb) (e + 1) (em + 1) EM' w g')) := by
  have hc := hE.1
  have he : e < 60 := by omega
  obtain ⟨hFe, hGe⟩ := hE.2 e hec
  have hse := hR.2.2.1
  have hme := hM.1
  obtain ⟨set, of, b, r1, r2, r3, r4, r5, r6⟩ := bl_red (c := c) (F := F) (G := G) (Gb := Gb) hN he hR w (nI e) th (nI em) EM s 0 (F e) (jshl 1 (nI e)) (Gb e) (by omega) hFe (fun i hi => by omega) (by rw [lc_bit _ (by omega) 60 he]; rfl) ⟨by rw [tb_bit (by omega)]; simp, fun j hj => Or.inl (by rw [tb_bit (by omega)] at hj; simpa using hj)⟩ (fun a _ => dot_same (fun i hi => (comb_lt (by omega)).symm))
  have hpre : L_X8_blame_17 (nI c) 60 F 60 G 60 60 60 60 (nI s) w (nI e) th (nI em) SS SO SR EM = L_X8_blame_53 (nI c) 60 F 60 G 60 60 60 60 (nI s) w (nI e) set of (bI b) (nI s) th (nI em) SS SO SR EM := by
    rw [E_X8_blame_17, cif_neg (nI_ge hec (by omega)), cif_pos (vp_in_nI he (by omega)), cif_pos (vp_in_nI he (by omega)), nI_clamp (by omega), hGe]
    exact r1
  rw [hpre, E_X8_blame_53, cif_pos (nI_le (Nat.le_refl s) (by omega)), nI_clamp (show s < 2 ^ 31 by omega), nI_clamp (show em < 2 ^ 31 by omega)]
  simp only [nI_1, cif_pos (vp_in_nI (show s < 60 by omega) (by omega)), cif_pos (vp_in_nI (show em < 60 by omega) (by omega))]
  by_cases h0 : set = 0
  · have hz : ∀ i, i < N → tb (lc (E8 F Gb) 60 of) i = false := fun i hi => by rw [← r4, comb_lt (by omega), h0, tb_0]
    have h62 : tb (lc (E8 F Gb) 60 of) 62 = b := by rw [← r4]; exact comb_62 hN r2 b
    have hdep := parts_dep he r5 hz
    rw [cif_pos h0]
    refine Or.inr ⟨hdep, ⟨fun k hk => ?_, hR.2.1, by omega, fun a ha j hj => ?_⟩, of, r5, hz, fun ⟨q1, q2⟩ => ?_, fun q => ?_⟩
    · obtain ⟨a1, a2, a3, a4⟩ := hR.1 k hk
      exact ⟨a1, a2, a3, fun j hj => ⟨by have := (a4 j hj).1; omega, (a4 j hj).2⟩⟩
    · rcases Nat.lt_or_ge j e with q | q
      · exact hR.2.2.2 a ha j q
      · rw [show j = e by omega, ← r6 a ha, h0]
        exact dot_zero (fun i _ => tb_0 i)
    · rw [h62] at q1
      rw [q1, cif_pos bI_t, cif_pos q2]
    · rw [h62] at q
      have hst : ∀ x, isHigh x e → ∃ EM' g', (Option.bind (D_X8_reduced (nI em) 60 EM x) (fun u =>
              cif (u = (0 : Int64))
                (L_X8_blame_17 (nI c) 60 F 60 G 60 60 60 60 (nI s) w (nI (e + 1)) th (nI em) SS SO SR EM)
                (L_X8_blame_17 (nI c) 60 F 60 G 60 60 60 60 (nI s) w (nI (e + 1)) th (nI (em + 1)) SS SO SR (vp_updL EM em u)))) = L_X8_blame_17 (nI c) 60 F 60 G 60 60 60 60 (nI s) w (nI (e + 1)) th (nI (em + 1)) SS SO SR EM' ∧ EMok N (E8 F Gb) (e + 1) (em + 1) EM' w g' := by
        intro x hx
        obtain ⟨y, e1, hy⟩ := red_high he hM hx
        obtain ⟨g', hg'⟩ := hM.add hy hdep (hw e (Nat.le_refl e))
        refine ⟨vp_updL EM em y, g', ?_, hg'⟩
        rw [e1, Option.bind_some, cif_neg (fun z => by have := hy.1; rw [z, tb_0] at this; cases this)]
      cases b with
      | true =>
        have hw0 : ¬ w = 0 := fun z => q ⟨rfl, z⟩
        rw [cif_pos bI_t, cif_neg hw0]
        refine hst (of ^^^ w) ⟨by rw [tb_xor, r5.1, hw e (Nat.le_refl e)]; rfl, fun j hj => by rw [tb_xor, r5.high.2 j hj, hw j (by omega)]; rfl⟩
      | false =>
        rw [cif_neg (by decide)]
        exact hst of r5.high
  · rw [cif_neg h0]
    obtain ⟨h, hh, hH⟩ := isH_ex true hN r2 h0
    have hH : isLow set h := hH
    have hind : hInd N (E8 F Gb) e := by
      obtain ⟨a, ha⟩ := tri_sol (N := N) (n := s + 1) (R := fun k => if k = s then set else SS k) (hd := fun k => if k = s then h else hd k) (by omega) (fun k => decide (k = s)) (fun k hk _ => by
        by_cases q : k = s
        · simp only [if_pos q]; exact ⟨hh, hH.1⟩
        · simp only [if_neg q]; exact ⟨(hR.1 k (by omega)).1.1, (hR.1 k (by omega)).1.2.1.1⟩) (fun i j hij hj _ => by
        have hi : i ≠ s := by omega
        by_cases q : j = s
        · simp only [if_pos q, if_neg hi]; exact r3 i (by omega)
        · simp only [if_neg q, if_neg hi]; exact hR.2.1 i j hij (by omega)) (s + 1) 0 (by omega)
      have hz : ∀ k, k < s → dot N (SS k) a = false := fun k hk => by
        have hne : k ≠ s := by omega
        have := ha k (Nat.zero_le k) (by omega) (by
          simp only [if_neg hne]
          exact fun z => by have := (hR.1 k hk).1.2.1.1; rw [z, tb_0] at this; cases this)
        simp only [if_neg hne] at this
        rw [decide_eq_false hne] at this
        exact this
      refine ⟨a, hR.2.2.2 a hz, ?_⟩
      rw [← r6 a hz]
      have := ha s (Nat.zero_le s) (by omega) (by simp only [if_pos]; exact h0)
      simpa using this
    refine Or.inl ⟨hind, vp_updL SS s set, vp_updL SO s of, upd SR s (bI b), (fun k => if k = s then b else SB k), (fun k => if k = s then h else hd k), rfl, fun k hk => ?_, fun i j hij hj => ?_, by omega, fun a ha j hj => ?_⟩
    · by_cases q : k = s
      · subst q
        simp only [if_pos, pk_uLs, pk_us]
        refine ⟨⟨hh, hH, r2⟩, r4, trivial, fun j hj => ?_⟩
        rcases r5.2 j hj with y | y
        · rw [y]; exact ⟨by omega, hind⟩
        · exact ⟨by omega, y.2⟩
      · simp only [if_neg q, pk_uLn q, pk_un q]
        obtain ⟨a1, a2, a3, a4⟩ := hR.1 k (by omega)
        exact ⟨a1, a2, a3, fun j hj => ⟨by have := (a4 j hj).1; omega, (a4 j hj).2⟩⟩
    · have hi : i ≠ s := by omega
      by_cases q : j = s
      · subst q; simp only [if_neg hi, pk_uLs]; exact r3 i (by omega)
      · simp only [if_neg hi, pk_uLn q]; exact hR.2.1 i j hij (by omega)
    · have hz : ∀ k, k < s → dot N (SS k) a = false := fun k hk => by
        have := ha k (by omega)
        rw [pk_uLn (show k ≠ s by omega)] at this
        exact this
      rcases Nat.lt_or_ge j e with q | q
      · exact hR.2.2.2 a hz j q
      · rw [show j = e by omega, ← r6 a hz]
        have := ha s (by omega)
        rw [pk_uLs] at this
        exact this
/-- once a sum is wrong, it is the answer -/
theorem bl_after (hN : N ≤ 40) (hE : EQ8 N c F G Gb) {w : Int64} (hw0 : w ≠ 0) (th : Int32) : ∀ (d e s : Nat) (SS SO : Nat → Int64) (SR : Nat → Int32) (SB : Nat → Bool) (hd : Nat → Nat) (em : Nat) (EM : Nat → Int64) (g : Nat → Nat), e + d = c → RB N (E8 F Gb) e s SS SO SR SB hd → EMok N (E8 F Gb) e em EM w g → (∀ j, e ≤ j → tb w j = false) →
    ∃ r, L_X8_blame_17 (nI c) 60 F 60 G 60 60 60 60 (nI s) w (nI e) th (nI em) SS SO SR EM = some r ∧ r.1 = w ∧ r.2.1 = th := by
  have hc := hE.1
  intro d
  induction d with
  | zero =>
    intro e s SS SO SR SB hd em EM g he hR hM hw
    rw [E_X8_blame_17, cif_pos (nI_le (by omega) (by omega)), cif_neg hw0, red_same (by omega) hM, Option.bind_some]
    exact ⟨_, rfl, rfl, rfl⟩
  | succ d ih =>
    intro e s SS SO SR SB hd em EM g he hR hM hw
    rcases bl_step hN hE (show e < c by omega) hR hM hw th with ⟨-, SS', SO', SR', SB', hd', e1, h1⟩ | ⟨-, h1, P, -, -, -, h2⟩
    · rw [e1]
      exact ih (e + 1) (s + 1) SS' SO' SR' SB' hd' em EM g (by omega) h1 hM.up (fun j hj => hw j (by omega))
    · obtain ⟨EM', g', e2, h3⟩ := h2 (fun z => hw0 z.2)
      rw [e2]
      exact ih (e + 1) s SS SO SR SB hd (em + 1) EM' g' (by omega) h1 h3 (fun j hj => hw j (by omega))
/-- both, equation by equation -/
theorem bl_lock (hN : N ≤ 40) (hE : EQ8 N c F G Gb) {E : Nat → Int64} (hEE : ∀ j, j < c → E j = E8 F Gb j) (th : Int32) : ∀ (d e s : Nat) (H M : Nat → Int64) (SS SO : Nat → Int64) (SR : Nat → Int32) (SB : Nat → Bool) (hd : Nat → Nat) (em : Nat) (EM : Nat → Int64) (g : Nat → Nat), e + d = c → CB N (E8 F Gb) e H M → RB N (E8 F Gb) e s SS SO SR SB hd → EMok N (E8 F Gb) e em EM 0 g →
    ∃ q r, L_X0_leastSum_18 (nI N) N N (nI c) 60 E (nI e) H M = some q ∧ L_X8_blame_17 (nI c) 60 F 60 G 60 60 60 60 (nI s) 0 (nI e) th (nI em) SS SO SR EM = some r ∧ r.1 = q.1 ∧ r.2.1 = th ∧ ((∃ a, SatE N (E8 F Gb) c a) → q.1 = 0) := by
  have hc := hE.1
  intro d
  induction d with
  | zero =>
    intro e s H M SS SO SR SB hd em EM g he hC hR hM
    rw [E_X0_leastSum_18, E_X8_blame_17, cif_pos (nI_le (by omega) (by omega)), cif_pos (nI_le (by omega) (by omega)), cif_pos rfl]
    exact ⟨_, _, rfl, rfl, rfl, rfl, fun _ => rfl⟩
  | succ d ih =>
    intro e s H M SS SO SR SB hd em EM g he hC hR hM
    have hec : e < c := by omega
    have h62 : Eq62 N (E8 F Gb e) := comb_eq62 (hE.2 e hec).1 _
    obtain ⟨y, H', M', e1, hC', hy⟩ := add_loop hN (by omega) hC (E8 F Gb e) (jshl 1 (nI e)) N 0 (E8 F Gb e) (jshl 1 (nI e)) (by omega) (fun i hi => by omega) h62 (lc_bit _ (by omega) 60 (by omega)).symm ⟨by rw [tb_bit (by omega)]; simp, fun j hj => Or.inl (by rw [tb_bit (by omega)] at hj; simpa using hj)⟩ (fun a _ => rfl)
    have e1' : D_X0_add (nI N) N H N M (E e) (jshl 1 (nI e)) = some (y, H', M') := by
      unfold D_X0_add
      rw [hEE e hec]
      exact e1
    rw [E_X0_leastSum_18, cif_neg (nI_ge hec (by omega)), cif_pos (vp_in_nI (by omega) (by omega)), nI_clamp (by omega), e1', Option.bind_some, nI_1]
    have hw : ∀ j, e ≤ j → tb 0 j = false := fun j _ => tb_0 j
    rcases bl_step hN hE hec hR hM hw th with ⟨hi, SS', SO', SR', SB', hd', e2, h1⟩ | ⟨hn, h1, P, hP, zP, h2, h3⟩
    · rcases hy with ⟨-, hy⟩ | ⟨hno, -⟩
      · rw [e2, cif_pos hy]
        exact ih (e + 1) (s + 1) H' M' SS' SO' SR' SB' hd' em EM g (by omega) hC' h1 hM.up
      · exact absurd hi hno
    · rcases hy with ⟨hi, -⟩ | ⟨-, Q, hQ, zQ, hy⟩
      · exact absurd hi hn
      · have hPQ : P = Q := parts_uniq (by omega) hP hQ zP zQ
        subst hPQ
        cases z : tb (lc (E8 F Gb) 60 P) 62 with
        | true =>
          rw [z, if_pos rfl] at hy
          have hP0 : P ≠ 0 := fun w => by have := hP.1; rw [w, tb_0] at this; cases this
          rw [h2 ⟨z, rfl⟩, cif_neg (show ¬ (y, H', M').1 = 0 by rw [hy]; exact hP0)]
          have hM2 : EMok N (E8 F Gb) (e + 1) em EM P g := ⟨by have := hM.1; omega, fun k hk => by
            obtain ⟨a1, a2, a3, -⟩ := hM.2 k hk
            refine ⟨by omega, a2, a3, ?_⟩
            cases w : tb P (g k) with
            | false => rfl
            | true =>
              rcases hP.2 _ w with v | v
              · omega
              · exact absurd v.2 a3⟩
          obtain ⟨r, e3, r1, r2⟩ := bl_after hN hE hP0 th d (e + 1) s SS SO SR SB hd em EM g (by omega) h1 hM2 (fun j hj => hP.high.2 j (by omega))
          refine ⟨_, r, rfl, e3, by rw [r1, hy], r2, fun ⟨a, ha⟩ => ?_⟩
          have hh : holds N (lc (E8 F Gb) 60 P) a := lc_holds (fun j hj w => ha j (by rcases hP.2 j w with v | v <;> omega))
          unfold holds at hh
          rw [dot_zero zP, z] at hh
          cases hh
        | false =>
          rw [z, if_neg (by simp)] at hy
          obtain ⟨EM', g', e3, h4⟩ := h3 (fun w => by rw [z] at w; cases w.1)
          rw [e3, cif_pos hy]
          exact ih (e + 1) s H' M' SS SO SR SB hd (em + 1) EM' g' (by omega) hC' h1 h4
end RBL
section BLM
variable {N c m : Nat} {E Y Z F : Nat → Int64} {G : Nat → Int32} {Gb : Nat → Bool} {Y8 Z8 : Nat → Int64} {imp : Bool} {R : Nat → Int64}
theorem blame_eq (hr : Rel N c m E Y Z F G Gb Y8 Z8) {fr : Bool} (hf : Fresh N E c fr imp R) (H M : Nat → Int64) (th em : Int32) (SS SO : Nat → Int64) (SR : Nat → Int32) (EM : Nat → Int64) :
    ∃ r s, D_X7_blame fr (nI c) 60 E (nI N) imp N R (nI N) N H N M = some r ∧ D_X8_blame th (nI c) em 60 F 60 G 60 SS 60 SO 60 SR 60 EM = some s ∧ Fresh N E c r.2.1 r.2.2.1 r.2.2.2.1 ∧ r.1 = s.1 := by
  have hN := hr.hN
  obtain ⟨i1, R1, e1, h1⟩ := fresh_spec hr hf
  obtain ⟨H1, f1, g1⟩ := fill_spec (N := N) (by omega) H 0
  obtain ⟨M1, f2, g2⟩ := fill_spec (N := N) (by omega) M 0
  obtain ⟨q, r, e2, e3, e4, e5, e6⟩ := bl_lock hN hr.h8 hr.hE 0 c 0 0 H1 M1 SS SO SR (fun _ => false) (fun _ => 0) 0 EM (fun _ => 0) (by omega) ⟨fun h hh h0 => absurd (g1 h hh) h0, fun a _ j hj => by omega⟩ ⟨fun k hk => by omega, fun i j _ hj => by omega, Nat.le_refl 0, fun a _ j hj => by omega⟩ ⟨Nat.le_refl 0, fun k hk => by omega⟩
  have e7 : D_X8_blame th (nI c) em 60 F 60 G 60 SS 60 SO 60 SR 60 EM = some r := by unfold D_X8_blame; exact e3
  unfold D_X7_blame
  rw [e1, Option.bind_some]
  cases i1 with
  | true =>
    have e8 : D_X0_leastSum (nI N) N H N M (nI c) 60 E = some q := by
      unfold D_X0_leastSum
      rw [f1, Option.bind_some, f2, Option.bind_some]
      exact e2
    rw [cif_pos rfl, e8, Option.bind_some]
    exact ⟨_, r, rfl, e7, fun _ => h1, e4.symm⟩
  | false =>
    rw [cif_neg (by simp)]
    refine ⟨_, r, rfl, e7, fun _ => h1, ?_⟩
    rw [e4, e6]
    obtain ⟨a, ha, -⟩ := shape_free (by omega) h1.1 (fun _ => false)
    exact ⟨a, (SatE_cg hr.hE a).mp ((h1.2 a).mp ⟨rfl, ha⟩)⟩
end BLM
