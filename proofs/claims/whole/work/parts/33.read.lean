/-! READ, part 2: lines -/
section LIN
variable {N L : Nat} {T T8 : Nat → Int32} {NS NY NN : Nat → Int64} {NR : Nat → Int32} {ne nc : Int32}
theorem lit_lock (hN : N ≤ 40) (hL : L ≤ 500) (hT : ∀ p, p < L → T8 p = T p) (hB : ∀ p, p < L → T p ≠ -1) {isEq : Bool} {f s : Int64} {r1 : Bool} {ly ln : Int64} (h : LV N isEq f s r1 ly ln) (fa : Int32) {p : Nat} (hp : p ≤ L) :
    ∃ u w, D_X6_readLiteral (nI L) 0 (nI p) isEq f s r1 500 T (nI N) = some u ∧ D_X8_readLiteral (nI N) (nI L) 0 fa (nI p) ly ln 500 T8 isEq = some w ∧ LitO N L T isEq p fa u w := by
  have e1 := byteAt_spec (T := T) hL (show p < 2 ^ 31 by omega)
  have e2 := here_spec hL hT (show p < 2 ^ 31 by omega)
  by_cases h45 : bt L T p = 45
  · have hlt := ne_lt (by decide) h45
    refine lit_core hN hL hT hB h fa (p := p) (p0 := p + 1) (by omega) (by omega) true _ _ ?_ ?_
    · unfold D_X6_readLiteral
      rw [e1, Option.bind_some, cif_pos h45, nI_1]
    · unfold D_X8_readLiteral
      rw [e2, Option.bind_some, cif_pos h45, nI_1]
      rfl
  · refine lit_core hN hL hT hB h fa (p := p) (p0 := p) (Nat.le_refl p) hp false _ _ ?_ ?_
    · unfold D_X6_readLiteral
      rw [e1, Option.bind_some, cif_neg h45]
    · unfold D_X8_readLiteral
      rw [e2, Option.bind_some, cif_neg h45, Int32.add_zero, e2]
      rfl
theorem fault_out {fi : Int32} (h0 : ¬ fi = 0) (h1 : ¬ fi ≤ 0) (x1 : Bool) (fa at_ : Int32) (ly ln : Int64) : L_X8_readLine_55 (nI N) (nI L) 500 T8 61 61 61 61 x1 fi fa at_ ne nc ly ln NS NR NY NN = some (fi, fa, at_, ne, nc, ly, ln, NS, NR, NY, NN) := by
  rw [E_X8_readLine_55, cif_neg h0, E_X8_readLine_83, cif_neg h1]
theorem end_fail (hL : L ≤ 500) (hT : ∀ p, p < L → T8 p = T p) (x1 : Bool) (fa : Int32) (ly ln : Int64) : L_X8_readLine_55 (nI N) (nI L) 500 T8 61 61 61 61 x1 0 fa (nI L) ne nc ly ln NS NR NY NN = some (1, nI L, nI L, ne, nc, ly, ln, NS, NR, NY, NN) := by
  have hb : bt L T L = -1 := bt_end (Nat.le_refl L)
  have e2 := here_spec hL hT (show L < 2 ^ 31 by omega)
  have e3 : D_X8_readLiteral (nI N) (nI L) 0 fa (nI L) ly ln 500 T8 x1 = some (1, nI L, nI L, ly, ln) := by
    unfold D_X8_readLiteral
    rw [e2, Option.bind_some, hb, cif_neg (by decide), Int32.add_zero, e2, Option.bind_some, hb, fig8, Option.bind_some, cif_neg (by decide), fail8, Option.bind_some]
  have hs : sk L T L = L := sk_n (by rw [hb]; decide)
  rw [E_X8_readLine_55, cif_pos rfl, e2, Option.bind_some, hb, cif_neg (by decide), e3, Option.bind_some]
  rw [show D_X8_skip (nI L) (1, nI L, nI L, ly, ln).2.2.1 500 T8 = some (nI (sk L T L)) from sk8 hL hT (Nat.le_refl L), Option.bind_some, hs]
  exact fault_out (fi := 1) (by decide) (by decide) x1 _ _ _ _
theorem line_lock (hN : N ≤ 40) (hL : L ≤ 500) (hT : ∀ p, p < L → T8 p = T p) (hB : ∀ p, p < L → T p ≠ -1) (isEq : Bool) (fa : Int32) : ∀ (d p t : Nat) (f s : Int64) (r1 : Bool) (ly ln : Int64), p + d = L → t ≤ p → LV N isEq f s r1 ly ln →
    (∃ q f' s' r' ly' ln', p ≤ q ∧ q < L ∧ bt L T q = 48 ∧ LV N isEq f' s' r' ly' ln' ∧ L_X6_readLine_80 (nI L) 500 T (nI N) (nI t) 0 (nI p) isEq f s r1 = some (true, 0, nI q, isEq, f', s', r') ∧
      L_X8_readLine_55 (nI N) (nI L) 500 T8 61 61 61 61 isEq 0 fa (nI (sk L T p)) ne nc ly ln NS NR NY NN = L_X8_readLine_83 (nI N) (nI L) 500 T8 61 61 61 61 isEq 0 fa (nI q) ne nc ly' ln' NS NR NY NN) ∨
    (∃ (code : Int32) (k : Nat) (f' s' : Int64) (r' : Bool) (at' : Int32) (ly' ln' : Int64), (code = 1 ∨ code = 2) ∧ k ≤ L ∧ L_X6_readLine_80 (nI L) 500 T (nI N) (nI t) 0 (nI p) isEq f s r1 = some (false, code, nI k, isEq, f', s', r') ∧
      L_X8_readLine_55 (nI N) (nI L) 500 T8 61 61 61 61 isEq 0 fa (nI (sk L T p)) ne nc ly ln NS NR NY NN = some (code, nI k, at', ne, nc, ly', ln', NS, NR, NY, NN)) := by
  intro d
  induction d using Nat.strongRecOn with
  | ind d ih =>
    intro p t f s r1 ly ln hp ht hLV
    obtain ⟨s1, s2, s3⟩ := sk_spec (L := L) (T := T) (show p ≤ L by omega)
    have e2 := here_spec hL hT (show sk L T p < 2 ^ 31 by omega)
    have ec : L_X6_readLine_80 (nI L) 500 T (nI N) (nI t) 0 (nI p) isEq f s r1 = cif (bt L T (sk L T p) = 48) (some (true, 0, nI (sk L T p), isEq, f, s, r1)) (Option.bind (D_X6_readLiteral (nI L) 0 (nI (sk L T p)) isEq f s r1 500 T (nI N)) (fun u_35 =>
              cif (u_35.1 = true)
                (L_X6_readLine_80 (nI L) 500 T (nI N) (nI (t + 1)) u_35.2.1 u_35.2.2.1 isEq u_35.2.2.2.1 u_35.2.2.2.2.1 u_35.2.2.2.2.2)
                (some (false, u_35.2.1, u_35.2.2.1, isEq, u_35.2.2.2.1, u_35.2.2.2.2.1, u_35.2.2.2.2.2)))) := by
      rw [E_X6_readLine_80, cif_neg (show ¬ (500 : Int32) < nI t from nI_nlt (a := 500) (b := t) (by omega) (by omega)), sk6 hL (by omega), Option.bind_some, byteAt_spec hL (by omega), Option.bind_some, nI_1]
    rw [ec, E_X8_readLine_55, cif_pos rfl, e2, Option.bind_some]
    by_cases h48 : bt L T (sk L T p) = 48
    · rw [cif_pos h48, cif_pos h48]
      exact Or.inl ⟨sk L T p, f, s, r1, ly, ln, s1, ne_lt (by decide) h48, h48, hLV, rfl, rfl⟩
    · rw [cif_neg h48, cif_neg h48]
      obtain ⟨u, w, eu, ew, hO⟩ := lit_lock hN hL hT hB hLV fa s2
      rw [eu, Option.bind_some, ew, Option.bind_some]
      rcases hO with ⟨u1, q, q1, q2, u2, u3, w1, w2, w3, hLV'⟩ | ⟨u1, code, k, hc, hk, u2, u3, a, ha, w3, hw⟩
      · rw [u1, cif_pos rfl, u2, u3, w1, w2, w3, sk8 hL hT (by omega), Option.bind_some]
        rcases ih (L - q) (by omega) q (t + 1) u.2.2.2.1 u.2.2.2.2.1 u.2.2.2.2.2 w.2.2.2.1 w.2.2.2.2 (by omega) (by omega) hLV' with ⟨q', f', s', r', ly', ln', b1, b2⟩ | h2
        · exact Or.inl ⟨q', f', s', r', ly', ln', by omega, b2⟩
        · exact Or.inr h2
      · rw [u1, cif_neg (by simp), u2, u3, w3, sk8 hL hT ha, Option.bind_some]
        refine Or.inr ?_
        rcases hw with ⟨w1, w2⟩ | ⟨c1, k1, w1, a1⟩
        · rw [w1, w2]
          refine ⟨code, k, _, _, _, _, _, _, hc, hk, rfl, fault_out ?_ ?_ isEq _ _ _ _⟩
          · rcases hc with z | z <;> rw [z] <;> decide
          · rcases hc with z | z <;> rw [z] <;> decide
        · subst c1; subst k1; subst a1
          have hs : sk a T a = a := sk_n (by rw [bt_end (Nat.le_refl a)]; decide)
          rw [w1, hs]
          exact ⟨1, a, _, _, _, _, _, _, Or.inl rfl, Nat.le_refl a, rfl, end_fail hL hT isEq _ _ _⟩
/-- a line up to its 0: class and reference -/
theorem line_both (hN : N ≤ 40) (hL : L ≤ 500) (hT : ∀ p, p < L → T8 p = T p) (hB : ∀ p, p < L → T p ≠ -1) (fa : Int32) {p : Nat} (hp : p < L) (hnb : blk (bt L T p) = false) (e0 : Bool) (f0 s0 : Int64) (r0 : Bool) (ly0 ln0 : Int64) :
    (∃ q isEq f' s' r' ly' ln', p ≤ q ∧ q < L ∧ bt L T q = 48 ∧ LV N isEq f' s' r' ly' ln' ∧ D_X6_readLine (nI L) 0 (nI p) e0 f0 s0 r0 500 T (nI N) = some (true, 0, nI q, isEq, f', s', r') ∧
      D_X8_readLine (nI N) (nI L) 0 fa (nI p) ne nc ly0 ln0 500 T8 61 NS 61 NR 61 NY 61 NN = L_X8_readLine_83 (nI N) (nI L) 500 T8 61 61 61 61 isEq 0 fa (nI q) ne nc ly' ln' NS NR NY NN) ∨
    (∃ (code : Int32) (k : Nat) (e' : Bool) (f' s' : Int64) (r' : Bool) (at' : Int32) (ly' ln' : Int64), (code = 1 ∨ code = 2) ∧ k ≤ L ∧ D_X6_readLine (nI L) 0 (nI p) e0 f0 s0 r0 500 T (nI N) = some (false, code, nI k, e', f', s', r') ∧
      D_X8_readLine (nI N) (nI L) 0 fa (nI p) ne nc ly0 ln0 500 T8 61 NS 61 NR 61 NY 61 NN = some (code, nI k, at', ne, nc, ly', ln', NS, NR, NY, NN)) := by
  have e1 := byteAt_spec (T := T) hL (show p < 2 ^ 31 by omega)
  have e1' := byteAt_spec (T := T) hL (show p + 1 < 2 ^ 31 by omega)
  have e2 := here_spec hL hT (show p < 2 ^ 31 by omega)
  unfold D_X6_readLine D_X8_readLine
  rw [e1, Option.bind_some, e2, Option.bind_some]
  by_cases hx : bt L T p = 120
  · rw [cif_pos hx, cif_pos hx, cif_pos rfl, nI_1, e1', Option.bind_some, blk6, Option.bind_some, sk8 hL hT (show p + 1 ≤ L by omega)]
    cases hb : blk (bt L T (p + 1)) with
    | true =>
      rw [cif_pos rfl, parted_ok hL hT (by omega) (Or.inr hb), Option.bind_some, Option.bind_some]
      have hlt := blk_lt hb
      rcases line_lock (ne := ne) (nc := nc) (NS := NS) (NR := NR) (NY := NY) (NN := NN) hN hL hT hB true fa (L - (p + 1)) (p + 1) 0 0 0 true 0 1 (by omega) (by omega) ⟨rfl, Lo.zero, fun _ => rfl, fun z => by cases z⟩ with ⟨q, f', s', r', ly', ln', b1, b2, b3, b4, b5, b6⟩ | ⟨code, k, f', s', r', at', ly', ln', b1, b2, b3, b4⟩
      · exact Or.inl ⟨q, true, f', s', r', ly', ln', by omega, b2, b3, b4, b5, b6⟩
      · exact Or.inr ⟨code, k, true, f', s', r', at', ly', ln', b1, b2, b3, b4⟩
    | false =>
      rw [cif_neg (by simp)]
      refine Or.inr ?_
      by_cases hE : bt L T (p + 1) = -1
      · have := bt_m1 hB hE
        have hpL : p + 1 = L := by omega
        have hs : sk L T (p + 1) = L := by rw [sk_n hb, hpL]
        rw [parted_ok hL hT (by omega) (Or.inl this), Option.bind_some, Option.bind_some, hs]
        refine ⟨1, p + 1, true, 0, 0, true, nI L, 0, 1, Or.inl rfl, by omega, rfl, ?_⟩
        rw [hpL]
        exact end_fail hL hT true _ _ _
      · rw [parted_no hL hT (by omega) hE hb, fail8, Option.bind_some, Option.bind_some]
        exact ⟨1, p + 1, true, 0, 0, true, _, _, _, Or.inl rfl, by omega, rfl, fault_out (fi := 1) (by decide) (by decide) true _ _ _ _⟩
  · rw [cif_neg hx, cif_neg hx, cif_neg (by simp)]
    have hs : sk L T p = p := sk_n hnb
    rcases line_lock (ne := ne) (nc := nc) (NS := NS) (NR := NR) (NY := NY) (NN := NN) hN hL hT hB false fa (L - p) p 0 0 0 true 0 0 (by omega) (by omega) ⟨rfl, Lo.zero, (fun z => by cases z), fun _ => ⟨rfl, Lo.zero⟩⟩ with ⟨q, f', s', r', ly', ln', b1, b2, b3, b4, b5, b6⟩ | ⟨code, k, f', s', r', at', ly', ln', b1, b2, b3, b4⟩
    · rw [hs] at b6
      exact Or.inl ⟨q, false, f', s', r', ly', ln', b1, b2, b3, b4, b5, b6⟩
    · rw [hs] at b4
      exact Or.inr ⟨code, k, false, f', s', r', at', ly', ln', b1, b2, b3, b4⟩
end LIN
/-! READ, part 3: the whole tape -/
/-- equations and clauses that came -/
def NW (N c0 c : Nat) (E0 E NS : Nat → Int64) (NR : Nat → Int32) : Prop := c0 ≤ c ∧ c ≤ 60 ∧ (∀ j, j < c0 → E j = E0 j) ∧ ∀ j, c0 ≤ j → j < c → ∃ b, Lo N (NS j) ∧ NR j = bI b ∧ E j = comb (NS j) b
def NC (N m0 m : Nat) (Y0 Y Z0 Z NY NN : Nat → Int64) : Prop := m0 ≤ m ∧ m ≤ 60 ∧ (∀ k, k < m0 → Y k = Y0 k ∧ Z k = Z0 k) ∧ ∀ k, m0 ≤ k → k < m → Y k = NY k ∧ Z k = NN k ∧ Lo N (NY k) ∧ Lo N (NN k) ∧ ∀ i, tb (NY k) i = true → tb (NN k) i = false
section WHO
variable {N L c0 m0 : Nat} {T T8 : Nat → Int32} {E0 Y0 Z0 F Y8 Z8 : Nat → Int64} {G : Nat → Int32}
theorem NW.add {c : Nat} {E NS : Nat → Int64} {NR : Nat → Int32} (h : NW N c0 c E0 E NS NR) (hc : c < 60) {x : Int64} {b : Bool} (hx : Lo N x) : NW N c0 (c + 1) E0 (vp_updL E c (comb x b)) (vp_updL NS c x) (upd NR c (bI b)) := by
  obtain ⟨h1, h2, h3, h4⟩ := h
  refine ⟨by omega, by omega, fun j hj => by rw [pk_uLn (by omega)]; exact h3 j hj, fun j h5 h6 => ?_⟩
  by_cases q : j = c
  · subst q; exact ⟨b, by rw [pk_uLs]; exact hx, pk_us, by rw [pk_uLs, pk_uLs]⟩
  · rw [pk_uLn q, pk_uLn q, pk_un q]; exact h4 j h5 (by omega)
theorem NC.add {m : Nat} {Y Z NY NN : Nat → Int64} (h : NC N m0 m Y0 Y Z0 Z NY NN) (hm : m < 60) {x y : Int64} (hx : Lo N x) (hy : Lo N y) (hxy : (x &&& y) = 0) : NC N m0 (m + 1) Y0 (vp_updL Y m x) Z0 (vp_updL Z m y) (vp_updL NY m x) (vp_updL NN m y) := by
  obtain ⟨h1, h2, h3, h4⟩ := h
  refine ⟨by omega, by omega, fun j hj => by rw [pk_uLn (by omega), pk_uLn (by omega)]; exact h3 j hj, fun j h5 h6 => ?_⟩
  by_cases q : j = m
  · subst q; simp only [pk_uLs]; exact ⟨trivial, trivial, hx, hy, and_zero.mp hxy⟩
  · simp only [pk_uLn q]; exact h4 j h5 (by omega)
/-- the new ones are taken over -/
theorem cp_cl (hm0 : m0 ≤ 60) {m : Nat} (hm : m ≤ 60) (c : Int32) (l fi fa at_ : Int32) (ly ln : Int64) (F' : Nat → Int64) (G' : Nat → Int32) (NS NY NN : Nat → Int64) (NR : Nat → Int32) : ∀ (d k : Nat) (A B : Nat → Int64), k + d = m → (∀ j, A j = if m0 ≤ j ∧ j < k then NY j else Y8 j) → (∀ j, B j = if m0 ≤ j ∧ j < k then NN j else Z8 j) → m0 ≤ k →
    ∃ A' B', L_X8_read_132 (nI N) 60 60 60 60 500 T8 61 61 61 61 l (nI k) 0 (nI c0) (nI m0) 0 fi fa at_ c (nI m) ly ln F' G' A B NS NR NY NN = some (l, 0, c, nI m, 0, fi, fa, at_, c, nI m, ly, ln, F', G', A', B', NS, NR, NY, NN) ∧ (∀ j, A' j = if m0 ≤ j ∧ j < m then NY j else Y8 j) ∧ (∀ j, B' j = if m0 ≤ j ∧ j < m then NN j else Z8 j) := by
  intro d
  induction d with
  | zero =>
    intro k A B hk hA hB hmk
    have : k = m := by omega
    subst this
    refine ⟨A, B, ?_, hA, hB⟩
    rw [E_X8_read_132, cif_pos (nI_le (Nat.le_refl _) (by omega))]
  | succ d ih =>
    intro k A B hk hA hB hmk
    have v1 : vp_in (nI k) 60 := vp_in_nI (by omega) (by omega)
    have v2 : vp_in (nI k) 61 := vp_in_nI (by omega) (by omega)
    rw [E_X8_read_132, cif_neg (nI_ge (show k < m by omega) (by omega)), cif_pos v2, cif_pos v1, cif_pos v2, cif_pos v1, nI_clamp (by omega), nI_1]
    have up : ∀ (f g h : Nat → Int64), (∀ j, f j = if m0 ≤ j ∧ j < k then g j else h j) → ∀ j, vp_updL f k (g k) j = if m0 ≤ j ∧ j < k + 1 then g j else h j := fun f g h hf j => by
      by_cases q : j = k
      · subst q; rw [pk_uLs, if_pos ⟨hmk, by omega⟩]
      · rw [pk_uLn q, hf j]
        by_cases w : m0 ≤ j ∧ j < k
        · rw [if_pos w, if_pos ⟨w.1, by omega⟩]
        · rw [if_neg w, if_neg (fun z => w ⟨z.1, by omega⟩)]
    exact ih (k + 1) _ _ (by omega) (up A NY Y8 hA) (up B NN Z8 hB) (by omega)
theorem cp_eq1 (hc0 : c0 ≤ 60) (hm0 : m0 ≤ 60) {c m : Nat} (hc : c ≤ 60) (hm : m ≤ 60) (hmm : m0 ≤ m) (l fi fa at_ : Int32) (ly ln : Int64) (NS NY NN : Nat → Int64) (NR : Nat → Int32) : ∀ (d k : Nat) (A : Nat → Int64) (B : Nat → Int32), k + d = c → (∀ j, A j = if c0 ≤ j ∧ j < k then NS j else F j) → (∀ j, B j = if c0 ≤ j ∧ j < k then NR j else G j) → c0 ≤ k →
    ∃ A' B' C' D', L_X8_read_89 (nI N) 60 60 60 60 500 T8 61 61 61 61 l (nI k) 0 (nI c0) (nI m0) 0 fi fa at_ (nI c) (nI m) ly ln A B Y8 Z8 NS NR NY NN = some (l, 0, nI c, nI m, 0, fi, fa, at_, nI c, nI m, ly, ln, A', B', C', D', NS, NR, NY, NN) ∧ (∀ j, A' j = if c0 ≤ j ∧ j < c then NS j else F j) ∧ (∀ j, B' j = if c0 ≤ j ∧ j < c then NR j else G j) ∧ (∀ j, C' j = if m0 ≤ j ∧ j < m then NY j else Y8 j) ∧ (∀ j, D' j = if m0 ≤ j ∧ j < m then NN j else Z8 j) := by
  intro d
  induction d with
  | zero =>
    intro k A B hk hA hB hck
    have : k = c := by omega
    subst this
    obtain ⟨C', D', e, h1, h2⟩ := cp_cl (N := N) (c0 := c0) (T8 := T8) (Y8 := Y8) (Z8 := Z8) hm0 hm (nI k) l fi fa at_ ly ln A B NS NY NN NR (m - m0) m0 Y8 Z8 (by omega) (fun j => by rw [if_neg (fun z => by omega)]) (fun j => by rw [if_neg (fun z => by omega)]) (Nat.le_refl m0)
    refine ⟨A, B, C', D', ?_, hA, hB, h1, h2⟩
    rw [E_X8_read_89, cif_pos (nI_le (Nat.le_refl _) (by omega)), e]
  | succ d ih =>
    intro k A B hk hA hB hck
    have v1 : vp_in (nI k) 60 := vp_in_nI (by omega) (by omega)
    have v2 : vp_in (nI k) 61 := vp_in_nI (by omega) (by omega)
    rw [E_X8_read_89, cif_neg (nI_ge (show k < c by omega) (by omega)), cif_pos v2, cif_pos v1, cif_pos v2, cif_pos v1, nI_clamp (by omega), nI_1]
    refine ih (k + 1) _ _ (by omega) (fun j => ?_) (fun j => ?_) (by omega)
    · by_cases q : j = k
      · subst q; rw [pk_uLs, if_pos ⟨hck, by omega⟩]
      · rw [pk_uLn q, hA j]
        by_cases w : c0 ≤ j ∧ j < k
        · rw [if_pos w, if_pos ⟨w.1, by omega⟩]
        · rw [if_neg w, if_neg (fun z => w ⟨z.1, by omega⟩)]
    · by_cases q : j = k
      · subst q; rw [pk_us, if_pos ⟨hck, by omega⟩]
      · rw [pk_un q, hB j]
        by_cases w : c0 ≤ j ∧ j < k
        · rw [if_pos w, if_pos ⟨w.1, by omega⟩]
        · rw [if_neg w, if_neg (fun z => w ⟨z.1, by omega⟩)]
/-- what reading answers -/
def RdO (N c0 m0 : Nat) (E0 Y0 Z0 F Y8 Z8 : Nat → Int64) (G : Nat → Int32) (x : Option (Int32 × Int32 × Int32 × Bool × Int64 × Int64 × Bool × Int32 × Int32 × (Nat → Int64) × (Nat → Int64) × (Nat → Int64))) (y : Option (Int32 × Int32 × Int32 × Int32 × Int32 × Int32 × Int32 × Int32 × Int32 × Int32 × Int64 × Int64 × (Nat → Int64) × (Nat → Int32) × (Nat → Int64) × (Nat → Int64) × (Nat → Int64) × (Nat → Int32) × (Nat → Int64) × (Nat → Int64))) : Prop :=
  (∃ (l c m : Nat) (E Y Z NS NY NN : Nat → Int64) (NR : Nat → Int32) (pl : Int32) (e : Bool) (f s : Int64) (r : Bool) (fa at_ : Int32) (ly ln : Int64) (F' : Nat → Int64) (G' : Nat → Int32) (C' D' : Nat → Int64), l ≤ 600 ∧ NW N c0 c E0 E NS NR ∧ NC N m0 m Y0 Y Z0 Z NY NN ∧ x = some (nI l, 0, pl, e, f, s, r, nI c, nI m, E, Y, Z) ∧
    y = some (nI l, 0, nI c, nI m, 0, 0, fa, at_, nI c, nI m, ly, ln, F', G', C', D', NS, NR, NY, NN) ∧ (∀ j, F' j = if c0 ≤ j ∧ j < c then NS j else F j) ∧ (∀ j, G' j = if c0 ≤ j ∧ j < c then NR j else G j) ∧ (∀ j, C' j = if m0 ≤ j ∧ j < m then NY j else Y8 j) ∧ (∀ j, D' j = if m0 ≤ j ∧ j < m then NN j else Z8 j)) ∨
  (∃ (code : Int32) (k : Nat) (ec cc : Int32) (E Y Z NS NY NN : Nat → Int64) (NR : Nat → Int32) (pl : Int32) (e : Bool) (f s : Int64) (r : Bool) (fa at_ ne nc : Int32) (ly ln : Int64), k ≤ 600 ∧ (∀ j, j < c0 → E j = E0 j) ∧ (∀ j, j < m0 → Y j = Y0 j ∧ Z j = Z0 j) ∧ x = some (-1 - nI k, code, pl, e, f, s, r, ec, cc, E, Y, Z) ∧
    y = some (-1 - nI k, 0, nI c0, nI m0, 0, code, fa, at_, ne, nc, ly, ln, F, G, Y8, Z8, NS, NR, NY, NN))
theorem keep_eq {fl : Int32} {q c : Nat} {f s : Int64} {r1 : Bool} {E Y Z : Nat → Int64} (hc : c < 60) (cc : Int32) : D_X6_keepLine fl (nI q) true f s r1 (nI c) cc 60 E 60 Y 60 Z = some (true, fl, nI q, nI (c + 1), cc, vp_updL E c (comb f r1), Y, Z) := by
  have ha : ∀ x, D_X4_addEquation (nI c) 60 E x = some (true, nI (c + 1), vp_updL E c x) := fun x => by
    unfold D_X4_addEquation
    rw [cif_pos (show nI c < (60 : Int32) from nI_lt (b := 60) hc (by omega)), cif_pos (vp_in_nI hc (by omega)), nI_clamp (by omega), nI_1]
  unfold D_X6_keepLine comb
  rw [cif_pos rfl, ha, ha]
  cases r1 with
  | true => rw [cif_pos rfl, Option.bind_some, cif_pos rfl, if_pos rfl]
  | false => rw [cif_neg (by simp), Option.bind_some, cif_pos rfl, if_neg (by simp), or_zero]
theorem keep_eq_full {fl : Int32} {q : Nat} {f s : Int64} {r1 : Bool} {E Y Z : Nat → Int64} (cc : Int32) : D_X6_keepLine fl (nI q) true f s r1 (nI 60) cc 60 E 60 Y 60 Z = some (false, 3, nI q, nI 60, cc, E, Y, Z) := by
  have ha : ∀ x, D_X4_addEquation (nI 60) 60 E x = some (false, nI 60, E) := fun x => by
    unfold D_X4_addEquation
    rw [cif_neg (by decide)]
  unfold D_X6_keepLine D_X6_fail
  rw [cif_pos rfl, ha, ha]
  cases r1 with
  | true => rw [cif_pos rfl, Option.bind_some, cif_neg (by simp), Option.bind_some, cif_neg (by simp)]
  | false => rw [cif_neg (by simp), Option.bind_some, cif_neg (by simp), Option.bind_some, cif_neg (by simp)]
theorem keep_cl {fl : Int32} {q m : Nat} {f s : Int64} {r1 : Bool} {E Y Z : Nat → Int64} (hm : m < 60) (hfs : (f &&& s) = 0) (ec : Int32) : D_X6_keepLine fl (nI q) false f s r1 ec (nI m) 60 E 60 Y 60 Z = some (true, fl, nI q, ec, nI (m + 1), E, vp_updL Y m f, vp_updL Z m s) := by
  unfold D_X6_keepLine D_X4_addClause
  rw [cif_neg (by simp), cif_pos hfs, cif_pos (show nI m < (60 : Int32) from nI_lt (b := 60) hm (by omega)), cif_pos (vp_in_nI hm (by omega)), cif_pos (vp_in_nI hm (by omega)), nI_clamp (by omega), nI_1, Option.bind_some, cif_pos rfl]
theorem keep_cl_full {fl : Int32} {q : Nat} {f s : Int64} {r1 : Bool} {E Y Z : Nat → Int64} (hfs : (f &&& s) = 0) (ec : Int32) : D_X6_keepLine fl (nI q) false f s r1 ec (nI 60) 60 E 60 Y 60 Z = some (false, 3, nI q, ec, nI 60, E, Y, Z) := by
  unfold D_X6_keepLine D_X4_addClause D_X6_fail
  rw [cif_neg (by simp), cif_pos hfs, cif_neg (by decide), Option.bind_some, cif_neg (by simp), Option.bind_some, cif_neg (by simp)]
theorem keep_out {fl : Int32} {q : Nat} {f s : Int64} {r1 : Bool} {E Y Z : Nat → Int64} (hfs : ¬ (f &&& s) = 0) (ec cc : Int32) : D_X6_keepLine fl (nI q) false f s r1 ec cc 60 E 60 Y 60 Z = some (true, fl, nI q, ec, cc, E, Y, Z) := by
  unfold D_X6_keepLine
  rw [cif_neg (by simp), cif_neg hfs]
theorem fault_37 (l : Int32) {code : Int32} (h0 : ¬ code = 0) (h1 : ¬ code ≤ 0) (fa at_ ne nc : Int32) (ly ln : Int64) (NS NY NN : Nat → Int64) (NR : Nat → Int32) : L_X8_read_37 (nI N) 60 60 60 60 500 T8 61 61 61 61 l 0 (nI c0) (nI m0) (nI L) code fa at_ ne nc ly ln F G Y8 Z8 NS NR NY NN = some (-1 - fa, 0, nI c0, nI m0, 0, code, fa, at_, ne, nc, ly, ln, F, G, Y8, Z8, NS, NR, NY, NN) := by
  rw [E_X8_read_37, cif_neg h0, cif_neg h1]
theorem lB_i (b : Bool) : (lB b).toInt32 = bI b := by cases b <;> decide
theorem read_lock (hN : N ≤ 40) (hL : L ≤ 500) (hT : ∀ p, p < L → T8 p = T p) (hB : ∀ p, p < L → T p ≠ -1) (hc0 : c0 ≤ 60) (hm0 : m0 ≤ 60) : ∀ (d p t l : Nat) (e : Bool) (f s : Int64) (r : Bool) (c m : Nat) (E Y Z : Nat → Int64) (fa : Int32) (ly ln : Int64) (NS NY NN : Nat → Int64) (NR : Nat → Int32), p + d = L → t ≤ p → l ≤ t → NW N c0 c E0 E NS NR → NC N m0 m Y0 Y Z0 Z NY NN →
    RdO N c0 m0 E0 Y0 Z0 F Y8 Z8 G (L_X6_readLines_15 (nI L) 500 T 60 60 60 (nI N) (nI l) (nI t) 0 (nI p) e f s r (nI c) (nI m) E Y Z) (L_X8_read_37 (nI N) 60 60 60 60 500 T8 61 61 61 61 (nI l) 0 (nI c0) (nI m0) (nI L) 0 fa (nI (sk L T p)) (nI c) (nI m) ly ln F G Y8 Z8 NS NR NY NN) := by
  intro d
  induction d using Nat.strongRecOn with
  | ind d ih =>
    intro p t l e f s r c m E Y Z fa ly ln NS NY NN NR hp ht hl hW hC
    obtain ⟨s1, s2, s3⟩ := sk_spec (L := L) (T := T) (show p ≤ L by omega)
    have hc1 := hW.1
    have hc2 := hW.2.1
    have hm1 := hC.1
    have hm2 := hC.2.1
    rw [E_X6_readLines_15, cif_neg (show ¬ (500 : Int32) < nI t from nI_nlt (a := 500) (b := t) (by omega) (by omega)), sk6 hL (by omega), Option.bind_some, E_X8_read_37, cif_pos rfl]
    rcases Nat.lt_or_ge (sk L T p) L with hlt | hge
    · rw [cif_pos (nI_lt hlt (by omega)), cif_neg (nI_ge hlt (by omega))]
      rcases line_both (ne := nI c) (nc := nI m) (NS := NS) (NR := NR) (NY := NY) (NN := NN) hN hL hT hB fa hlt s3 e f s r ly ln with ⟨q, isEq, f', s', r', ly', ln', b1, b2, b3, b4, b5, b6⟩ | ⟨code, k, e', f', s', r', at', ly', ln', b1, b2, b3, b4⟩
      · -- a line up to its 0
        rw [b5, Option.bind_some, cif_pos rfl, b6]
        dsimp only
        obtain ⟨v1, v2, v3, v4⟩ := b4
        -- behind the 0
        have after : ∀ (c' m' : Nat) (E' Y' Z' NS' NY' NN' : Nat → Int64) (NR' : Nat → Int32), NW N c0 c' E0 E' NS' NR' → NC N m0 m' Y0 Y' Z0 Z' NY' NN' → RdO N c0 m0 E0 Y0 Z0 F Y8 Z8 G
            (Option.bind (D_X6_passZero (nI L) 0 (nI q) 500 T) (fun u_15 =>
              cif (u_15.1 = true)
                (L_X6_readLines_15 (nI L) 500 T 60 60 60 (nI N) (nI l + 1) (nI t + 1) u_15.2.1 u_15.2.2 isEq f' s' r' (nI c') (nI m') E' Y' Z')
                (some ((-1 : Int32) - u_15.2.2, u_15.2.1, u_15.2.2, isEq, f', s', r', nI c', nI m', E', Y', Z'))))
            (Option.bind (L_X8_readLine_233 (nI N) (nI L) 500 T8 61 61 61 61 0 fa (nI q) (nI c') (nI m') ly' ln' NS' NR' NY' NN') (fun u_11 =>
          L_X8_read_37 (nI N) 60 60 60 60 500 T8 61 61 61 61 (nI l + 1) 0 (nI c0) (nI m0) (nI L) u_11.1 u_11.2.1 u_11.2.2.1 u_11.2.2.2.1 u_11.2.2.2.2.1 u_11.2.2.2.2.2.1 u_11.2.2.2.2.2.2.1 F G Y8 Z8 u_11.2.2.2.2.2.2.2.1 u_11.2.2.2.2.2.2.2.2.1 u_11.2.2.2.2.2.2.2.2.2.1 u_11.2.2.2.2.2.2.2.2.2.2)) := by
          intro c' m' E' Y' Z' NS' NY' NN' NR' hW' hC'
          rw [E_X8_readLine_233, nI_1, nI_1, nI_1]
          unfold D_X6_passZero
          rw [nI_1, byteAt_spec hL (show q + 1 < 2 ^ 31 by omega), Option.bind_some, blk6, Option.bind_some, sk8 hL hT (show q + 1 ≤ L by omega)]
          have go := ih (L - (q + 1)) (by omega) (q + 1) (t + 1) (l + 1) isEq f' s' r' c' m' E' Y' Z' fa ly' ln' NS' NY' NN' NR' (by omega) (by omega) (by omega) hW' hC'
          by_cases hE : bt L T (q + 1) = -1
          · rw [cif_pos hE, Option.bind_some, cif_pos rfl, parted_ok hL hT (by omega) (Or.inl (bt_m1 hB hE)), Option.bind_some, Option.bind_some, Option.bind_some]
            exact go
          · rw [cif_neg hE]
            cases hb : blk (bt L T (q + 1)) with
            | true =>
              rw [cif_pos rfl, Option.bind_some, cif_pos rfl, parted_ok hL hT (by omega) (Or.inr hb), Option.bind_some, Option.bind_some, Option.bind_some]
              exact go
            | false =>
              unfold D_X6_fail
              rw [cif_neg (by simp), Option.bind_some, cif_neg (by simp), Option.bind_some, cif_neg (by simp), parted_no hL hT (by omega) hE hb, fail8, Option.bind_some, Option.bind_some, Option.bind_some]
              dsimp only
              rw [fault_37 _ (by decide) (by decide)]
              exact Or.inr ⟨1, q + 1, _, _, E', Y', Z', _, _, _, _, _, _, _, _, _, _, _, _, _, _, _, by omega, hW'.2.2.1, hC'.2.2.1, rfl, rfl⟩
        rw [E_X8_readLine_83, cif_pos (by decide)]
        cases isEq with
        | true =>
          rw [cif_pos rfl]
          have v3 := v3 rfl
          subst v1; subst v3
          by_cases h60 : c = 60
          · subst h60
            rw [keep_eq_full, Option.bind_some, cif_neg (by simp), cif_pos (show nI 60 = 60 by decide), fail8, Option.bind_some, Option.bind_some]
            dsimp only
            rw [fault_37 _ (by decide) (by decide)]
            exact Or.inr ⟨3, q, _, _, E, Y, Z, _, _, _, _, _, _, _, _, _, _, _, _, _, _, _, by omega, hW.2.2.1, hC.2.2.1, rfl, rfl⟩
          · have hclt : c < 60 := by omega
            rw [keep_eq hclt, Option.bind_some, cif_pos rfl, cif_neg (show ¬ nI c = 60 from fun z => h60 ((nI_eq (b := 60) (by omega) (by omega)).mp z)), E_X8_readLine_149, cif_pos rfl, cif_pos (vp_in_nI (show c < 61 by omega) (by omega)), cif_pos (vp_in_nI (show c < 61 by omega) (by omega)), nI_clamp (by omega), nI_1 c, lB_i]
            exact after (c + 1) m _ Y Z _ NY NN _ (hW.add hclt v2) hC
        | false =>
          rw [cif_neg (by simp)]
          obtain ⟨v4, v5⟩ := v4 rfl
          subst v1; subst v4
          by_cases hfs : (f' &&& s') = 0
          · rw [cif_pos hfs]
            by_cases h60 : m = 60
            · subst h60
              rw [keep_cl_full hfs, Option.bind_some, cif_neg (by simp), cif_pos (show nI 60 = 60 by decide), fail8, Option.bind_some, Option.bind_some]
              dsimp only
              rw [fault_37 _ (by decide) (by decide)]
              exact Or.inr ⟨3, q, _, _, E, Y, Z, _, _, _, _, _, _, _, _, _, _, _, _, _, _, _, by omega, hW.2.2.1, hC.2.2.1, rfl, rfl⟩
            · have hmlt : m < 60 := by omega
              rw [keep_cl hmlt hfs, Option.bind_some, cif_pos rfl, cif_neg (show ¬ nI m = 60 from fun z => h60 ((nI_eq (b := 60) (by omega) (by omega)).mp z)), E_X8_readLine_149, cif_neg (by simp), cif_neg (by simp), cif_pos (vp_in_nI (show m < 61 by omega) (by omega)), cif_pos (vp_in_nI (show m < 61 by omega) (by omega)), nI_clamp (by omega), nI_1 m]
              exact after c (m + 1) E _ _ NS _ _ NR hW (hC.add hmlt v2 v5 hfs)
          · rw [cif_neg hfs, keep_out hfs, Option.bind_some, cif_pos rfl, E_X8_readLine_149, cif_neg (by simp), cif_pos rfl]
            exact after c m E Y Z NS NY NN NR hW hC
      · rw [b3, Option.bind_some, cif_neg (by simp), b4, Option.bind_some]
        dsimp only
        have z0 : ¬ code = 0 := by rcases b1 with z | z <;> rw [z] <;> decide
        have z1 : ¬ code ≤ 0 := by rcases b1 with z | z <;> rw [z] <;> decide
        rw [fault_37 _ z0 z1]
        exact Or.inr ⟨code, k, _, _, E, Y, Z, _, _, _, _, _, _, _, _, _, _, _, _, _, _, _, by omega, hW.2.2.1, hC.2.2.1, rfl, rfl⟩
    · have hsL : sk L T p = L := by omega
      rw [hsL, cif_neg (nI_nlt (Nat.le_refl L) (by omega)), cif_pos (nI_le (Nat.le_refl L) (by omega)), cif_pos (by decide)]
      obtain ⟨A', B', C', D', e9, g1, g2, g3, g4⟩ := cp_eq1 (N := N) (T8 := T8) (F := F) (G := G) (Y8 := Y8) (Z8 := Z8) hc0 hm0 hc2 hm2 hm1 (nI l) 0 fa (nI L) ly ln NS NY NN NR (c - c0) c0 F G (by omega) (fun j => by rw [if_neg (fun z => by omega)]) (fun j => by rw [if_neg (fun z => by omega)]) (Nat.le_refl c0)
      rw [e9]
      exact Or.inl ⟨l, c, m, E, Y, Z, NS, NY, NN, NR, _, _, _, _, _, _, _, _, _, A', B', C', D', by omega, hW, hC, rfl, rfl, g1, g2, g3, g4⟩
end WHO
section REQ
variable {N L c m : Nat} {T T8 : Nat → Int32} {E Y Z F : Nat → Int64} {G : Nat → Int32} {Gb : Nat → Bool} {Y8 Z8 : Nat → Int64}
theorem neg_nI {k : Nat} (hk : k ≤ 600) : ¬ (0 : Int32) ≤ -1 - nI k := by
  rw [show (-1 : Int32) - nI k = -(nI (k + 1)) by rw [← nI_1, Int32.neg_add, Int32.sub_eq_add_neg, Int32.add_comm, ← Int32.sub_eq_add_neg]]
  intro h
  rw [Int32.le_iff_toInt_le] at h
  have e : (-(nI (k + 1))).toInt = -((k + 1 : Nat) : Int) := by
    rw [Int32.toInt_neg, nI_toInt (by omega)]
    have : (-((k + 1 : Nat) : Int)).bmod (2 ^ 32) = -((k + 1 : Nat) : Int) := Int.bmod_eq_of_le (by omega) (by omega)
    exact this
  rw [e, show (0 : Int32).toInt = 0 by decide] at h
  omega
/-- read: what it answers, and what is held behind it -/
theorem read_eq (hr : Rel N c m E Y Z F G Gb Y8 Z8) (hL : L ≤ 500) (hT : ∀ p, p < L → T8 p = T p) (hB : ∀ p, p < L → T p ≠ -1) (rf gf : Bool) (lf tf tp : Int32) (te : Bool) (t1 t2 : Int64) (tr : Bool) (th fi fa at_ ne nc : Int32) (ly ln : Int64) (NS NY NN : Nat → Int64) (NR : Nat → Int32) :
    ∃ r s c' m' Gb', D_X7_read (nI N) rf gf lf (nI c) (nI m) 60 E 60 Y 60 Z (nI L) tf tp te t1 t2 tr 500 T = some r ∧ D_X8_read th (nI N) (nI c) (nI m) (nI L) fi fa at_ ne nc ly ln 60 F 60 G 60 Y8 60 Z8 500 T8 61 NS 61 NR 61 NY 61 NN = some s ∧
      r.1 = s.1 ∧ r.2.1 = false ∧ r.2.2.1 = false ∧ r.2.2.2.1 = s.2.2.2.2.2.1 ∧ r.2.2.2.2.1 = nI c' ∧ s.2.2.1 = nI c' ∧ r.2.2.2.2.2.1 = nI m' ∧ s.2.2.2.1 = nI m' ∧ r.2.2.2.2.2.2.2.2.2.1 = 0 ∧ s.2.2.2.2.1 = 0 ∧
      Rel N c' m' r.2.2.2.2.2.2.1 r.2.2.2.2.2.2.2.1 r.2.2.2.2.2.2.2.2.1 s.2.2.2.2.2.2.2.2.2.2.2.2.1 s.2.2.2.2.2.2.2.2.2.2.2.2.2.1 Gb' s.2.2.2.2.2.2.2.2.2.2.2.2.2.2.1 s.2.2.2.2.2.2.2.2.2.2.2.2.2.2.2.1 := by
  have hO := read_lock (N := N) (L := L) (c0 := c) (m0 := m) (T := T) (T8 := T8) (E0 := E) (Y0 := Y) (Z0 := Z) (F := F) (Y8 := Y8) (Z8 := Z8) (G := G) hr.hN hL hT hB hr.hc hr.hm L 0 0 0 te t1 t2 tr c m E Y Z fa ly ln NS NY NN NR (by omega) (Nat.le_refl 0) (Nat.le_refl 0) ⟨Nat.le_refl c, hr.hc, fun j _ => rfl, fun j h1 h2 => by omega⟩ ⟨Nat.le_refl m, hr.hm, fun j _ => ⟨rfl, rfl⟩, fun j h1 h2 => by omega⟩
  unfold D_X7_read D_X6_readLines D_X8_read
  rw [show D_X8_skip (nI L) 0 500 T8 = some (nI (sk L T 0)) from sk8 hL hT (p := 0) (Nat.zero_le L), Option.bind_some]
  rcases hO with ⟨l, c', m', E', Y', Z', NS', NY', NN', NR', pl, e', f', s', r', fa', at', ly', ln', F', G', C', D', hl, hW, hC, ex, ey, g1, g2, g3, g4⟩ | ⟨code, k, ec, cc, E', Y', Z', NS', NY', NN', NR', pl, e', f', s', r', fa', at', ne', nc', ly', ln', hk, hE', hY', ex, ey⟩
  · rw [show L_X6_readLines_15 (nI L) 500 T 60 60 60 (nI N) 0 0 0 0 te t1 t2 tr (nI c) (nI m) E Y Z = _ from ex, Option.bind_some, cif_pos (nI_pos' (show l < 2 ^ 31 by omega))]
    unfold D_X7_forget
    rw [Option.bind_some]
    refine ⟨_, _, c', m', fun j => if j < c then Gb j else decide (NR' j = 1), rfl, ey, rfl, rfl, rfl, rfl, rfl, rfl, rfl, rfl, rfl, rfl, ⟨hr.1, ⟨hW.2.1, hC.2.1⟩, fun j hj => ?_, ⟨hW.2.1, fun j hj => ?_⟩, fun j hj => ?_, fun j hj => ?_⟩⟩
    · show E' j = comb (F' j) (if j < c then Gb j else decide (NR' j = 1))
      rw [g1 j]
      rcases Nat.lt_or_ge j c with w | w
      · rw [if_neg (fun z => by omega), if_pos w, hW.2.2.1 j w]; exact hr.hE j w
      · rw [if_pos ⟨w, hj⟩, if_neg (by omega)]
        obtain ⟨b, a1, a2, a3⟩ := hW.2.2.2 j w hj
        rw [a3, a2]
        congr 1
        cases b <;> decide
    · show Lo N (F' j) ∧ G' j = bI (if j < c then Gb j else decide (NR' j = 1))
      rw [g1 j, g2 j]
      rcases Nat.lt_or_ge j c with w | w
      · rw [if_neg (fun z => by omega), if_neg (fun z => by omega), if_pos w]; exact hr.h8.2 j w
      · rw [if_pos ⟨w, hj⟩, if_pos ⟨w, hj⟩, if_neg (by omega)]
        obtain ⟨b, a1, a2, a3⟩ := hW.2.2.2 j w hj
        refine ⟨a1, ?_⟩
        rw [a2]
        cases b <;> decide
    · show Y' j = C' j ∧ Z' j = D' j
      rw [g3 j, g4 j]
      rcases Nat.lt_or_ge j m with w | w
      · rw [if_neg (fun z => by omega), if_neg (fun z => by omega), (hC.2.2.1 j w).1, (hC.2.2.1 j w).2]; exact hr.hY j w
      · rw [if_pos ⟨w, hj⟩, if_pos ⟨w, hj⟩]
        obtain ⟨a1, a2, -⟩ := hC.2.2.2 j w hj
        exact ⟨a1, a2⟩
    · show Lo N (C' j) ∧ Lo N (D' j) ∧ ∀ i, tb (C' j) i = true → tb (D' j) i = false
      rw [g3 j, g4 j]
      rcases Nat.lt_or_ge j m with w | w
      · rw [if_neg (fun z => by omega), if_neg (fun z => by omega)]; exact hr.hC8 j w
      · rw [if_pos ⟨w, hj⟩, if_pos ⟨w, hj⟩]
        exact (hC.2.2.2 j w hj).2.2
  · rw [show L_X6_readLines_15 (nI L) 500 T 60 60 60 (nI N) 0 0 0 0 te t1 t2 tr (nI c) (nI m) E Y Z = _ from ex, Option.bind_some, cif_neg (neg_nI hk)]
    unfold D_X7_forget D_X4_cutTo
    rw [Option.bind_some, Option.bind_some]
    refine ⟨_, _, c, m, Gb, rfl, ey, rfl, rfl, rfl, rfl, rfl, rfl, rfl, rfl, rfl, rfl, ⟨hr.1, hr.2.1, fun j hj => ?_, hr.h8, fun j hj => ?_, hr.hC8⟩⟩
    · show E' j = E8 F Gb j
      rw [hE' j hj]; exact hr.hE j hj
    · show Y' j = Y8 j ∧ Z' j = Z8 j
      rw [(hY' j hj).1, (hY' j hj).2]; exact hr.hY j hj
end REQ
