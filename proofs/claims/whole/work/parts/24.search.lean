/-! THE SEARCH: the class's pile beside the reference's waiting list -/
theorem nI_m1 (n : Nat) : nI (n + 1) + (-1) = nI n := by
  have := nI_pred n
  rw [Int32.sub_eq_add_neg] at this
  exact this
theorem nI_p2 (n : Nat) : nI n + 2 = nI (n + 2) := nI_add n 2
section SEA
variable {N c m : Nat} {E Y Z F : Nat → Int64} {G : Nat → Int32} {Gb : Nat → Bool} {Y8 Z8 : Nat → Int64} {tk on : Int64} {imp : Bool} {R : Nat → Int64}
theorem open_low (hN : N ≤ 40) (hw : Lo N tk) : ∃ h, h ≤ N ∧ isLow (tk ^^^ (-1)) h ∧ tb tk h = false ∧ ∀ j, j < h → tb tk j = true := by
  obtain ⟨h, h1, h2⟩ := pk_least (fun i => tb tk i = false) ⟨N, hw N (Nat.le_refl N)⟩
  have hle : h ≤ N := by
    rcases Nat.lt_or_ge N h with q | q
    · exact absurd (hw N (Nat.le_refl N)) (h2 N q)
    · exact q
  have hb : ∀ j, j < h → tb tk j = true := fun j hj => by
    cases e : tb tk j with
    | true => rfl
    | false => exact absurd e (h2 j hj)
  refine ⟨h, hle, ⟨?_, fun j hj => ?_⟩, h1, hb⟩
  · rw [tb_not _ (by omega), h1]; rfl
  · rw [tb_not _ (by omega), hb j hj]; rfl
theorem lo_spec {h : Nat} (hl : isLow (tk ^^^ (-1)) h) : D_X5_leastOpen tk = some (nI h) := by
  unfold D_X5_leastOpen
  rw [lp_low hl]; rfl
theorem full_no {h : Nat} (hN : N ≤ 40) (hl : isLow (tk ^^^ (-1)) h) (hh : h < N) : D_X5_isFull (nI N) tk = some false := by
  unfold D_X5_isFull
  rw [lo_spec hl, Option.bind_some, cif_pos ((nI_ltI (by omega) (by omega)).mpr hh)]
theorem full_yes {h : Nat} (hN : N ≤ 40) (hl : isLow (tk ^^^ (-1)) h) (hh : h = N) : D_X5_isFull (nI N) tk = some true := by
  unfold D_X5_isFull
  rw [lo_spec hl, Option.bind_some, cif_neg (fun z => by have := (nI_ltI (by omega) (by omega)).mp z; omega)]
theorem cnt_all (h : ∀ j, j < N → tb tk j = true) : cnt N tk = N := by
  induction N with
  | zero => rfl
  | succ n ih =>
    show cnt n tk + (if tb tk n then 1 else 0) = n + 1
    rw [ih (fun j hj => h j (by omega)), h n (by omega)]; rfl
theorem cnt_some {h : Nat} (hh : h < N) (e : tb tk h = false) : cnt N tk < N := by
  have := cnt_lt (N := N) (x := tk) (y := -1) (k := h) (fun i hi _ => ?_) hh e
  · rcases Nat.lt_or_ge h 64 with q | q
    · have := this (tb_m1 h q)
      have := cnt_le N (-1)
      omega
    · have e2 : cnt N tk ≤ cnt 64 tk := by
        have : ∀ d, cnt (64 + d) tk = cnt 64 tk := by
          intro d
          induction d with
          | zero => rfl
          | succ d ih =>
            show cnt (64 + d) tk + (if tb tk (64 + d) then 1 else 0) = _
            rw [ih, tb_big (by omega)]; rfl
        have := this (N - 64)
        rw [show 64 + (N - 64) = N by omega] at this
        omega
      have := cnt_le 64 tk
      omega
  · rcases Nat.lt_or_ge i 64 with q | q
    · exact tb_m1 i q
    · next e => rw [tb_big q] at e; cases e
def Pile (N : Nat) (E : Nat → Int64) (c p : Nat) (PR PT PO WT WO : Nat → Int64) : Prop :=
  ∀ j, j < p → ∃ h, h < N ∧ isLow (PT j ^^^ (-1)) h ∧ tb (PT j) h = false ∧ TI N E c (PT j) (PO j) false (fun i => PR (j * N + i)) ∧ j ≤ cnt N (PT j) ∧ WT j = addT (PT j) h ∧ WO j = addO (PO j) h true
theorem sq_le (hN : N ≤ 40) : N * N ≤ 1600 := Nat.mul_le_mul hN hN
theorem unpile_0 (t1 o1 : Int64) (i1 : Bool) (R1 PR PT PO : Nat → Int64) : D_X3_unpile (nI N) (nI 0) t1 o1 i1 N R1 (N * N) PR N PT N PO = some (false, nI 0, t1, o1, i1, R1) := by
  unfold D_X3_unpile
  rw [cif_neg (by decide)]
theorem unpile_s (hN : N ≤ 40) {p : Nat} (hp : p < N) (t1 o1 : Int64) (i1 : Bool) (R1 PR PT PO : Nat → Int64) : ∃ R', D_X3_unpile (nI N) (nI (p + 1)) t1 o1 i1 N R1 (N * N) PR N PT N PO = some (true, nI p, PT p, PO p, false, R') ∧ ∀ i, i < N → R' i = PR (p * N + i) := by
  have hs := sq_le hN
  have hm : (p + 1) * N ≤ N * N := Nat.mul_le_mul_right N hp
  rw [Nat.succ_mul] at hm
  refine ⟨va_cpy PR R1 (p * N) 0 N, ?_, fun i hi => ?_⟩
  · unfold D_X3_unpile
    rw [nI_pred, nI_mul, nI_clamp (show p * N < 2 ^ 31 by omega), nI_clamp (show N < 2 ^ 31 by omega), nI_clamp (show p < 2 ^ 31 by omega), show (0 : Int32).toNatClampNeg = 0 from rfl]
    rw [cif_pos (show (0 : Int32) < nI (p + 1) from nI_lt (a := 0) (Nat.succ_pos p) (by omega)), cif_pos ⟨nI_pos (by omega), by decide, nI_pos (by omega), by omega, by omega⟩, cif_pos (vp_in_nI hp (by omega)), cif_pos (vp_in_nI hp (by omega))]
  · rw [pk_cpy_in (Nat.zero_le i) (by omega)]
    congr 1
theorem pile_s (hN : N ≤ 40) {p : Nat} (hp : p < N) (t1 o1 : Int64) (R1 PR PT PO : Nat → Int64) : D_X3_pile (nI N) (nI p) t1 o1 N R1 (N * N) PR N PT N PO = some (nI (p + 1), va_cpy R1 PR 0 (p * N) N, vp_updL PT p t1, vp_updL PO p o1) := by
  have hs := sq_le hN
  have hm : (p + 1) * N ≤ N * N := Nat.mul_le_mul_right N hp
  rw [Nat.succ_mul] at hm
  unfold D_X3_pile
  rw [nI_mul, nI_clamp (show p * N < 2 ^ 31 by omega), nI_clamp (show N < 2 ^ 31 by omega), nI_clamp (show p < 2 ^ 31 by omega), show (0 : Int32).toNatClampNeg = 0 from rfl, nI_1]
  rw [cif_neg (nI_ge hp (by omega)), cif_pos ⟨by decide, nI_pos (by omega), nI_pos (by omega), by omega, by omega⟩, cif_pos (vp_in_nI hp (by omega)), cif_pos (vp_in_nI hp (by omega))]
/-- what both searches answer -/
def SrOut (first : Bool) (nc : Int32) (r : Int32 × Int32 × Int32 × Int64 × Bool × Int64 × Int64 × Bool × (Nat → Int64) × (Nat → Int64) × (Nat → Int64) × (Nat → Int64)) (s : Int32 × Int32 × Bool × Int64 × Int64 × Int32 × Int64 × Int64 × (Nat → Int64) × (Nat → Int32) × (Nat → Int64) × (Nat → Int64)) : Prop :=
  ∃ t mc : Nat, t ≤ 5000 ∧ mc ≤ 5000 ∧ r.2.1 = nI t ∧ s.2.2.2.2.2.1 = nc + nI t ∧ r.2.2.1 = nI mc ∧ s.2.2.2.2.2.2.1 = lN mc ∧
    ((r.2.2.2.2.1 = true ∧ s.1 = -2 ∧ (first = true → mc = 0)) ∨ (r.2.2.2.2.1 = false ∧ first = true ∧ ((mc = 1 ∧ s.1 = 1 ∧ r.2.2.2.1 = s.2.2.2.2.2.2.2.1) ∨ (mc = 0 ∧ s.1 = 0))) ∨ (r.2.2.2.2.1 = false ∧ first = false ∧ s.1 = 0))
theorem run_loop (hr : Rel N c m E Y Z F G Gb Y8 Z8) {lim : Nat} (hlim : lim ≤ 5000) (first : Bool) (nc : Int32) (x1 x3 : Int64) : ∀ (k t p mc : Nat) (lm : Int64) (tk on : Int64) (imp : Bool) (R PR PT PO : Nat → Int64) (rc : Int32) (im : Bool) (t8 o8 mi : Int64) (S : Nat → Int64) (T : Nat → Int32) (WT WO : Nat → Int64),
    t + k = lim → TI N E c tk on imp R → p ≤ cnt N tk → Pile N E c p PR PT PO WT WO → WT p = tk → WO p = on → mc ≤ t → (first = true → mc = 0) →
    ∃ r s, L_X3_run_3 (nI N) (nI N) (nI N) N (N * N) N N (nI m) 60 Y 60 Z (nI lim) first (nI t) (nI p) (nI t) (nI mc) lm false tk on imp R PR PT PO = some r ∧
      L_X8_search_25 (nI N) (nI c) (nI m) 60 F 60 G 60 Y8 60 Z8 60 60 100 100 x1 x3 (nI lim) (!first) (nI (p + 1)) (nI t) rc im t8 o8 nc (lN mc) mi S T WT WO = some s ∧ SrOut first nc r s := by
  have hN := hr.hN
  intro k
  induction k with
  | zero =>
    intro t p mc lm tk on imp R PR PT PO rc im t8 o8 mi S T WT WO ht hTI hp hP h1 h2 h3 h4
    have hpN := cnt_le N tk
    rw [E_X3_run_3, E_X8_search_25, cif_pos ((nI_leI (by omega) (by omega)).mpr (by omega)), cif_neg (nI_nle (Nat.succ_pos p) (by omega)), cif_pos (show nI t = nI lim by rw [show t = lim by omega])]
    exact ⟨_, _, rfl, rfl, t, mc, by omega, by omega, rfl, rfl, rfl, rfl, Or.inl ⟨rfl, rfl, h4⟩⟩
  | succ k ih =>
    intro t p mc lm tk on imp R PR PT PO rc im t8 o8 mi S T WT WO ht hTI hp hP h1 h2 h3 h4
    have hpN := cnt_le N tk
    obtain ⟨q, r, e1, e2, k1, k2⟩ := spread_eq hr hTI rc im S T
    -- a node is done: the next one waits
    have next : ∀ (mc' : Nat) (lm' : Int64) (t1 o1 : Int64) (i1 : Bool) (R1 : Nat → Int64) (rc1 : Int32) (im1 : Bool) (t9 o9 mi' : Int64) (S1 : Nat → Int64) (T1 : Nat → Int32), mc' ≤ t + 1 → (first = true → mc' = 0) →
        ∃ r s, Option.bind (D_X3_unpile (nI N) (nI p) t1 o1 i1 N R1 (N * N) PR N PT N PO) (fun u =>
          cif (u.1 = true)
            (Option.bind (D_X5_leastOpen u.2.2.1) (fun v =>
              Option.bind (D_X5_take u.2.2.1 u.2.2.2.1 (nI N) u.2.2.2.2.1 N u.2.2.2.2.2 v true) (fun w =>
                L_X3_run_3 (nI N) (nI N) (nI N) N (N * N) N N (nI m) 60 Y 60 Z (nI lim) first (nI (t + 1)) u.2.1 (nI (t + 1)) (nI mc') lm' false w.1 w.2.1 w.2.2.1 w.2.2.2 PR PT PO)))
            (some (u.2.1, nI (t + 1), nI mc', lm', false, u.2.2.1, u.2.2.2.1, u.2.2.2.2.1, u.2.2.2.2.2, PR, PT, PO))) = some r ∧
          L_X8_search_25 (nI N) (nI c) (nI m) 60 F 60 G 60 Y8 60 Z8 60 60 100 100 x1 x3 (nI lim) (!first) (nI p) (nI (t + 1)) rc1 im1 t9 o9 nc (lN mc') mi' S1 T1 WT WO = some s ∧ SrOut first nc r s := by
      intro mc' lm' t1 o1 i1 R1 rc1 im1 t9 o9 mi' S1 T1 g1 g2
      cases p with
      | zero =>
        rw [unpile_0, Option.bind_some, cif_neg (by simp), E_X8_search_25, cif_pos (by decide)]
        refine ⟨_, _, rfl, rfl, t + 1, mc', by omega, by omega, rfl, rfl, rfl, rfl, Or.inr ?_⟩
        cases first with
        | true => exact Or.inl ⟨rfl, rfl, Or.inr ⟨g2 rfl, rfl⟩⟩
        | false => exact Or.inr ⟨rfl, rfl, rfl⟩
      | succ p =>
        obtain ⟨h, hh, hl, hop, hT, hc, w1, w2⟩ := hP p (Nat.lt_succ_self p)
        obtain ⟨R', e5, h5⟩ := unpile_s hN (show p < N by omega) t1 o1 i1 R1 PR PT PO
        obtain ⟨i6, R6, e6, t6⟩ := take_spec hN (hT.cg h5) hh hop true
        rw [e5, Option.bind_some, cif_pos rfl, lo_spec hl, Option.bind_some]
        show ∃ r s, Option.bind (D_X5_take (PT p) (PO p) (nI N) false N R' (nI h) true) _ = some r ∧ _ ∧ _
        rw [e6, Option.bind_some]
        have hm : cnt N (PT p) ≤ cnt N (addT (PT p) h) := cnt_mono (fun i _ e => by rw [addT_tb (by omega), e]; rfl)
        exact ih (t + 1) p mc' lm' (addT (PT p) h) (addO (PO p) h true) i6 R6 PR PT PO rc1 im1 t9 o9 mi' S1 T1 WT WO (by omega) t6 (by omega) (fun j hj => hP j (by omega)) w1 w2 g1 g2
    rw [E_X3_run_3, E_X8_search_25, cif_neg (fun z => by have := (nI_leI (by omega) (by omega)).mp z; omega), cif_neg (nI_nle (Nat.succ_pos p) (by omega)), cif_neg (fun z => by have := (nI_eq (by omega) (by omega)).mp z; omega)]
    simp only [nI_m1, nI_1, nI_p2, lN_1, nI_clamp (show p < 2 ^ 31 by omega), nI_clamp (show p + 1 < 2 ^ 31 by omega), cif_pos (vp_in_nI (show p < 100 by omega) (by omega)), cif_pos (vp_in_nI (show p + 1 < 100 by omega) (by omega)), h1, h2, e1, e2, Option.bind_some]
    cases e : q.1 with
    | false =>
      rw [e] at k1
      rw [k1, cif_neg (by simp), cif_neg (by simp)]
      exact next mc lm q.2.1 q.2.2.1 q.2.2.2.1 q.2.2.2.2 r.2.1 r.2.2.1 r.2.2.2.1 r.2.2.2.2.1 mi r.2.2.2.2.2.1 r.2.2.2.2.2.2 (by omega) h4
    | true =>
      obtain ⟨a1, a2, a3, a4, a5⟩ := k2 e
      rw [e] at k1
      rw [k1, cif_pos rfl, cif_pos rfl, a1, a2, a3, bits_spec, Option.bind_some]
      have hcm : cnt N tk ≤ cnt N q.2.1 := cnt_mono (fun i _ => a5.tbs hTI.1 i)
      have hcl : cnt 63 q.2.1 = cnt N q.2.1 := cnt_lo a4.1.1 (by omega)
      have hcn := cnt_le N q.2.1
      obtain ⟨h, hh, hl, hop, hall⟩ := open_low hN a4.1.1
      rw [hcl]
      by_cases hf : h = N
      · subst hf
        rw [full_yes hN hl rfl, Option.bind_some, cif_pos rfl, cnt_all hall, cif_pos rfl]
        cases first with
        | true =>
          rw [cif_pos rfl, cif_neg (by simp)]
          refine ⟨_, _, rfl, rfl, t + 1, mc + 1, by omega, by omega, rfl, rfl, rfl, rfl, Or.inr (Or.inl ⟨rfl, rfl, Or.inl ⟨by rw [h4 rfl], rfl, rfl⟩⟩)⟩
        | false =>
          rw [cif_neg (by simp), cif_pos (show (!false) = true from rfl)]
          exact next (mc + 1) q.2.2.1 q.2.1 q.2.2.1 false q.2.2.2.2 r.2.1 r.2.2.1 q.2.1 q.2.2.1 q.2.2.1 r.2.2.2.2.2.1 r.2.2.2.2.2.2 (by omega) (fun z => by cases z)
      · have hlt : h < N := by omega
        have hcs := cnt_some hlt hop
        have hpl : p < N := by omega
        rw [full_no hN hl hlt, Option.bind_some, cif_neg (by simp), cif_neg (fun z => by have := (nI_eq (by omega) (by omega)).mp z; omega), pile_s hN hpl, Option.bind_some, lo_spec hl, Option.bind_some, lowest_spec hl, Option.bind_some]
        obtain ⟨i6, R6, e6, t6⟩ := take_spec hN a4 hlt hop false
        rw [e6, Option.bind_some]
        have hmo : cnt N q.2.1 < cnt N (addT q.2.1 h) := cnt_lt (fun i _ e => by rw [addT_tb (by omega), e]; rfl) hlt hop (by rw [addT_tb (by omega)]; simp)
        refine ih (t + 1) (p + 1) mc lm (addT q.2.1 h) (addO q.2.2.1 h false) i6 R6 _ _ _ r.2.1 r.2.2.1 q.2.1 q.2.2.1 mi r.2.2.2.2.2.1 r.2.2.2.2.2.2 _ _ (by omega) t6 (by omega) (fun j hj => ?_) ?_ ?_ (by omega) h4
        · by_cases z : j = p
          · subst z
            refine ⟨h, hlt, ?_⟩
            dsimp only
            rw [pk_uLs, pk_uLs, pk_uLn (show j ≠ j + 1 by omega), pk_uLs, pk_uLn (show j ≠ j + 1 by omega), pk_uLs]
            exact ⟨hl, hop, a4.cg (fun i hi => by
              show va_cpy q.2.2.2.2 PR 0 (j * N) N (j * N + i) = _
              rw [pk_cpy_in (by omega) (by omega), show 0 + (j * N + i - j * N) = i by omega]), by omega, rfl, by unfold addO; rw [if_pos rfl]⟩
          · have hjp : j < p := by omega
            obtain ⟨g, g1, g2, g3, g4, g5, g6, g7⟩ := hP j hjp
            refine ⟨g, g1, ?_⟩
            dsimp only
            rw [pk_uLn z, pk_uLn z, pk_uLn (show j ≠ p + 1 by omega), pk_uLn z, pk_uLn (show j ≠ p + 1 by omega), pk_uLn z]
            have hm : (j + 1) * N ≤ p * N := Nat.mul_le_mul_right N hjp
            rw [Nat.succ_mul] at hm
            exact ⟨g2, g3, g4.cg (fun i hi => by
              show va_cpy q.2.2.2.2 PR 0 (p * N) N (j * N + i) = _
              rw [pk_cpy_out (Or.inl (by omega))]), g5, g6, g7⟩
        · rw [pk_uLs]; rfl
        · rw [pk_uLs]; unfold addO; rw [if_neg (by simp)]
end SEA
