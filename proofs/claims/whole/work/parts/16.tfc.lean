section TFC
variable {N : Nat} {E : Nat → Int64} {c : Nat} {Y Z : Nat → Int64} {m : Nat} {t0 o0 tk on : Int64} {imp : Bool} {R : Nat → Int64}
/-- the clauses: below N, none of them with a variable in both sets -/
def CL (N : Nat) (Y Z : Nat → Int64) (m : Nat) : Prop := ∀ k, k < m → Lo N (Y k) ∧ Lo N (Z k) ∧ ∀ i, tb (Y k) i = true → tb (Z k) i = false
theorem and_zero {x y : Int64} : (x &&& y) = 0 ↔ ∀ i, tb x i = true → tb y i = false := by
  rw [tb_eq0]
  constructor
  · intro h i hi
    rcases Nat.lt_or_ge i 64 with q | q
    · have := h i q
      rw [tb_and, hi] at this
      simpa using this
    · exact tb_big q
  · intro h i _
    rw [tb_and]
    cases z : tb x i with
    | false => rfl
    | true => rw [h i z]; rfl
theorem c_yes (k : Nat) : (Y k &&& on) = 0 ↔ ¬ ∃ i, tb (Y k) i = true ∧ tb on i = true := by
  rw [and_zero]
  constructor
  · intro h ⟨i, h1, h2⟩
    rw [h i h1] at h2; cases h2
  · intro h i h1
    cases z : tb on i with
    | false => rfl
    | true => exact absurd ⟨i, h1, z⟩ h
theorem c_no (k : Nat) : ((Z k &&& tk) &&& (on ^^^ (-1))) = 0 ↔ ¬ ∃ i, tb (Z k) i = true ∧ tb tk i = true ∧ tb on i = false := by
  rw [and_zero]
  constructor
  · intro h ⟨i, h1, h2, h3⟩
    have h64 : i < 64 := by
      rcases Nat.lt_or_ge i 64 with q | q
      · exact q
      · rw [tb_big q] at h1; cases h1
    have := h i (by rw [tb_and, h1, h2]; rfl)
    rw [tb_not _ h64, h3] at this; cases this
  · intro h i h1
    rw [tb_and, Bool.and_eq_true] at h1
    have h64 : i < 64 := by
      rcases Nat.lt_or_ge i 64 with q | q
      · exact q
      · rw [tb_big q] at h1; cases h1.1
    rw [tb_not _ h64]
    cases z : tb on i with
    | true => rfl
    | false => exact absurd ⟨i, h1.1, h1.2, z⟩ h
theorem c_open (k i : Nat) : tb ((Y k ||| Z k) &&& (tk ^^^ (-1))) i = true ↔ cOpen Y Z tk k i := by
  unfold cOpen
  rcases Nat.lt_or_ge i 64 with q | q
  · rw [tb_and, tb_or, tb_not _ q]
    cases tb (Y k) i <;> cases tb (Z k) i <;> cases tb tk i <;> simp
  · rw [tb_big q]
    constructor
    · intro h; cases h
    · intro ⟨h, _⟩
      rw [tb_big q, tb_big q] at h
      rcases h with h | h <;> cases h
theorem cSat_iff (k : Nat) : cSat Y Z tk on k ↔ ¬ ((Y k &&& on) = 0) ∨ ¬ (((Z k &&& tk) &&& (on ^^^ (-1))) = 0) := by
  rw [c_yes, c_no, Classical.not_not, Classical.not_not]
  exact Iff.rfl
/-- clause k is right, or has two open variables -/
def cFine (Y Z : Nat → Int64) (tk on : Int64) (k : Nat) : Prop := cSat Y Z tk on k ∨ ∃ v w, v ≠ w ∧ cOpen Y Z tk k v ∧ cOpen Y Z tk k w
theorem two_open {k h : Nat} (hl : isLow ((Y k ||| Z k) &&& (tk ^^^ (-1))) h) (hn : ¬ (((Y k ||| Z k) &&& (tk ^^^ (-1))) &&& (((Y k ||| Z k) &&& (tk ^^^ (-1))) - 1)) = 0) : ∃ v w, v ≠ w ∧ cOpen Y Z tk k v ∧ cOpen Y Z tk k w := by
  rw [one_bit hl] at hn
  apply Classical.byContradiction
  intro hc
  apply hn
  intro i hi
  apply Classical.byContradiction
  intro hne
  exact hc ⟨i, h, hne, (c_open k i).mp hi, (c_open k h).mp hl.1⟩
theorem tfc_loop (hN : N ≤ 40) (hm : m ≤ 60) (hC : CL N Y Z m) : ∀ (q k : Nat) (tk on : Int64) (R : Nat → Int64), k + q = m → TI N E c tk on false R → Under N E c Y Z m t0 o0 tk on →
    ∃ ok tk' on' imp' R', L_X5_takeFromClauses_2 (nI N) N (nI m) 60 Y 60 Z (nI k) tk on false R = some (ok, tk', on', imp', R') ∧
      (ok = true → imp' = false ∧ TI N E c tk' on' false R' ∧ Under N E c Y Z m t0 o0 tk' on' ∧ Sub N tk on tk' on' ∧ (tk' = tk → on' = on ∧ R' = R ∧ ∀ j, k ≤ j → j < m → cFine Y Z tk on j)) ∧ (ok = false → ResN N E c Y Z m t0 o0) := by
  intro q
  induction q with
  | zero =>
    intro k tk on R hk ht hU
    refine ⟨true, tk, on, false, R, ?_, fun _ => ⟨rfl, ht, hU, Sub.rf, fun _ => ⟨rfl, rfl, fun j h1 h2 => by omega⟩⟩, fun h => by cases h⟩
    rw [E_X5_takeFromClauses_2, cif_pos ((nI_leI (by omega) (by omega)).mpr (by omega))]
  | succ q ih =>
    intro k tk on R hk ht hU
    have hkm : k < m := by omega
    obtain ⟨hY, hZ, hd⟩ := hC k hkm
    -- going on with the next clause
    have next : cFine Y Z tk on k → ∃ ok tk' on' imp' R', L_X5_takeFromClauses_2 (nI N) N (nI m) 60 Y 60 Z (nI (k + 1)) tk on false R = some (ok, tk', on', imp', R') ∧
      (ok = true → imp' = false ∧ TI N E c tk' on' false R' ∧ Under N E c Y Z m t0 o0 tk' on' ∧ Sub N tk on tk' on' ∧ (tk' = tk → on' = on ∧ R' = R ∧ ∀ j, k ≤ j → j < m → cFine Y Z tk on j)) ∧ (ok = false → ResN N E c Y Z m t0 o0) := by
      intro hf
      obtain ⟨ok, tk', on', imp', R', r1, r2, r3⟩ := ih (k + 1) tk on R (by omega) ht hU
      refine ⟨ok, tk', on', imp', R', r1, fun h => ?_, r3⟩
      obtain ⟨a1, a2, a3, a4, a5⟩ := r2 h
      refine ⟨a1, a2, a3, a4, fun z => ?_⟩
      obtain ⟨b1, b2, b3⟩ := a5 z
      exact ⟨b1, b2, fun j h1 h2 => by
        rcases Nat.lt_or_ge k j with w | w
        · exact b3 j (by omega) h2
        · rw [show j = k by omega]; exact hf⟩
    rw [E_X5_takeFromClauses_2, cif_neg (fun z => by have := (nI_leI (by omega) (by omega)).mp z; omega), cif_pos (vp_in_nI (by omega) (by omega)), cif_pos (vp_in_nI (by omega) (by omega)), nI_clamp (by omega), nI_1]
    by_cases hy : (Y k &&& on) = 0
    · rw [cif_pos hy]
      by_cases hz : ((Z k &&& tk) &&& (on ^^^ (-1))) = 0
      · rw [cif_pos hz]
        have hns : ¬ cSat Y Z tk on k := fun h => by
          rw [cSat_iff] at h
          rcases h with h | h
          · exact h hy
          · exact h hz
        by_cases ho : ((Y k ||| Z k) &&& (tk ^^^ (-1))) = 0
        · rw [cif_pos ho]
          refine ⟨false, tk, on, false, R, rfl, fun h => (by cases h), fun _ => ?_⟩
          exact hU.dead ht.1 hkm ⟨hY, hZ⟩ hns (fun v hv => by
            have := (c_open k v).mpr hv
            rw [ho, tb_0] at this
            cases this)
        · rw [cif_neg ho]
          obtain ⟨h, hh, hl⟩ := low_ex ho
          by_cases h1 : ((((Y k ||| Z k) &&& (tk ^^^ (-1))) &&& (((Y k ||| Z k) &&& (tk ^^^ (-1))) - 1))) = 0
          · rw [cif_pos h1, lp_low hl, Option.bind_some]
            have hone := (one_bit hl).mp h1
            have hu : cUnit Y Z tk on k h := ⟨hns, (c_open k h).mp hl.1, fun w hw => hone w ((c_open k w).mpr hw)⟩
            obtain ⟨hhN, hU2⟩ := hU.unit hN hC ht.1 hkm hu
            have hop : tb tk h = false := hu.2.1.2
            -- the road of a take with value b
            have road : ∀ b, tb (Y k) h = b → ∃ ok tk' on' imp' R', Option.bind (D_X5_take tk on (nI N) false N R (nI h) b) (fun u => cif (u.2.2.1 = true) (some (false, u.1, u.2.1, u.2.2.1, u.2.2.2)) (L_X5_takeFromClauses_2 (nI N) N (nI m) 60 Y 60 Z (nI (k + 1)) u.1 u.2.1 u.2.2.1 u.2.2.2)) = some (ok, tk', on', imp', R') ∧
                (ok = true → imp' = false ∧ TI N E c tk' on' false R' ∧ Under N E c Y Z m t0 o0 tk' on' ∧ Sub N tk on tk' on' ∧ (tk' = tk → on' = on ∧ R' = R ∧ ∀ j, k ≤ j → j < m → cFine Y Z tk on j)) ∧ (ok = false → ResN N E c Y Z m t0 o0) := by
              intro b hb
              rw [hb] at hU2
              obtain ⟨imp2, R2, e2, t2⟩ := take_spec hN ht hhN hop b
              rw [e2, Option.bind_some]
              cases imp2 with
              | true =>
                refine ⟨false, _, _, true, R2, by rw [cif_pos rfl], (fun z => by cases z), fun _ => ?_⟩
                refine hU2.imp (fun a ha hs => ?_)
                have := (t2.2.2.2 a ha).mpr hs
                cases this.1
              | false =>
                rw [cif_neg (by simp)]
                obtain ⟨ok, tk', on', imp', R', r1, r2, r3⟩ := ih (k + 1) _ _ R2 (by omega) t2 hU2
                refine ⟨ok, tk', on', imp', R', r1, fun z => ?_, r3⟩
                obtain ⟨a1, a2, a3, a4, a5⟩ := r2 z
                refine ⟨a1, a2, a3, (Sub.add hN ht.1 hhN hop b).tr a4, fun w => ?_⟩
                have := (a4 h hhN (by rw [addT_tb (by omega)]; simp)).1
                rw [w, hop] at this
                cases this
            have hyb : (Y k &&& ((Y k ||| Z k) &&& (tk ^^^ (-1)))) = 0 ↔ tb (Y k) h = false := by
              rw [and_zero]
              constructor
              · intro z
                cases w : tb (Y k) h with
                | false => rfl
                | true => have := z h w; rw [hl.1] at this; cases this
              · intro z i hi
                cases w : tb ((Y k ||| Z k) &&& (tk ^^^ (-1))) i with
                | false => rfl
                | true => rw [hone i w, z] at hi; cases hi
            cases w : tb (Y k) h with
            | false => rw [cif_pos (hyb.mpr w)]; exact road false w
            | true => rw [cif_neg (fun z => by rw [hyb.mp z] at w; cases w)]; exact road true w
          · rw [cif_neg h1, cif_neg (by simp)]
            exact next (Or.inr (two_open hl h1))
      · rw [cif_neg hz]
        exact next (Or.inl ((cSat_iff k).mpr (Or.inr hz)))
    · rw [cif_neg hy]
      exact next (Or.inl ((cSat_iff k).mpr (Or.inl hy)))
end TFC
