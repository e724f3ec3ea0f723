/-! SPREAD -/
/-- how many of the first n bits are 1 -/
def cnt : Nat → Int64 → Nat
  | 0, _ => 0
  | n + 1, x => cnt n x + (if tb x n then 1 else 0)
theorem cnt_le (N : Nat) (x : Int64) : cnt N x ≤ N := by
  induction N with
  | zero => exact Nat.le_refl 0
  | succ n ih =>
    show cnt n x + (if tb x n then 1 else 0) ≤ n + 1
    split <;> omega
theorem cnt_mono {N : Nat} {x y : Int64} (h : ∀ i, i < N → tb x i = true → tb y i = true) : cnt N x ≤ cnt N y := by
  induction N with
  | zero => exact Nat.le_refl 0
  | succ n ih =>
    show cnt n x + (if tb x n then 1 else 0) ≤ cnt n y + (if tb y n then 1 else 0)
    have := ih (fun i hi => h i (by omega))
    cases e : tb x n with
    | false => simp; omega
    | true => rw [h n (by omega) e]; simp; omega
theorem cnt_lt {N : Nat} {x y : Int64} (h : ∀ i, i < N → tb x i = true → tb y i = true) {k : Nat} (hk : k < N) (h1 : tb x k = false) (h2 : tb y k = true) : cnt N x < cnt N y := by
  induction N with
  | zero => omega
  | succ n ih =>
    show cnt n x + (if tb x n then 1 else 0) < cnt n y + (if tb y n then 1 else 0)
    by_cases q : k = n
    · subst q
      have := cnt_mono (N := k) (fun i hi => h i (by omega))
      rw [h1, h2]
      simp; omega
    · have := ih (fun i hi => h i (by omega)) (by omega)
      cases e : tb x n with
      | false => simp; omega
      | true => rw [h n (by omega) e]; simp; omega
section SPR
variable {N : Nat} {E : Nat → Int64} {c : Nat} {Y Z : Nat → Int64} {m : Nat} {t0 o0 tk on : Int64} {imp : Bool} {R : Nat → Int64}
/-- rows know nothing of what is taken: any solution of theirs can be bent to it -/
theorem TI.bend (h : TI N E c tk on imp R) {a : Nat → Bool} (ha : SatR N R a) : SatR N R (fun i => if tb tk i then tb on i else a i) ∧ Ext N tk on (fun i => if tb tk i then tb on i else a i) := by
  refine ⟨fun j hj => ?_, fun i hi e => by simp [e]⟩
  have := ha j hj
  unfold holds at *
  rw [← this]
  refine dot_congr (fun i hi e => ?_)
  have : tb tk i = false := by
    cases z : tb tk i with
    | false => rfl
    | true => rw [h.2.2.1 i hi z j hj] at e; cases e
  simp [this]
theorem TI.good (hN : N ≤ 40) (h : TI N E c tk on false R) (hu : ∀ p, p < N → ¬ uni N R p) (hf : ∀ k, k < m → cFine Y Z tk on k) : Good N E c Y Z m tk on := by
  refine ⟨?_, hf, fun v hv hop b hall => ?_⟩
  · obtain ⟨a, ha, -⟩ := shape_free (by omega) h.2.1 (fun _ => false)
    obtain ⟨h1, h2⟩ := h.bend ha
    exact ⟨_, h2, (h.2.2.2 _ h2).mp ⟨rfl, h1⟩⟩
  · obtain ⟨a, ha, hb⟩ := shape_both (by omega) h.2.1 hv (hu v hv) (!b)
    obtain ⟨h1, h2⟩ := h.bend ha
    have := hall _ h2 ((h.2.2.2 _ h2).mp ⟨rfl, h1⟩)
    rw [hop] at this
    simp at this
    rw [hb] at this
    cases b <;> cases this
theorem Sub.tbs {t o t' o' : Int64} (hw : WF N t o) (h : Sub N t o t' o') : ∀ i, tb t i = true → tb t' i = true := fun i e => by
  rcases Nat.lt_or_ge i N with q | q
  · exact (h i q e).1
  · rw [hw.1 i q] at e; cases e
theorem WF.ne_bit {t o t' o' : Int64} (hw : WF N t o) (hw' : WF N t' o') (h : Sub N t o t' o') (hne : t' ≠ t) : ∃ k, k < N ∧ tb t k = false ∧ tb t' k = true := by
  apply Classical.byContradiction
  intro hc
  apply hne
  refine tb_ext (fun i _ => ?_)
  rcases Nat.lt_or_ge i N with q | q
  · cases z : tb t i with
    | true => exact (h i q z).1
    | false =>
      cases w : tb t' i with
      | false => rfl
      | true => exact absurd ⟨i, q, z, w⟩ hc
  · rw [hw.1 i q, hw'.1 i q]
/-- what spread answers -/
def SpOut (N : Nat) (E : Nat → Int64) (c : Nat) (Y Z : Nat → Int64) (m : Nat) (t0 o0 : Int64) (r : Bool × Int64 × Int64 × Bool × (Nat → Int64)) : Prop :=
  (r.1 = true → r.2.2.2.1 = false ∧ TI N E c r.2.1 r.2.2.1 false r.2.2.2.2 ∧ ResS N E c Y Z m t0 o0 r.2.1 r.2.2.1) ∧ (r.1 = false → ResN N E c Y Z m t0 o0)
theorem spr_end (hN : N ≤ 40) (r : Nat) (ht : TI N E c tk on false R) (hU : Under N E c Y Z m t0 o0 tk on) (hS : Sub N t0 o0 tk on) (hu : ∀ p, p < N → ¬ uni N R p) (hf : ∀ k, k < m → cFine Y Z tk on k) :
    ∃ q, L_X5_spread_4 (nI N) (nI N) N (nI m) 60 Y 60 Z false (nI r) tk on false R = some q ∧ SpOut N E c Y Z m t0 o0 q := by
  refine ⟨(true, tk, on, false, R), ?_, fun _ => ⟨rfl, ht, ht.1, hS, ht.good hN hu hf, hU⟩, fun h => by cases h⟩
  rw [E_X5_spread_4, cif_neg (by simp), cif_neg (by simp)]
theorem spr_loop (hN : N ≤ 40) (hm : m ≤ 60) (hC : CL N Y Z m) : ∀ (d r : Nat) (tk on : Int64) (imp : Bool) (R : Nat → Int64), cnt N tk + d = N → r ≤ cnt N tk → TI N E c tk on imp R → Under N E c Y Z m t0 o0 tk on → Sub N t0 o0 tk on →
    ∃ q, L_X5_spread_4 (nI N) (nI N) N (nI m) 60 Y 60 Z true (nI r) tk on imp R = some q ∧ SpOut N E c Y Z m t0 o0 q := by
  intro d
  induction d using Nat.strongRecOn with
  | ind d ih =>
    intro r tk on imp R hd hr ht hU hS
    have hrN : r ≤ 40 := by have := cnt_le N tk; omega
    cases imp with
    | true =>
      refine ⟨(false, tk, on, true, R), ?_, fun h => (by cases h), fun _ => ?_⟩
      · rw [E_X5_spread_4, cif_pos rfl, cif_pos rfl]
      · refine hU.imp (fun a ha hs => ?_)
        have := (ht.2.2.2 a ha).mpr hs
        cases this.1
    | false =>
      rw [E_X5_spread_4, cif_pos rfl, cif_neg (by simp), cif_neg (fun z => by
        have := (nI_ltI (a := 40) (b := r) (by omega) (by omega)).mp z
        omega)]
      obtain ⟨t1, o1, R1, e1, ht1, hU1, hS1, hu1⟩ := tfr_loop (imp := false) (Y := Y) (Z := Z) (m := m) (t0 := t0) (o0 := o0) hN N 0 tk on R (by omega) ht hU (fun p hp => by omega)
      have e1' : D_X5_takeFromRows (nI N) tk on (nI N) false N R = some (t1, o1, false, R1) := by
        unfold D_X5_takeFromRows
        exact e1
      rw [e1', Option.bind_some]
      obtain ⟨ok, t2, o2, imp2, R2, e2, h2, h3⟩ := tfc_loop (t0 := t0) (o0 := o0) hN hm hC m 0 t1 o1 R1 (by omega) ht1 hU1
      have e2' : D_X5_takeFromClauses t1 o1 (nI N) false N R1 (nI m) 60 Y 60 Z = some (ok, t2, o2, imp2, R2) := by
        unfold D_X5_takeFromClauses
        exact e2
      show ∃ q, Option.bind (D_X5_takeFromClauses t1 o1 (nI N) false N R1 (nI m) 60 Y 60 Z) _ = some q ∧ _
      rw [e2', Option.bind_some]
      cases ok with
      | false =>
        refine ⟨(false, t2, o2, imp2, R2), ?_, fun h => (by cases h), fun _ => h3 rfl⟩
        rw [cif_neg (by simp)]
      | true =>
        obtain ⟨a1, a2, a3, a4, a5⟩ := h2 rfl
        subst a1
        rw [cif_pos rfl, nI_1]
        by_cases z : t2 = t1
        · rw [cif_pos z]
          obtain ⟨b1, b2, b3⟩ := a5 z
          subst z; subst b1; subst b2
          exact spr_end hN (r + 1) a2 a3 (hS.tr hS1) hu1 (fun k hk => b3 k (Nat.zero_le k) hk)
        · rw [cif_neg z]
          obtain ⟨k, hk, k1, k2⟩ := ht1.1.ne_bit a2.1 a4 z
          have hlt : cnt N t1 < cnt N t2 := cnt_lt (fun i _ => a4.tbs ht1.1 i) hk k1 k2
          have hle : cnt N tk ≤ cnt N t1 := cnt_mono (fun i _ => hS1.tbs ht.1 i)
          have := cnt_le N t2
          exact ih (N - cnt N t2) (by omega) (r + 1) t2 o2 false R2 (by omega) (by omega) a2 a3 ((hS.tr hS1).tr a4)
theorem spread_spec (hN : N ≤ 40) (hm : m ≤ 60) (hC : CL N Y Z m) (ht : TI N E c tk on imp R) : ∃ q, D_X5_spread (nI N) tk on (nI N) imp N R (nI m) 60 Y 60 Z = some q ∧ SpOut N E c Y Z m tk on q := by
  obtain ⟨q, e, h⟩ := spr_loop (t0 := tk) (o0 := on) hN hm hC (N - cnt N tk) 0 tk on imp R (by have := cnt_le N tk; omega) (Nat.zero_le _) ht Under.start Sub.rf
  refine ⟨q, ?_, h⟩
  unfold D_X5_spread
  exact e
end SPR
