/-! WHAT FOLLOWS, as the document has it: the least state that is closed; and the class's road to it -/
def Ext (N : Nat) (tk on : Int64) (a : Nat → Bool) : Prop := ∀ i, i < N → tb tk i = true → a i = tb on i
/-- a state of taken variables: below N, the ones among them -/
def WF (N : Nat) (tk on : Int64) : Prop := Lo N tk ∧ ∀ i, tb on i = true → tb tk i = true
def Sub (N : Nat) (tk on tk' on' : Int64) : Prop := ∀ i, i < N → tb tk i = true → tb tk' i = true ∧ tb on' i = tb on i
def SatE (N : Nat) (E : Nat → Int64) (c : Nat) (a : Nat → Bool) : Prop := ∀ j, j < c → holds N (E j) a
/-- clause k is right by what is taken -/
def cSat (Y Z : Nat → Int64) (tk on : Int64) (k : Nat) : Prop := (∃ i, tb (Y k) i = true ∧ tb on i = true) ∨ ∃ i, tb (Z k) i = true ∧ tb tk i = true ∧ tb on i = false
def cOpen (Y Z : Nat → Int64) (tk : Int64) (k v : Nat) : Prop := (tb (Y k) v = true ∨ tb (Z k) v = true) ∧ tb tk v = false
def Good (N : Nat) (E : Nat → Int64) (c : Nat) (Y Z : Nat → Int64) (m : Nat) (tk on : Int64) : Prop :=
  (∃ a, Ext N tk on a ∧ SatE N E c a) ∧ (∀ k, k < m → cSat Y Z tk on k ∨ ∃ v w, v ≠ w ∧ cOpen Y Z tk k v ∧ cOpen Y Z tk k w) ∧ ∀ v, v < N → tb tk v = false → ∀ b, ¬ ∀ a, Ext N tk on a → SatE N E c a → a v = b
/-- below every closed state above the first -/
def Under (N : Nat) (E : Nat → Int64) (c : Nat) (Y Z : Nat → Int64) (m : Nat) (t0 o0 tk on : Int64) : Prop := ∀ t o, WF N t o → Sub N t0 o0 t o → Good N E c Y Z m t o → Sub N tk on t o
def ResS (N : Nat) (E : Nat → Int64) (c : Nat) (Y Z : Nat → Int64) (m : Nat) (t0 o0 tk on : Int64) : Prop := WF N tk on ∧ Sub N t0 o0 tk on ∧ Good N E c Y Z m tk on ∧ Under N E c Y Z m t0 o0 tk on
def ResN (N : Nat) (E : Nat → Int64) (c : Nat) (Y Z : Nat → Int64) (m : Nat) (t0 o0 : Int64) : Prop := ∀ t o, WF N t o → Sub N t0 o0 t o → ¬ Good N E c Y Z m t o
section CLO
variable {N : Nat} {E : Nat → Int64} {c : Nat} {Y Z : Nat → Int64} {m : Nat} {t0 o0 tk on : Int64}
theorem WF.ext {t o t' o' : Int64} (h : WF N t o) (h' : WF N t' o') (s : Sub N t o t' o') (s' : Sub N t' o' t o) : t = t' ∧ o = o' := by
  have e1 : ∀ i, tb t i = tb t' i := fun i => by
    rcases Nat.lt_or_ge i N with q | q
    · cases a : tb t i with
      | true => exact (s i q a).1.symm
      | false =>
        cases b : tb t' i with
        | false => rfl
        | true => rw [(s' i q b).1] at a; cases a
    · rw [h.1 i q, h'.1 i q]
  refine ⟨tb_ext (fun i _ => e1 i), tb_ext (fun i _ => ?_)⟩
  rcases Nat.lt_or_ge i N with q | q
  · cases a : tb t i with
    | true => exact (s i q a).2.symm
    | false =>
      have b := (e1 i).symm.trans a
      have x1 : tb o i = false := by
        cases z : tb o i with
        | false => rfl
        | true => rw [h.2 i z] at a; cases a
      have x2 : tb o' i = false := by
        cases z : tb o' i with
        | false => rfl
        | true => rw [h'.2 i z] at b; cases b
      rw [x1, x2]
  · have x1 : tb o i = false := by
      cases z : tb o i with
      | false => rfl
      | true => have := h.2 i z; rw [h.1 i q] at this; cases this
    have x2 : tb o' i = false := by
      cases z : tb o' i with
      | false => rfl
      | true => have := h'.2 i z; rw [h'.1 i q] at this; cases this
    rw [x1, x2]
theorem ResS.uniq {t o t' o' : Int64} (h : ResS N E c Y Z m t0 o0 t o) (h' : ResS N E c Y Z m t0 o0 t' o') : t = t' ∧ o = o' :=
  h.1.ext h'.1 (h.2.2.2 t' o' h'.1 h'.2.1 h'.2.2.1) (h'.2.2.2 t o h.1 h.2.1 h.2.2.1)
theorem ResS.not {t o : Int64} (h : ResS N E c Y Z m t0 o0 t o) (h' : ResN N E c Y Z m t0 o0) : False := h' t o h.1 h.2.1 h.2.2.1
theorem Sub.rf : Sub N tk on tk on := fun _ _ h => ⟨h, rfl⟩
theorem Sub.tr {t o t' o' : Int64} (h : Sub N tk on t o) (h' : Sub N t o t' o') : Sub N tk on t' o' := fun i hi e => ⟨(h' i hi (h i hi e).1).1, ((h' i hi (h i hi e).1).2).trans (h i hi e).2⟩
theorem Sub.ext {t o : Int64} {a : Nat → Bool} (h : Sub N tk on t o) (ha : Ext N t o a) : Ext N tk on a := fun i hi e => (ha i hi (h i hi e).1).trans (h i hi e).2
/-- one variable more -/
def addT (tk : Int64) (v : Nat) : Int64 := tk ||| jshl 1 (nI v)
def addO (on : Int64) (v : Nat) (b : Bool) : Int64 := if b then on ||| jshl 1 (nI v) else on
theorem addT_tb {v : Nat} (hv : v < 64) (i : Nat) : tb (addT tk v) i = (tb tk i || decide (i = v)) := by unfold addT; rw [tb_or, tb_bit hv]
theorem addO_tb {v : Nat} (hv : v < 64) (b : Bool) (i : Nat) : tb (addO on v b) i = (tb on i || (b && decide (i = v))) := by
  unfold addO
  cases b with
  | true => rw [if_pos rfl, tb_or, tb_bit hv]; simp
  | false => rw [if_neg (by simp)]; simp
theorem WF.add (hN : N ≤ 40) (h : WF N tk on) {v : Nat} (hv : v < N) (b : Bool) : WF N (addT tk v) (addO on v b) := by
  refine ⟨fun i hi => ?_, fun i e => ?_⟩
  · rw [addT_tb (by omega), h.1 i hi, decide_eq_false (by omega)]; rfl
  · rw [addO_tb (by omega)] at e
    rw [addT_tb (by omega)]
    cases w : tb on i with
    | true => rw [h.2 i w]; rfl
    | false => rw [w] at e; simp at e; rw [decide_eq_true e.2]; simp
theorem WF.off (h : WF N tk on) {v : Nat} (e : tb tk v = false) : tb on v = false := by
  cases w : tb on v with
  | false => rfl
  | true => rw [h.2 v w] at e; cases e
theorem Sub.add (hN : N ≤ 40) (h : WF N tk on) {v : Nat} (hv : v < N) (e : tb tk v = false) (b : Bool) : Sub N tk on (addT tk v) (addO on v b) := fun i hi q => by
  have hne : i ≠ v := fun z => by rw [z, e] at q; cases q
  rw [addT_tb (by omega), addO_tb (by omega), q, decide_eq_false hne]
  simp
theorem Sub.addTo (hN : N ≤ 40) {v : Nat} (hv : v < N) {b : Bool} {t o : Int64} (h : WF N tk on) (e : tb tk v = false) (s : Sub N tk on t o) (h1 : tb t v = true) (h2 : tb o v = b) : Sub N (addT tk v) (addO on v b) t o := fun i hi q => by
  rw [addT_tb (by omega)] at q
  rw [addO_tb (by omega)]
  by_cases z : i = v
  · subst z
    rw [h.off e]
    exact ⟨h1, by rw [h2]; simp⟩
  · rw [decide_eq_false z] at q ⊢
    simp at q
    have := s i hi q
    exact ⟨this.1, by rw [this.2]; simp⟩
theorem Ext.add (hN : N ≤ 40) {v : Nat} (hv : v < N) {b : Bool} (h : WF N tk on) (e : tb tk v = false) (a : Nat → Bool) : Ext N (addT tk v) (addO on v b) a ↔ Ext N tk on a ∧ a v = b := by
  constructor
  · intro ha
    refine ⟨(Sub.add hN h hv e b).ext ha, ?_⟩
    have := ha v hv (by rw [addT_tb (by omega)]; simp)
    rw [this, addO_tb (by omega), h.off e]
    simp
  · intro ⟨ha, hb⟩ i hi q
    rw [addT_tb (by omega)] at q
    rw [addO_tb (by omega)]
    by_cases z : i = v
    · subst z; rw [hb, h.off e]; simp
    · rw [decide_eq_false z] at q ⊢
      simp at q
      rw [ha i hi q]; simp
theorem Under.forced (hN : N ≤ 40) (hw : WF N tk on) (hU : Under N E c Y Z m t0 o0 tk on) {v : Nat} (hv : v < N) (e : tb tk v = false) {b : Bool} (hf : ∀ a, Ext N tk on a → SatE N E c a → a v = b) : Under N E c Y Z m t0 o0 (addT tk v) (addO on v b) := by
  intro t o hw' hs hg
  have s := hU t o hw' hs hg
  obtain ⟨⟨a, ha, hsat⟩, -, hclosed⟩ := hg
  have hf' : ∀ a, Ext N t o a → SatE N E c a → a v = b := fun a ha hs => hf a (s.ext ha) hs
  have h1 : tb t v = true := by
    cases z : tb t v with
    | true => rfl
    | false => exact absurd hf' (hclosed v hv z b)
  exact Sub.addTo hN hv hw e s h1 (by rw [← ha v hv h1]; exact hf' a ha hsat)
/-- clause k's open variables are just v -/
def cUnit (Y Z : Nat → Int64) (tk on : Int64) (k v : Nat) : Prop := ¬ cSat Y Z tk on k ∧ cOpen Y Z tk k v ∧ ∀ w, cOpen Y Z tk k w → w = v
theorem Under.unit (hN : N ≤ 40) (hY : ∀ k, k < m → Lo N (Y k) ∧ Lo N (Z k) ∧ ∀ i, tb (Y k) i = true → tb (Z k) i = false) (hw : WF N tk on) (hU : Under N E c Y Z m t0 o0 tk on) {k v : Nat} (hk : k < m) (hu : cUnit Y Z tk on k v) : v < N ∧ Under N E c Y Z m t0 o0 (addT tk v) (addO on v (tb (Y k) v)) := by
  obtain ⟨hns, ⟨hyz, e⟩, hone⟩ := hu
  obtain ⟨hy, hz, hd⟩ := hY k hk
  have hv : v < N := by
    rcases Nat.lt_or_ge v N with q | q
    · exact q
    · rcases hyz with w | w
      · rw [hy v q] at w; cases w
      · rw [hz v q] at w; cases w
  refine ⟨hv, fun t o hw' hs hg => ?_⟩
  have s := hU t o hw' hs hg
  have nopen : ∀ w, cOpen Y Z t k w → w = v := fun w ⟨w1, w2⟩ => by
    refine hone w ⟨w1, ?_⟩
    cases z : tb tk w with
    | false => rfl
    | true =>
      have hwN : w < N := by
        rcases Nat.lt_or_ge w N with q | q
        · exact q
        · rw [hw.1 w q] at z; cases z
      rw [(s w hwN z).1] at w2
      cases w2
  have hsat : cSat Y Z t o k := by
    rcases hg.2.1 k hk with h | ⟨v1, w1, hne, h1, h2⟩
    · exact h
    · exact absurd ((nopen v1 h1).trans (nopen w1 h2).symm) hne
  have key : ∀ i, i ≠ v → (tb (Y k) i = true ∨ tb (Z k) i = true) → tb tk i = true ∧ i < N := fun i hne hi => by
    have z : tb tk i = true := by
      cases z : tb tk i with
      | true => rfl
      | false => exact absurd (hone i ⟨hi, z⟩) hne
    refine ⟨z, ?_⟩
    rcases Nat.lt_or_ge i N with q | q
    · exact q
    · rw [hw.1 i q] at z; cases z
  rcases hsat with ⟨i, h1, h2⟩ | ⟨i, h1, h2, h3⟩
  · by_cases z : i = v
    · subst z
      rw [h1]
      exact Sub.addTo hN hv hw e s (hw'.2 i h2) h2
    · obtain ⟨q1, q2⟩ := key i z (Or.inl h1)
      exact absurd (Or.inl ⟨i, h1, by rw [← (s i q2 q1).2]; exact h2⟩) hns
  · by_cases z : i = v
    · subst z
      have : tb (Y k) i = false := by
        cases y : tb (Y k) i with
        | false => rfl
        | true => rw [hd i y] at h1; cases h1
      rw [this]
      exact Sub.addTo hN hv hw e s h2 h3
    · obtain ⟨q1, q2⟩ := key i z (Or.inr h1)
      exact absurd (Or.inr ⟨i, h1, q1, by rw [← (s i q2 q1).2]; exact h3⟩) hns
theorem Under.dead (hw : WF N tk on) (hU : Under N E c Y Z m t0 o0 tk on) {k : Nat} (hk : k < m) (hY : Lo N (Y k) ∧ Lo N (Z k)) (hns : ¬ cSat Y Z tk on k) (hno : ∀ v, ¬ cOpen Y Z tk k v) : ResN N E c Y Z m t0 o0 := by
  intro t o hw' hs hg
  have s := hU t o hw' hs hg
  have key : ∀ i, (tb (Y k) i = true ∨ tb (Z k) i = true) → tb tk i = true ∧ i < N := fun i hi => by
    have z : tb tk i = true := by
      cases z : tb tk i with
      | true => rfl
      | false => exact absurd ⟨hi, z⟩ (hno i)
    refine ⟨z, ?_⟩
    rcases Nat.lt_or_ge i N with q | q
    · exact q
    · rw [hw.1 i q] at z; cases z
  rcases hg.2.1 k hk with h | ⟨v1, w1, hne, h1, h2⟩
  · rcases h with ⟨i, h1, h2⟩ | ⟨i, h1, h2, h3⟩
    · obtain ⟨q1, q2⟩ := key i (Or.inl h1)
      exact hns (Or.inl ⟨i, h1, by rw [← (s i q2 q1).2]; exact h2⟩)
    · obtain ⟨q1, q2⟩ := key i (Or.inr h1)
      exact hns (Or.inr ⟨i, h1, q1, by rw [← (s i q2 q1).2]; exact h3⟩)
  · obtain ⟨q1, q2⟩ := key v1 h1.1
    have := (s v1 q2 q1).1
    rw [h1.2] at this
    cases this
theorem Under.imp (hU : Under N E c Y Z m t0 o0 tk on) (h : ∀ a, Ext N tk on a → ¬ SatE N E c a) : ResN N E c Y Z m t0 o0 := by
  intro t o hw' hs hg
  have s := hU t o hw' hs hg
  obtain ⟨⟨a, ha, hsat⟩, -⟩ := hg
  exact h a (s.ext ha) hsat
theorem Under.start : Under N E c Y Z m t0 o0 t0 o0 := fun _ _ _ hs _ => hs
end CLO
