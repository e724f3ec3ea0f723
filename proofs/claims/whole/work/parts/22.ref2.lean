/-! THE REFERENCE: what follows -/
def comb (s : Int64) (b : Bool) : Int64 := s ||| (if b then 4611686018427387904 else 0)
theorem comb_tb (s : Int64) (b : Bool) (i : Nat) : tb (comb s b) i = (tb s i || (b && decide (i = 62))) := by
  unfold comb
  rw [tb_or]
  cases b with
  | true => rw [if_pos rfl, tb_R]; simp
  | false => rw [if_neg (by simp), tb_0]; simp
theorem comb_lt {s : Int64} {b : Bool} {i : Nat} (h : i < 62) : tb (comb s b) i = tb s i := by rw [comb_tb, decide_eq_false (by omega)]; simp
theorem comb_62 {N : Nat} (hN : N ≤ 40) {s : Int64} (hs : Lo N s) (b : Bool) : tb (comb s b) 62 = b := by rw [comb_tb, hs 62 (by omega)]; simp
theorem comb_holds {N : Nat} (hN : N ≤ 40) {s : Int64} (hs : Lo N s) (b : Bool) (a : Nat → Bool) : holds N (comb s b) a ↔ dot N s a = b := by
  unfold holds
  rw [comb_62 hN hs, dot_same (fun i hi => comb_lt (by omega))]
theorem comb_eq62 {N : Nat} {s : Int64} (hs : Lo N s) (b : Bool) : Eq62 N (comb s b) := fun i h1 h2 => by rw [comb_tb, hs i h1, decide_eq_false h2]; simp
/-- the reference's equations as the class holds them -/
def E8 (F : Nat → Int64) (Gb : Nat → Bool) (j : Nat) : Int64 := comb (F j) (Gb j)
theorem E8_sat {N c : Nat} (hN : N ≤ 40) {F : Nat → Int64} {G : Nat → Int32} {Gb : Nat → Bool} (hE : EQ8 N c F G Gb) (a : Nat → Bool) : SatE N (E8 F Gb) c a ↔ ∀ j, j < c → dot N (F j) a = Gb j :=
  ⟨fun h j hj => (comb_holds hN (hE.2 j hj).1 _ a).mp (h j hj), fun h j hj => (comb_holds hN (hE.2 j hj).1 _ a).mpr (h j hj)⟩
/-- rows in a list, by their heads -/
noncomputable def rowAt (k : Nat) (S : Nat → Int64) (B : Nat → Bool) (hd : Nat → Nat) (h : Nat) : Int64 :=
  @dite Int64 (∃ j, j < k ∧ hd j = h) (Classical.propDecidable _) (fun e => comb (S (Classical.choose e)) (B (Classical.choose e))) (fun _ => 0)
section RAT
variable {N k : Nat} {S : Nat → Int64} {B : Nat → Bool} {hd : Nat → Nat} {least : Bool}
theorem LSh.inj (hL : LSh least N k S hd) {i j : Nat} (hi : i < k) (hj : j < k) (h : hd i = hd j) : i = j := by
  rcases Nat.lt_trichotomy i j with q | q | q
  · have := hL.2.1 i j q hj; omega
  · exact q
  · have := hL.2.1 j i q hi; omega
theorem rowAt_hd (hL : LSh least N k S hd) {j : Nat} (hj : j < k) : rowAt k S B hd (hd j) = comb (S j) (B j) := by
  unfold rowAt
  have he : ∃ i, i < k ∧ hd i = hd j := ⟨j, hj, rfl⟩
  rw [dif_pos he]
  have := Classical.choose_spec he
  rw [hL.inj this.1 hj this.2]
theorem rowAt_no {h : Nat} (hn : ¬ ∃ j, j < k ∧ hd j = h) : rowAt k S B hd h = 0 := by
  unfold rowAt
  rw [dif_neg hn]
theorem comb_ne {s : Int64} {b : Bool} {h : Nat} (hh : h < 62) (e : tb s h = true) : comb s b ≠ 0 := fun z => by
  have := comb_lt (s := s) (b := b) hh
  rw [z, tb_0, e] at this
  cases this
theorem rowAt_ne {h : Nat} (h0 : rowAt k S B hd h ≠ 0) : ∃ j, j < k ∧ hd j = h := by
  apply Classical.byContradiction
  intro hn
  exact h0 (rowAt_no hn)
theorem rowAt_shape (hN : N ≤ 40) (hL : LSh true N k S hd) : Shape N (rowAt k S B hd) := by
  intro h hh h0
  obtain ⟨j, hj, rfl⟩ := rowAt_ne h0
  rw [rowAt_hd hL hj]
  obtain ⟨h1, h2, h3⟩ := hL.1 j hj
  have h2 : isLow (S j) (hd j) := h2
  refine ⟨⟨by rw [comb_lt (by omega)]; exact h2.1, fun i hi => by rw [comb_lt (by omega)]; exact h2.2 i hi⟩, comb_eq62 h3 _, fun q hq hne hq0 => ?_⟩
  obtain ⟨i, hi, rfl⟩ := rowAt_ne hq0
  rw [comb_lt (by omega)]
  exact hL.2.2 i j hi hj (fun z => hne (by rw [z]))
theorem rowAt_sat (hN : N ≤ 40) (hL : LSh least N k S hd) (a : Nat → Bool) : SatR N (rowAt k S B hd) a ↔ SatL N k S B a := by
  constructor
  · intro h j hj
    have := h (hd j) (hL.1 j hj).1
    rw [rowAt_hd hL hj] at this
    exact (comb_holds hN (hL.1 j hj).2.2 _ a).mp this
  · intro h q hq
    by_cases e : ∃ j, j < k ∧ hd j = q
    · obtain ⟨j, hj, rfl⟩ := e
      rw [rowAt_hd hL hj]
      exact (comb_holds hN (hL.1 j hj).2.2 _ a).mpr (h j hj)
    · rw [rowAt_no e]; exact holds_0
theorem rowAt_uni (hN : N ≤ 40) (hL : LSh true N k S hd) {j : Nat} (hj : j < k) : uni N (rowAt k S B hd) (hd j) ↔ S j = jshl 1 (nI (hd j)) := by
  obtain ⟨h1, h2, h3⟩ := hL.1 j hj
  unfold uni
  rw [rowAt_hd hL hj]
  constructor
  · intro h
    refine tb_ext (fun i _ => ?_)
    rw [tb_bit (by omega)]
    rcases Nat.lt_or_ge i N with q | q
    · rw [← h i q, comb_lt (by omega)]
    · rw [h3 i q, decide_eq_false (by omega)]
  · intro h i hi
    rw [comb_lt (by omega), h, tb_bit (by omega)]
theorem uni_rowAt {p : Nat} (hp : p < N) (hu : uni N (rowAt k S B hd) p) : ∃ j, j < k ∧ hd j = p := rowAt_ne (hu.ne hp)
end RAT
section FOL
variable {N : Nat} {F : Nat → Int64} {G : Nat → Int32} {Gb : Nat → Bool} {c : Nat} {Y Z : Nat → Int64} {m : Nat} {t0 o0 : Int64}
theorem or_zero (x : Int64) : x ||| 0 = x := tb_ext (fun i _ => by rw [tb_or, tb_0]; simp)
theorem take8 (tk on : Int64) (h : Nat) (b : Bool) : D_X8_take tk on (jshl 1 (nI h)) b = some (true, addT tk h, addO on h b) := by
  unfold D_X8_take addT addO
  cases b with
  | true => rw [cif_pos rfl, if_pos rfl]
  | false => rw [cif_neg (by simp), if_neg (by simp), or_zero]
theorem cf_loop (hN : N ≤ 40) (hm : m ≤ 60) (hC : CL N Y Z m) : ∀ (q k : Nat) (tk on : Int64), k + q = m → WF N tk on → Under N (E8 F Gb) c Y Z m t0 o0 tk on →
    ∃ ok tk' on', L_X8_clausesFollow_2 (nI m) 60 Y 60 Z (nI k) tk on = some (ok, tk', on') ∧
      (ok = true → WF N tk' on' ∧ Under N (E8 F Gb) c Y Z m t0 o0 tk' on' ∧ Sub N tk on tk' on' ∧ (tk' = tk → on' = on ∧ ∀ j, k ≤ j → j < m → cFine Y Z tk on j)) ∧ (ok = false → ResN N (E8 F Gb) c Y Z m t0 o0) := by
  intro q
  induction q with
  | zero =>
    intro k tk on hk hw hU
    refine ⟨true, tk, on, ?_, fun _ => ⟨hw, hU, Sub.rf, fun _ => ⟨rfl, fun j h1 h2 => by omega⟩⟩, fun h => by cases h⟩
    rw [E_X8_clausesFollow_2, cif_pos ((nI_leI (by omega) (by omega)).mpr (by omega))]
  | succ q ih =>
    intro k tk on hk hw hU
    have hkm : k < m := by omega
    obtain ⟨hY, hZ, hd⟩ := hC k hkm
    have next : cFine Y Z tk on k → ∃ ok tk' on', L_X8_clausesFollow_2 (nI m) 60 Y 60 Z (nI (k + 1)) tk on = some (ok, tk', on') ∧
      (ok = true → WF N tk' on' ∧ Under N (E8 F Gb) c Y Z m t0 o0 tk' on' ∧ Sub N tk on tk' on' ∧ (tk' = tk → on' = on ∧ ∀ j, k ≤ j → j < m → cFine Y Z tk on j)) ∧ (ok = false → ResN N (E8 F Gb) c Y Z m t0 o0) := by
      intro hf
      obtain ⟨ok, tk', on', r1, r2, r3⟩ := ih (k + 1) tk on (by omega) hw hU
      refine ⟨ok, tk', on', r1, fun h => ?_, r3⟩
      obtain ⟨a1, a2, a3, a4⟩ := r2 h
      refine ⟨a1, a2, a3, fun z => ?_⟩
      obtain ⟨b1, b2⟩ := a4 z
      exact ⟨b1, fun j h1 h2 => by
        rcases Nat.lt_or_ge k j with w | w
        · exact b2 j (by omega) h2
        · rw [show j = k by omega]; exact hf⟩
    have vp : vp_in (nI k) 60 := vp_in_nI (by omega) (by omega)
    rw [E_X8_clausesFollow_2, cif_neg (fun z => by have := (nI_leI (by omega) (by omega)).mp z; omega), nI_clamp (by omega), nI_1]
    simp only [cif_pos vp]
    by_cases hy : (Y k &&& on) = 0
    · rw [cif_pos hy]
      by_cases hz : ((Z k &&& tk) &&& (on ^^^ (-1))) = 0
      · rw [cif_pos hz]
        have hns : ¬ cSat Y Z tk on k := fun h => by
          rw [cSat_iff] at h
          rcases h with h | h
          · exact h hy
          · exact h hz
        by_cases ho : ((Y k ||| Z k) &&& (tk ^^^ (-1))) = 0
        · rw [cif_pos ho]
          refine ⟨false, tk, on, rfl, fun h => (by cases h), fun _ => ?_⟩
          exact hU.dead hw hkm ⟨hY, hZ⟩ hns (fun v hv => by
            have := (c_open k v).mpr hv
            rw [ho, tb_0] at this
            cases this)
        · rw [cif_neg ho]
          obtain ⟨h, hh, hl⟩ := low_ex ho
          rw [lowest_spec hl, Option.bind_some]
          by_cases h1 : jshl 1 (nI h) = ((Y k ||| Z k) &&& (tk ^^^ (-1)))
          · rw [cif_pos h1]
            have hone : ∀ i, tb ((Y k ||| Z k) &&& (tk ^^^ (-1))) i = true → i = h := fun i hi => by
              rw [← h1, tb_bit hh] at hi
              simpa using hi
            have hu : cUnit Y Z tk on k h := ⟨hns, (c_open k h).mp hl.1, fun w hw => hone w ((c_open k w).mpr hw)⟩
            obtain ⟨hhN, hU2⟩ := hU.unit hN hC hw hkm hu
            have hop : tb tk h = false := hu.2.1.2
            have road : ∀ b, tb (Y k) h = b → ∃ ok tk' on', Option.bind (D_X8_take tk on ((Y k ||| Z k) &&& (tk ^^^ (-1))) b) (fun u => L_X8_clausesFollow_2 (nI m) 60 Y 60 Z (nI (k + 1)) u.2.1 u.2.2) = some (ok, tk', on') ∧
                (ok = true → WF N tk' on' ∧ Under N (E8 F Gb) c Y Z m t0 o0 tk' on' ∧ Sub N tk on tk' on' ∧ (tk' = tk → on' = on ∧ ∀ j, k ≤ j → j < m → cFine Y Z tk on j)) ∧ (ok = false → ResN N (E8 F Gb) c Y Z m t0 o0) := by
              intro b hb
              rw [hb] at hU2
              rw [← h1, take8, Option.bind_some]
              obtain ⟨ok, tk', on', r1, r2, r3⟩ := ih (k + 1) _ _ (by omega) (hw.add hN hhN b) hU2
              refine ⟨ok, tk', on', r1, fun z => ?_, r3⟩
              obtain ⟨a1, a2, a3, a4⟩ := r2 z
              refine ⟨a1, a2, (Sub.add hN hw hhN hop b).tr a3, fun w => ?_⟩
              have := (a3 h hhN (by rw [addT_tb (by omega)]; simp)).1
              rw [w, hop] at this
              cases this
            have hyb : (Y k &&& ((Y k ||| Z k) &&& (tk ^^^ (-1)))) = 0 ↔ tb (Y k) h = false := by
              rw [← h1]
              exact hi_and (by omega)
            cases w : tb (Y k) h with
            | false => rw [cif_pos (hyb.mpr w)]; exact road false w
            | true => rw [cif_neg (fun z => by rw [hyb.mp z] at w; cases w)]; exact road true w
          · rw [cif_neg h1]
            refine next (Or.inr (two_open hl (fun z => h1 ?_)))
            have hone := (one_bit hl).mp z
            refine tb_ext (fun i hi => ?_)
            rw [tb_bit hh]
            by_cases w : i = h
            · rw [w, hl.1]; simp
            · rw [decide_eq_false w]
              cases v : tb ((Y k ||| Z k) &&& (tk ^^^ (-1))) i with
              | false => rfl
              | true => exact absurd (hone i v) w
      · rw [cif_neg hz]
        exact next (Or.inl ((cSat_iff k).mpr (Or.inr hz)))
    · rw [cif_neg hy]
      exact next (Or.inl ((cSat_iff k).mpr (Or.inl hy)))
/-- the rows by themselves: what they say with what is taken -/
theorem mk_TI (hN : N ≤ 40) (hE : EQ8 N c F G Gb) {tk on : Int64} (hw : WF N tk on) {k : Nat} {imp : Bool} {S : Nat → Int64} {B : Nat → Bool} {hd : Nat → Nat} (hL : LSh true N k S hd) (hv : ∀ v, v < N → tb tk v = true → ∀ j, j < k → tb (S j) v = false) (hs : ∀ a, Ext N tk on a → ((imp = false ∧ SatL N k S B a) ↔ ∀ j, j < c → dot N (F j) a = Gb j)) : TI N (E8 F Gb) c tk on imp (rowAt k S B hd) := by
  refine ⟨hw, rowAt_shape hN hL, fun v hvN ht h hh => ?_, fun a ha => ?_⟩
  · by_cases e : ∃ j, j < k ∧ hd j = h
    · obtain ⟨j, hj, rfl⟩ := e
      rw [rowAt_hd hL hj, comb_lt (by omega)]
      exact hv v hvN ht j hj
    · rw [rowAt_no e]; exact tb_0 v
  · rw [rowAt_sat hN hL a, hs a ha, E8_sat hN hE]
/-- the rows that are one variable: all taken -/
theorem af_rows (hN : N ≤ 40) {k : Nat} {S : Nat → Int64} {T : Nat → Int32} {B : Nat → Bool} {hd : Nat → Nat} {t1 o1 : Int64} (hL : LSh true N k S hd) (hT : ∀ j, j < k → T j = bI (B j)) (hTI : TI N (E8 F Gb) c t1 o1 false (rowAt k S B hd)) (eq cl : Int32) (had : Int64) (nF : Nat) (nY nZ : Nat) (nG : Nat) :
    ∀ (q j : Nat) (tk on : Int64), j + q = k → WF N tk on → Under N (E8 F Gb) c Y Z m t0 o0 tk on → Sub N t1 o1 tk on → (∀ i, j ≤ i → i < k → tb tk (hd i) = false) → (tk = t1 → on = o1 ∧ ∀ i, i < j → ¬ uni N (rowAt k S B hd) (hd i)) →
      ∃ tk' on', L_X8_allFollows_51 eq cl nF F nG G nY Y nZ Z 60 60 had (nI j) (nI k) false tk on S T = L_X8_allFollows_4 eq cl nF F nG G nY Y nZ Z 60 60 had (nI k) false tk' on' S T ∧ WF N tk' on' ∧ Under N (E8 F Gb) c Y Z m t0 o0 tk' on' ∧ Sub N t1 o1 tk' on' ∧ (tk' = t1 → on' = o1 ∧ ∀ p, p < N → ¬ uni N (rowAt k S B hd) p) := by
  have hkN := hL.le
  intro q
  induction q with
  | zero =>
    intro j tk on hj hw hU hS hop hc
    have : j = k := by omega
    subst this
    refine ⟨tk, on, ?_, hw, hU, hS, fun z => ⟨(hc z).1, fun p hp hu => ?_⟩⟩
    · rw [E_X8_allFollows_51, cif_pos ((nI_leI (by omega) (by omega)).mpr (Nat.le_refl _))]
    · obtain ⟨i, hi, rfl⟩ := uni_rowAt hp hu
      exact (hc z).2 i hi hu
  | succ q ih =>
    intro j tk on hj hw hU hS hop hc
    have hjk : j < k := by omega
    obtain ⟨h1, h2, h3⟩ := hL.1 j hjk
    have vp : vp_in (nI j) 60 := vp_in_nI (by omega) (by omega)
    have hgo : tb tk (hd j) = false := hop j (Nat.le_refl j) hjk
    rw [E_X8_allFollows_51, cif_neg (fun z => by have := (nI_leI (by omega) (by omega)).mp z; omega), nI_clamp (by omega), nI_1]
    simp only [cif_pos vp]
    rw [lowest_spec (show isLow (S j) (hd j) from h2), Option.bind_some]
    by_cases hu : uni N (rowAt k S B hd) (hd j)
    · have hb := (rowAt_uni hN hL hjk).mp hu
      have hf := hTI.forced hN h1 hu
      rw [rowAt_hd hL hjk, comb_62 hN h3] at hf
      have hU2 := hU.forced hN hw h1 hgo (fun a ha hs => hf a (hS.ext ha) hs)
      have hw2 := hw.add hN h1 (B j)
      obtain ⟨tk', on', r1, r2, r3, r4, r5⟩ := ih (j + 1) _ _ (by omega) hw2 hU2 (hS.tr (Sub.add hN hw h1 hgo (B j))) (fun i hi hik => by
        rw [addT_tb (by omega), hop i (by omega) hik]
        have : hd i ≠ hd j := fun z => by have := hL.inj hik hjk z; omega
        rw [decide_eq_false this]; rfl) (fun z => by
        have h5 := hTI.open_of_uni h1 hu
        rw [← z, addT_tb (by omega)] at h5
        simp at h5)
      refine ⟨tk', on', ?_, r2, r3, r4, r5⟩
      rw [cif_pos hb.symm, hT j hjk, hb]
      cases w : B j with
      | true => rw [w] at r1; rw [cif_pos bI_t, take8, Option.bind_some]; exact r1
      | false => rw [w] at r1; rw [cif_neg (by decide), take8, Option.bind_some]; exact r1
    · rw [cif_neg (fun z => hu ((rowAt_uni hN hL hjk).mpr z.symm))]
      exact ih (j + 1) tk on (by omega) hw hU hS (fun i hi hik => hop i (by omega) hik) (fun z => ⟨(hc z).1, fun i hi => by
        by_cases w : i = j
        · rw [w]; exact hu
        · exact (hc z).2 i (by omega)⟩)
/-- what allFollows answers: truth, the state -/
def AfOut (N : Nat) (E : Nat → Int64) (c : Nat) (Y Z : Nat → Int64) (m : Nat) (t0 o0 : Int64) (r : Bool × Int32 × Bool × Int64 × Int64 × (Nat → Int64) × (Nat → Int32)) : Prop :=
  (r.1 = true → ResS N E c Y Z m t0 o0 r.2.2.2.1 r.2.2.2.2.1) ∧ (r.1 = false → ResN N E c Y Z m t0 o0)
theorem af_loop (hN : N ≤ 40) (hm : m ≤ 60) (hC : CL N Y Z m) (hE : EQ8 N c F G Gb) : ∀ (d : Nat) (had : Int64) (rc : Int32) (im : Bool) (tk on : Int64) (S : Nat → Int64) (T : Nat → Int32), cnt N tk + d = N → WF N tk on → Under N (E8 F Gb) c Y Z m t0 o0 tk on → Sub N t0 o0 tk on → (had = tk → Good N (E8 F Gb) c Y Z m tk on) →
    ∃ r, L_X8_allFollows_4 (nI c) (nI m) 60 F 60 G 60 Y 60 Z 60 60 had rc im tk on S T = some r ∧ AfOut N (E8 F Gb) c Y Z m t0 o0 r := by
  intro d
  induction d using Nat.strongRecOn with
  | ind d ih =>
    intro had rc im tk on S T hd hw hU hS hg
    rw [E_X8_allFollows_4]
    by_cases e : had = tk
    · rw [cif_pos e]
      exact ⟨_, rfl, fun _ => ⟨hw, hS, hg e, hU⟩, fun h => by cases h⟩
    · rw [cif_neg e]
      obtain ⟨ok, t1, o1, e1, h1, h2⟩ := cf_loop (t0 := t0) (o0 := o0) (F := F) (Gb := Gb) (c := c) hN hm hC m 0 tk on (by omega) hw hU
      have e1' : D_X8_clausesFollow (nI m) tk on 60 Y 60 Z = some (ok, t1, o1) := by
        unfold D_X8_clausesFollow
        exact e1
      rw [e1', Option.bind_some]
      cases ok with
      | false =>
        rw [cif_neg (by simp)]
        exact ⟨_, rfl, fun h => (by cases h), fun _ => h2 rfl⟩
      | true =>
        obtain ⟨hw1, hU1, hS1, hc1⟩ := h1 rfl
        rw [cif_pos rfl]
        obtain ⟨k, imp, S1, T1, B1, hd1, em, hL, hT, hv, hs⟩ := mk_spec (least := true) hN hE hw1 rc im S T
        have hTI := mk_TI hN hE hw1 hL hv hs
        show ∃ r, Option.bind (D_X8_makeRows (nI c) rc im 60 F 60 G 60 S 60 T t1 o1 true) _ = some r ∧ _
        rw [em, Option.bind_some]
        cases imp with
        | true =>
          rw [cif_pos rfl]
          refine ⟨_, rfl, fun h => (by cases h), fun _ => hU1.imp (fun a ha hsat => ?_)⟩
          have := (hTI.2.2.2 a ha).mpr hsat
          cases this.1
        | false =>
          rw [cif_neg (by simp)]
          obtain ⟨t2, o2, e2, hw2, hU2, hS2, hc2⟩ := af_rows (t0 := t0) (o0 := o0) (Y := Y) (Z := Z) (m := m) (G := G) hN hL hT hTI (nI c) (nI m) tk 60 60 60 60 k 0 t1 o1 (by omega) hw1 hU1 Sub.rf (fun i _ hi => by
            have h5 := (hL.1 i hi)
            cases z : tb t1 (hd1 i) with
            | false => rfl
            | true =>
              have := hv (hd1 i) h5.1 z i hi
              rw [h5.2.1.bit] at this
              cases this) (fun _ => ⟨rfl, fun i hi => by omega⟩)
          show ∃ r, L_X8_allFollows_51 (nI c) (nI m) 60 F 60 G 60 Y 60 Z 60 60 tk (nI 0) (nI k) false t1 o1 S1 T1 = some r ∧ _
          rw [e2]
          have hle1 : cnt N tk ≤ cnt N t1 := cnt_mono (fun i _ => hS1.tbs hw i)
          have hle2 : cnt N t1 ≤ cnt N t2 := cnt_mono (fun i _ => hS2.tbs hw1 i)
          have hmax := cnt_le N t2
          by_cases z : t2 = tk
          · -- nothing more: closed
            have hz1 : t1 = tk := by
              apply Classical.byContradiction
              intro hne
              obtain ⟨p, hp, p1, p2⟩ := hw.ne_bit hw1 hS1 hne
              have := hS2.tbs hw1 p p2
              rw [z, p1] at this
              cases this
            obtain ⟨ho1, hf⟩ := hc1 hz1
            obtain ⟨ho2, hu⟩ := hc2 (z.trans hz1.symm)
            subst hz1
            have ho : o2 = on := ho2.trans ho1
            subst z; subst ho
            rw [ho1] at hTI
            refine ⟨_, by rw [E_X8_allFollows_4, cif_pos rfl], fun _ => ⟨hw, hS, hTI.good hN hu (fun q hq => hf q (Nat.zero_le q) hq), hU⟩, fun h => by cases h⟩
          · have hlt : cnt N tk < cnt N t2 := by
              obtain ⟨p, hp, p1, p2⟩ := hw.ne_bit hw2 (hS1.tr hS2) z
              exact cnt_lt (fun i _ => (hS1.tr hS2).tbs hw i) hp p1 p2
            exact ih (N - cnt N t2) (by omega) tk (nI k) false t2 o2 S1 T1 (by omega) hw2 hU2 ((hS.tr hS1).tr hS2) (fun h => absurd h.symm z)
theorem af_spec (hN : N ≤ 40) (hm : m ≤ 60) (hC : CL N Y Z m) (hE : EQ8 N c F G Gb) {tk on : Int64} (hw : WF N tk on) (rc : Int32) (im : Bool) (S : Nat → Int64) (T : Nat → Int32) : ∃ r, D_X8_allFollows (nI c) (nI m) rc im tk on 60 F 60 G 60 Y 60 Z 60 S 60 T = some r ∧ AfOut N (E8 F Gb) c Y Z m tk on r := by
  obtain ⟨r, e, h⟩ := af_loop (t0 := tk) (o0 := on) hN hm hC hE (N - cnt N tk) (-1) rc im tk on S T (by have := cnt_le N tk; omega) hw Under.start Sub.rf (fun h => by
    have : tb tk 50 = true := by rw [← h]; exact tb_m1 50 (by decide)
    rw [hw.1 50 (by omega)] at this
    cases this)
  refine ⟨r, ?_, h⟩
  unfold D_X8_allFollows
  exact e
end FOL
