/-! CORE 3: what constructors make -/
def clampN (x : Int32) : Nat := if x < 1 then 1 else if 40 < x then 40 else x.toNatClampNeg
theorem clampN_le (x : Int32) : clampN x ≤ 40 := by
  unfold clampN
  split
  · decide
  · split
    · decide
    · next h1 h2 =>
      rw [Int32.lt_iff_toInt_lt] at h1 h2
      have e1 : (1 : Int32).toInt = 1 := by decide
      have e2 : (40 : Int32).toInt = 40 := by decide
      rw [e1] at h1
      rw [e2] at h2
      unfold Int32.toNatClampNeg
      omega
theorem clampN_pos (x : Int32) : 1 ≤ clampN x := by
  unfold clampN
  split
  · decide
  · split
    · decide
    · next h1 h2 =>
      rw [Int32.lt_iff_toInt_lt] at h1
      have e1 : (1 : Int32).toInt = 1 := by decide
      rw [e1] at h1
      unfold Int32.toNatClampNeg
      omega
theorem clampN_nI {x : Int32} (h1 : ¬ x < 1) (h2 : ¬ 40 < x) : x = nI x.toNatClampNeg := by
  rw [Int32.lt_iff_toInt_lt] at h1
  have e1 : (1 : Int32).toInt = 1 := by decide
  rw [e1] at h1
  obtain ⟨j, hj, e⟩ := nI_of (x := x) (by rw [Int32.lt_iff_toInt_lt, Int32.toInt_zero]; omega)
  rw [e, nI_clamp hj]
theorem clampN_7 (x : Int32) : jmax (1 : Int32) (jmin x (40 : Int32)) = nI (clampN x) := by
  unfold clampN
  by_cases h1 : x < 1
  · have h2 : ¬ (40 : Int32) < x := by
      rw [Int32.lt_iff_toInt_lt] at h1 ⊢
      have e1 : (1 : Int32).toInt = 1 := by decide
      have e2 : (40 : Int32).toInt = 40 := by decide
      omega
    have h3 : ¬ (1 : Int32) < x := by
      rw [Int32.lt_iff_toInt_lt] at h1 ⊢
      omega
    rw [if_pos h1]
    show (if (1 : Int32) < (if (40 : Int32) < x then 40 else x) then (if (40 : Int32) < x then 40 else x) else 1) = _
    rw [if_neg h2, if_neg h3]
    decide
  · rw [if_neg h1]
    show (if (1 : Int32) < (if (40 : Int32) < x then 40 else x) then (if (40 : Int32) < x then 40 else x) else 1) = _
    by_cases h2 : (40 : Int32) < x
    · rw [if_pos h2, if_pos h2, if_pos (by decide)]
      decide
    · rw [if_neg h2, if_neg h2]
      by_cases h3 : (1 : Int32) < x
      · rw [if_pos h3]
        exact clampN_nI h1 h2
      · rw [if_neg h3, ← clampN_nI h1 h2]
        rw [Int32.lt_iff_toInt_lt] at h1 h3
        apply Int32.toInt_inj.mp
        omega
section KZ
variable {p : Program} {l : Launch} {e : Env} {R : Room} {s : State} {m : MethodId} {args : Array Value} {below : List Frame} {meth : Method} {c : Code} {H : Heap} {locs : List Loc} {cells slots : Nat} {Q : State → Prop}
variable {D : va_G} {cI cL : ClassId} {A : Nat → Prop} {pc : Nat} {ls : Array Slot} {rest : List Value} {ws : va_W} {cc : ByteArray} {H0 : Heap}
theorem kz_cls {tys : List (ClassId × FieldType)} {cA cB : ClassId} {ty : FieldType} {i j : Nat} (hK : va_K D vwCl tys s) (h1 : tys[i]? = some (cA, ty)) (h2 : tys[j]? = some (cB, ty)) (hp : ty = .int ∨ ty = .long) : cA = cB := by
  have a := (hK.2 i _ h1).2
  have b := (hK.2 j _ h2).2
  rcases hp with rfl | rfl
  · exact Option.some.inj ((show s.vm.findClass _ = some cA from a).symm.trans b)
  · exact Option.some.inj ((show s.vm.findClass _ = some cA from a).symm.trans b)
theorem kz_newl (hexec : p.tables.exec = Jvm.exec) (hb : c.code = cc) (harr : (Cond.arrayClass .long).before args s = true) (hEV : EV D cI cL s) (hP : va_P D vwCl ws H) (hD : va_D A ws) (hS : va_S A s.heap H locs) (hA : ∀ q, s.heap.size ≤ q → A q)
    {n : Int32} {N' : Nat} (hN : n = nI N') (hN2 : N' ≤ 2000) (hcells : cells + 1 ≤ R.cells) (hslots : slots + N' ≤ R.slots) (hdg : decode cc pc = .ok (.newarray .long, 2))
    (kk : ∀ (q : Nat) (H1 : Heap), va_P D vwCl (ws ++ [(q, .inl (cL, N', .inr (.inl (fun _ => (0 : Int64)))))]) H1 → va_D A (ws ++ [(q, .inl (cL, N', .inr (.inl (fun _ => (0 : Int64)))))]) → va_S A s.heap H1 locs →
      W p l e R s m args below meth c H1 locs (cells + 1) (slots + N') Q (F0 m (pc + 2) ls (.ref q :: rest))) : W p l e R s m args below meth c H locs cells slots Q (F0 m pc ls (.int n :: rest)) := by
  refine va_newa (atype := .long) (ty := .long) (N' := N') (a0 := (N', .inr (.inl (fun _ => (0 : Int64))))) hexec hb harr rfl hEV.K hP hD hS hA (fun _ => rfl) (by rw [hN]; exact nI_pos (by omega)) (by rw [hN]; exact nI_clamp (by omega)) (Nat.le_trans (Nat.mul_le_mul_right 8 hN2) (by decide)) hcells hslots hdg (fun q cA H1 hK1 hP1 hD1 hS1 => ?_)
  have hc : cA = cL := kz_cls hK1 (i := 2) (j := 1) rfl rfl (Or.inr rfl)
  subst hc
  exact kk q H1 hP1 hD1 hS1
theorem kz_newi (hexec : p.tables.exec = Jvm.exec) (hb : c.code = cc) (harr : (Cond.arrayClass .int).before args s = true) (hEV : EV D cI cL s) (hP : va_P D vwCl ws H) (hD : va_D A ws) (hS : va_S A s.heap H locs) (hA : ∀ q, s.heap.size ≤ q → A q)
    {n : Int32} {N' : Nat} (hN : n = nI N') (hN2 : N' ≤ 2000) (hcells : cells + 1 ≤ R.cells) (hslots : slots + N' ≤ R.slots) (hdg : decode cc pc = .ok (.newarray .int, 2))
    (kk : ∀ (q : Nat) (H1 : Heap), va_P D vwCl (ws ++ [(q, .inl (cI, N', .inl (fun _ => (0 : Int32))))]) H1 → va_D A (ws ++ [(q, .inl (cI, N', .inl (fun _ => (0 : Int32))))]) → va_S A s.heap H1 locs →
      W p l e R s m args below meth c H1 locs (cells + 1) (slots + N') Q (F0 m (pc + 2) ls (.ref q :: rest))) : W p l e R s m args below meth c H locs cells slots Q (F0 m pc ls (.int n :: rest)) := by
  refine va_newa (atype := .int) (ty := .int) (N' := N') (a0 := (N', .inl (fun _ => (0 : Int32)))) hexec hb harr rfl hEV.K hP hD hS hA (fun _ => rfl) (by rw [hN]; exact nI_pos (by omega)) (by rw [hN]; exact nI_clamp (by omega)) (Nat.le_trans (Nat.mul_le_mul_right 4 hN2) (by decide)) hcells hslots hdg (fun q cA H1 hK1 hP1 hD1 hS1 => ?_)
  have hc : cA = cI := kz_cls hK1 (i := 2) (j := 0) rfl rfl (Or.inl rfl)
  subst hc
  exact kk q H1 hP1 hD1 hS1
end KZ
