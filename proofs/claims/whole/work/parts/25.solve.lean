/-! SOLVE, MODELS, MUST -/
theorem l_lt (x y : Int32) : x.toInt64 < y.toInt64 ↔ x < y := by
  rw [Int64.lt_iff_toInt_lt, Int32.lt_iff_toInt_lt, Int32.toInt_toInt64, Int32.toInt_toInt64]
theorem isIn_yes {x a b : Int32} (h1 : ¬ x < a) (h2 : ¬ b < x) : D_X8_isIn x.toInt64 a.toInt64 b.toInt64 = some true := by
  unfold D_X8_isIn
  rw [cif_neg (fun z => h1 ((l_lt _ _).mp z)), cif_neg (fun z => h2 ((l_lt _ _).mp z))]
theorem isIn_lo {x a b : Int32} (h1 : x < a) : D_X8_isIn x.toInt64 a.toInt64 b.toInt64 = some false := by
  unfold D_X8_isIn
  rw [cif_pos ((l_lt _ _).mpr h1)]
theorem isIn_no {x a b : Int32} (h : ¬ (¬ x < a ∧ ¬ b < x)) : D_X8_isIn x.toInt64 a.toInt64 b.toInt64 = some false := by
  by_cases q : x < a
  · exact isIn_lo q
  · unfold D_X8_isIn
    rw [cif_neg (fun z => q ((l_lt _ _).mp z)), cif_pos ((l_lt _ _).mpr (Classical.byContradiction (fun z => h ⟨q, z⟩)))]
theorem nodes_yes {x : Int32} (h1 : ¬ x < 1) (h2 : ¬ 5000 < x) : D_X7_areNodes x = some true := by
  unfold D_X7_areNodes; rw [cif_neg h1, cif_neg h2]
theorem nodes_no {x : Int32} (h : ¬ (¬ x < 1 ∧ ¬ 5000 < x)) : D_X7_areNodes x = some false := by
  unfold D_X7_areNodes
  by_cases q : x < 1
  · rw [cif_pos q]
  · rw [cif_neg q, cif_pos (Classical.byContradiction (fun z => h ⟨q, z⟩))]
theorem i_le_of {x y : Int32} (h : ¬ y < x) : x ≤ y := Int32.not_lt.mp h
theorem nodes_nI {x : Int32} (h1 : ¬ x < 1) (h2 : ¬ 5000 < x) : ∃ lim, lim ≤ 5000 ∧ x = nI lim := by
  refine nI_of2 (M := 5000) (n := 5000) (by decide) (fun z => h1 ?_) (i_le_of h2)
  rw [Int32.lt_iff_toInt_lt] at z ⊢
  have a : (0 : Int32).toInt = 0 := by decide
  have b : (1 : Int32).toInt = 1 := by decide
  omega
section SOL
variable {N c m : Nat} {E Y Z F : Nat → Int64} {G : Nat → Int32} {Gb : Nat → Bool} {Y8 Z8 : Nat → Int64} {tk on : Int64} {imp : Bool} {R : Nat → Int64}
theorem sea_eq (hr : Rel N c m E Y Z F G Gb Y8 Z8) {lim : Nat} (hlim : lim ≤ 5000) (first : Bool) (nc : Int32) (hT : TI N E c tk on imp R) (lm : Int64) (PR PT PO : Nat → Int64) (rc : Int32) (im : Bool) (t8 o8 mc8 mi : Int64) (S : Nat → Int64) (T : Nat → Int32) (WT WO : Nat → Int64) :
    ∃ r s, D_X3_run (nI N) 0 0 0 lm false (nI N) tk on (nI N) imp N R (N * N) PR N PT N PO (nI m) 60 Y 60 Z (nI lim) first = some r ∧
      D_X8_search (nI N) (nI c) (nI m) rc im t8 o8 nc mc8 mi 60 F 60 G 60 Y8 60 Z8 60 S 60 T 100 WT 100 WO tk on (nI lim) (!first) = some s ∧ SrOut first nc r s := by
  obtain ⟨r, s, e1, e2, h⟩ := run_loop hr hlim first nc tk on lim 0 0 0 lm tk on imp R PR PT PO rc im t8 o8 mi S T (vp_updL WT 0 tk) (vp_updL WO 0 on) (by omega) hT (Nat.zero_le _) (fun j hj => by omega) pk_uLs pk_uLs (Nat.le_refl 0) (fun _ => rfl)
  refine ⟨r, s, ?_, ?_, h⟩
  · unfold D_X3_run; exact e1
  · unfold D_X8_search
    rw [cif_pos (show vp_in (0 : Int32) 100 from vp_in_nI (n := 0) (by omega) (by omega)), cif_pos (show vp_in (0 : Int32) 100 from vp_in_nI (n := 0) (by omega) (by omega))]
    exact e2
theorem sbegin_spec (hN : N ≤ 40) (h : Says N E c imp R) (a b d : Int32) (k : Bool) (tt to : Int64) (ti : Bool) (tR : Nat → Int64) : ∃ R', D_X3_begin a b d k tt to (nI N) ti N tR (nI N) imp N R = some (0, 0, 0, false, 0, 0, imp, R') ∧ TI N E c 0 0 imp R' := by
  obtain ⟨R', e, h'⟩ := begin_spec hN h tt to ti tR
  exact ⟨R', by unfold D_X3_begin; rw [e]; rfl, h'⟩
theorem solve_eq (hr : Rel N c m E Y Z F G Gb Y8 Z8) {fr : Bool} (hf : Fresh N E c fr imp R) (ln : Int32) (lmod : Int64) (ps snc smc : Int32) (slm : Int64) (scut : Bool) (stk son : Int64) (simp : Bool) (sR PR PT PO : Nat → Int64)
    (th rc : Int32) (im : Bool) (t8 o8 mc8 mi8 : Int64) (S : Nat → Int64) (T : Nat → Int32) (WT WO : Nat → Int64) (x : Int32) :
    ∃ r s, D_X7_solve fr ln lmod (nI c) (nI m) 60 E 60 Y 60 Z (nI N) imp N R (nI N) ps snc smc slm scut (nI N) stk son (nI N) simp N sR (N * N) PR N PT N PO x = some r ∧
      D_X8_solve th (nI N) (nI c) (nI m) rc im t8 o8 ln lmod mc8 mi8 60 F 60 G 60 Y8 60 Z8 60 S 60 T 100 WT 100 WO x = some s ∧ Fresh N E c r.2.1 r.2.2.2.2.1 r.2.2.2.2.2.1 ∧
      r.2.2.1 = s.2.2.2.2.2.2.1 ∧ r.2.2.2.1 = s.2.2.2.2.2.2.2.1 ∧ ((r.1 = .inr 0 ∧ s.2.1 = 1) ∨ (r.1 = .inl s.1 ∧ s.2.1 = 0)) := by
  have hN := hr.hN
  unfold D_X7_solve D_X8_solve
  by_cases hq : ¬ x < 1 ∧ ¬ 5000 < x
  · obtain ⟨lim, hlim, rfl⟩ := nodes_nI hq.1 hq.2
    obtain ⟨i1, R1, e1, h1⟩ := fresh_spec hr hf
    obtain ⟨R2, e2, h2⟩ := sbegin_spec hN h1 ps snc smc scut stk son simp sR
    obtain ⟨r, s, e3, e4, h3⟩ := sea_eq hr hlim true 0 h2 slm PR PT PO rc im t8 o8 mc8 mi8 S T WT WO
    have fr' : Fresh N E c true i1 R1 := fun _ => h1
    rw [nodes_yes hq.1 hq.2, Option.bind_some, cif_pos rfl, e1, Option.bind_some, e2, Option.bind_some]
    rw [show D_X8_isIn (nI lim).toInt64 1 5000 = some true from isIn_yes (a := 1) (b := 5000) hq.1 hq.2, Option.bind_some, may_tt, Option.bind_some, cif_pos rfl]
    rw [show D_X3_run (nI N) (0, 0, 0, false, (0 : Int64), (0 : Int64), i1, R2).1 (0, 0, 0, false, (0 : Int64), (0 : Int64), i1, R2).2.1 (0, 0, 0, false, (0 : Int64), (0 : Int64), i1, R2).2.2.1 slm (0, 0, 0, false, (0 : Int64), (0 : Int64), i1, R2).2.2.2.1 (nI N) (0, 0, 0, false, (0 : Int64), (0 : Int64), i1, R2).2.2.2.2.1 (0, 0, 0, false, (0 : Int64), (0 : Int64), i1, R2).2.2.2.2.2.1 (nI N) (0, 0, 0, false, (0 : Int64), (0 : Int64), i1, R2).2.2.2.2.2.2.1 N (0, 0, 0, false, (0 : Int64), (0 : Int64), i1, R2).2.2.2.2.2.2.2 (N * N) PR N PT N PO (nI m) 60 Y 60 Z (nI lim) true = some r from e3, Option.bind_some]
    rw [show (false : Bool) = !true from rfl, e4, Option.bind_some]
    obtain ⟨t, mc, b1, b2, b3, b4, b5, b6, b7⟩ := h3
    have b8 : (0 : Int32) + nI t = nI t := Int32.zero_add _
    rw [b8] at b4
    rcases b7 with ⟨k1, k2, k3⟩ | ⟨k1, -, k3⟩ | ⟨-, k2, -⟩
    · have := k3 rfl; subst this
      rw [b5, k1, k2, cif_pos (by decide), cif_pos rfl, cif_neg (by decide)]
      exact ⟨_, _, rfl, rfl, fr', by rw [b3, b4], rfl, Or.inr ⟨rfl, rfl⟩⟩
    · rcases k3 with ⟨k4, k5, k6⟩ | ⟨k4, k5⟩
      · subst k4
        rw [b5, k1, k5, cif_neg (by decide), cif_neg (by simp), cif_pos rfl]
        exact ⟨_, _, rfl, rfl, fr', by rw [b3, b4], k6, Or.inr ⟨rfl, rfl⟩⟩
      · subst k4
        rw [b5, k1, k5, cif_pos (by decide), cif_neg (by simp), cif_neg (by decide)]
        exact ⟨_, _, rfl, rfl, fr', by rw [b3, b4], rfl, Or.inr ⟨rfl, rfl⟩⟩
    · cases k2
  · rw [nodes_no hq, Option.bind_some, cif_neg (by simp)]
    rw [show D_X8_isIn x.toInt64 1 5000 = some false from isIn_no (a := 1) (b := 5000) hq, Option.bind_some, may_f, Option.bind_some, cif_neg (by simp)]
    exact ⟨_, _, rfl, rfl, hf, rfl, rfl, Or.inl ⟨rfl, rfl⟩⟩
theorem models_eq (hr : Rel N c m E Y Z F G Gb Y8 Z8) {fr : Bool} (hf : Fresh N E c fr imp R) (ln : Int32) (ps snc smc : Int32) (slm : Int64) (scut : Bool) (stk son : Int64) (simp : Bool) (sR PR PT PO : Nat → Int64)
    (th rc : Int32) (im : Bool) (t8 o8 mc8 mi8 : Int64) (S : Nat → Int64) (T : Nat → Int32) (WT WO : Nat → Int64) (x : Int32) :
    ∃ r s, D_X7_models fr ln (nI c) (nI m) 60 E 60 Y 60 Z (nI N) imp N R (nI N) ps snc smc slm scut (nI N) stk son (nI N) simp N sR (N * N) PR N PT N PO x = some r ∧
      D_X8_models th (nI N) (nI c) (nI m) rc im t8 o8 ln mc8 mi8 60 F 60 G 60 Y8 60 Z8 60 S 60 T 100 WT 100 WO x = some s ∧ Fresh N E c r.2.1 r.2.2.2.1 r.2.2.2.2.1 ∧
      r.2.2.1 = s.2.2.2.2.2.2.1 ∧ ((r.1 = .inr 0 ∧ s.2.1 = 1) ∨ (r.1 = .inl s.1 ∧ s.2.1 = 0)) := by
  have hN := hr.hN
  unfold D_X7_models D_X8_models
  by_cases hq : ¬ x < 1 ∧ ¬ 5000 < x
  · obtain ⟨lim, hlim, rfl⟩ := nodes_nI hq.1 hq.2
    obtain ⟨i1, R1, e1, h1⟩ := fresh_spec hr hf
    obtain ⟨R2, e2, h2⟩ := sbegin_spec hN h1 ps snc smc scut stk son simp sR
    obtain ⟨r, s, e3, e4, h3⟩ := sea_eq hr hlim false 0 h2 slm PR PT PO rc im t8 o8 mc8 mi8 S T WT WO
    have fr' : Fresh N E c true i1 R1 := fun _ => h1
    rw [nodes_yes hq.1 hq.2, Option.bind_some, cif_pos rfl, e1, Option.bind_some, e2, Option.bind_some]
    rw [show D_X8_isIn (nI lim).toInt64 1 5000 = some true from isIn_yes (a := 1) (b := 5000) hq.1 hq.2, Option.bind_some, may_tt, Option.bind_some, cif_pos rfl]
    dsimp only
    simp only [Bool.not_false] at e4
    rw [e3, Option.bind_some, e4, Option.bind_some]
    obtain ⟨t, mc, b1, b2, b3, b4, b5, b6, b7⟩ := h3
    have b8 : (0 : Int32) + nI t = nI t := Int32.zero_add _
    rw [b8] at b4
    rcases b7 with ⟨k1, k2, k3⟩ | ⟨-, k2, -⟩ | ⟨k1, -, k3⟩
    · rw [k1, k2, cif_pos rfl, cif_pos rfl]
      exact ⟨_, _, rfl, rfl, fr', by rw [b3, b4], Or.inr ⟨rfl, rfl⟩⟩
    · cases k2
    · rw [k1, k3, cif_neg (by simp), cif_neg (by decide)]
      exact ⟨_, _, rfl, rfl, fr', by rw [b3, b4], Or.inr ⟨by rw [b5, b6, nI_l (by omega)], rfl⟩⟩
  · rw [nodes_no hq, Option.bind_some, cif_neg (by simp)]
    rw [show D_X8_isIn x.toInt64 1 5000 = some false from isIn_no (a := 1) (b := 5000) hq, Option.bind_some, may_f, Option.bind_some, cif_neg (by simp)]
    exact ⟨_, _, rfl, rfl, hf, rfl, Or.inl ⟨rfl, rfl⟩⟩
theorem zero_or' (x : Int64) : 0 ||| x = x := tb_ext (fun i _ => by rw [tb_or, tb_0]; simp)
theorem addT_0 (v : Nat) : addT 0 v = jshl 1 (nI v) := zero_or' _
theorem addO_0 (v : Nat) (b : Bool) : addO 0 v b = if b then jshl 1 (nI v) else 0 := by unfold addO; rw [zero_or']
/-- one of must's two searches -/
theorem with_eq (hr : Rel N c m E Y Z F G Gb Y8 Z8) (hs : Says N E c imp R) {lim : Nat} (hlim : lim ≤ 5000) {v : Nat} (hv : v < N) (b : Bool) (ln : Int32) (ps snc smc : Int32) (slm : Int64) (scut : Bool) (stk son : Int64) (simp : Bool) (sR PR PT PO : Nat → Int64)
    (rc : Int32) (im : Bool) (t8 o8 mc8 mi8 : Int64) (S : Nat → Int64) (T : Nat → Int32) (WT WO : Nat → Int64) :
    ∃ R2 i3 R3 r s, D_X3_begin ps snc smc scut stk son (nI N) simp N sR (nI N) imp N R = some (0, 0, 0, false, 0, 0, imp, R2) ∧
      D_X5_take 0 0 (nI N) imp N R2 (nI v) b = some (addT 0 v, addO 0 v b, i3, R3) ∧
      D_X3_run (nI N) 0 0 0 slm false (nI N) (addT 0 v) (addO 0 v b) (nI N) i3 N R3 (N * N) PR N PT N PO (nI m) 60 Y 60 Z (nI lim) true = some r ∧
      D_X8_search (nI N) (nI c) (nI m) rc im t8 o8 ln mc8 mi8 60 F 60 G 60 Y8 60 Z8 60 S 60 T 100 WT 100 WO (jshl 1 (nI v)) (if b then jshl 1 (nI v) else 0) (nI lim) false = some s ∧ s.2.2.2.2.2.1 = ln + r.2.1 ∧
      ((r.2.2.2.2.1 = true ∧ s.1 = -2) ∨ (¬ r.2.2.2.2.1 = true ∧ r.2.2.1 = s.1 ∧ ¬ s.1 = -2)) := by
  have hN := hr.hN
  obtain ⟨R2, e2, h2⟩ := sbegin_spec hN hs ps snc smc scut stk son simp sR
  obtain ⟨i3, R3, e3, h3⟩ := take_spec hN h2 hv (tb_0 v) b
  obtain ⟨r, s, e4, e5, h4⟩ := sea_eq hr hlim true ln h3 slm PR PT PO rc im t8 o8 mc8 mi8 S T WT WO
  rw [← addO_0, ← addT_0]
  have e6 : D_X8_search (nI N) (nI c) (nI m) rc im t8 o8 ln mc8 mi8 60 F 60 G 60 Y8 60 Z8 60 S 60 T 100 WT 100 WO (addT 0 v) (addO 0 v b) (nI lim) false = some s := e5
  obtain ⟨t, mc, b1, b2, b3, b4, b5, b6, b7⟩ := h4
  refine ⟨R2, i3, R3, r, s, e2, e3, e4, e6, by rw [b4, b3], ?_⟩
  rcases b7 with ⟨k1, k2, k3⟩ | ⟨k1, -, k3⟩ | ⟨-, k2, -⟩
  · exact Or.inl ⟨k1, k2⟩
  · rcases k3 with ⟨k4, k5, -⟩ | ⟨k4, k5⟩
    · exact Or.inr ⟨by rw [k1]; decide, by rw [b5, k4, k5]; rfl, by rw [k5]; decide⟩
    · exact Or.inr ⟨by rw [k1]; decide, by rw [b5, k4, k5]; rfl, by rw [k5]; decide⟩
  · cases k2
theorem must_eq (hr : Rel N c m E Y Z F G Gb Y8 Z8) {fr : Bool} (hf : Fresh N E c fr imp R) (ln : Int32) (ps snc smc : Int32) (slm : Int64) (scut : Bool) (stk son : Int64) (simp : Bool) (sR PR PT PO : Nat → Int64)
    (th rc : Int32) (im : Bool) (t8 o8 mc8 mi8 : Int64) (S : Nat → Int64) (T : Nat → Int32) (WT WO : Nat → Int64) (x y : Int32) :
    ∃ r s, D_X7_must (nI N) fr ln (nI c) (nI m) 60 E 60 Y 60 Z (nI N) imp N R (nI N) ps snc smc slm scut (nI N) stk son (nI N) simp N sR (N * N) PR N PT N PO x y = some r ∧
      D_X8_must th (nI N) (nI c) (nI m) rc im t8 o8 ln mc8 mi8 60 F 60 G 60 Y8 60 Z8 60 S 60 T 100 WT 100 WO x y = some s ∧ Fresh N E c r.2.1 r.2.2.2.1 r.2.2.2.2.1 ∧
      r.2.2.1 = s.2.2.2.2.2.2.1 ∧ ((r.1 = .inr 2 ∧ s.2.1 = 1) ∨ (r.1 = .inr 0 ∧ s.2.1 = 2) ∨ (r.1 = .inl s.1 ∧ s.2.1 = 0)) := by
  have hN := hr.hN
  unfold D_X7_must D_X8_must
  by_cases hx : ¬ x < 1 ∧ ¬ nI N < x
  · rw [cif_neg hx.1, cif_pos (i_le_of hx.2), show D_X8_isIn x.toInt64 1 (nI N).toInt64 = some true from isIn_yes (a := 1) hx.1 hx.2, Option.bind_some]
    by_cases hq : ¬ y < 1 ∧ ¬ 5000 < y
    · obtain ⟨lim, hlim, rfl⟩ := nodes_nI hq.1 hq.2
      obtain ⟨v1, hv1, rfl⟩ := nI_of2 (x := x) (M := nI N) (n := N) (nI_toInt (by omega)) (fun z => hx.1 (by
        rw [Int32.lt_iff_toInt_lt] at z ⊢
        have a : (0 : Int32).toInt = 0 := by decide
        have b : (1 : Int32).toInt = 1 := by decide
        omega)) (i_le_of hx.2)
      have hv0 : v1 ≠ 0 := fun z => by subst z; exact hx.1 (by decide)
      obtain ⟨v, rfl⟩ : ∃ v, v1 = v + 1 := ⟨v1 - 1, by omega⟩
      obtain ⟨i1, R1, e1, h1⟩ := fresh_spec hr hf
      have fr' : Fresh N E c true i1 R1 := fun _ => h1
      rw [nodes_yes hq.1 hq.2, Option.bind_some, cif_pos rfl, e1, Option.bind_some]
      rw [show D_X8_isIn (nI lim).toInt64 1 5000 = some true from isIn_yes (a := 1) (b := 5000) hq.1 hq.2, Option.bind_some, may_tt, Option.bind_some, cif_pos rfl]
      rw [nI_pred]
      obtain ⟨R2, i3, R3, r, s, e2, e3, e4, e5, h2, h3⟩ := with_eq hr h1 hlim (show v < N by omega) false 0 ps snc smc slm scut stk son simp sR PR PT PO rc im t8 o8 mc8 mi8 S T WT WO
      rw [if_neg (by simp)] at e5
      dsimp only
      rw [e2, Option.bind_some]
      dsimp only
      rw [e3, Option.bind_some]
      dsimp only
      rw [e4, Option.bind_some, e5, Option.bind_some]
      have h2' : s.2.2.2.2.2.1 = r.2.1 := by rw [h2, Int32.zero_add]
      rcases h3 with ⟨k1, k2⟩ | ⟨k1, k2, k3⟩
      · rw [cif_pos k1, cif_pos k2]
        exact ⟨_, _, rfl, rfl, fr', h2'.symm, Or.inr (Or.inr ⟨rfl, rfl⟩)⟩
      · rw [cif_neg k1, cif_neg k3]
        obtain ⟨R4, i5, R5, r', s', e6, e7, e8, e9, h5, h6⟩ := with_eq hr h1 hlim (show v < N by omega) true s.2.2.2.2.2.1 r.1 r.2.1 r.2.2.1 r.2.2.2.1 r.2.2.2.2.1 r.2.2.2.2.2.1 r.2.2.2.2.2.2.1 r.2.2.2.2.2.2.2.1 r.2.2.2.2.2.2.2.2.1 r.2.2.2.2.2.2.2.2.2.1 r.2.2.2.2.2.2.2.2.2.2.1 r.2.2.2.2.2.2.2.2.2.2.2
          s.2.1 s.2.2.1 s.2.2.2.1 s.2.2.2.2.1 s.2.2.2.2.2.2.1 s.2.2.2.2.2.2.2.1 s.2.2.2.2.2.2.2.2.1 s.2.2.2.2.2.2.2.2.2.1 s.2.2.2.2.2.2.2.2.2.2.1 s.2.2.2.2.2.2.2.2.2.2.2
        rw [if_pos rfl] at e9
        rw [e6, Option.bind_some]
        dsimp only
        rw [e7, Option.bind_some]
        dsimp only
        rw [e8, Option.bind_some, e9, Option.bind_some]
        have h5' : r.2.1 + r'.2.1 = s'.2.2.2.2.2.1 := by rw [h5, h2']
        rcases h6 with ⟨j1, j2⟩ | ⟨j1, j2, j3⟩
        · rw [cif_pos j1, cif_pos j2]
          exact ⟨_, _, rfl, rfl, fr', h5', Or.inr (Or.inr ⟨rfl, rfl⟩)⟩
        · rw [cif_neg j1, cif_neg j3, j2, k2]
          by_cases z3 : s.1 = s'.1
          · rw [cif_pos z3.symm, cif_pos z3.symm]
            exact ⟨_, _, rfl, rfl, fr', h5', Or.inr (Or.inr ⟨rfl, rfl⟩)⟩
          · rw [cif_neg (fun w => z3 w.symm), cif_neg (fun w => z3 w.symm)]
            exact ⟨_, _, rfl, rfl, fr', h5', Or.inr (Or.inr ⟨rfl, rfl⟩)⟩
    · rw [nodes_no hq, Option.bind_some, cif_neg (by simp)]
      rw [show D_X8_isIn y.toInt64 1 5000 = some false from isIn_no (a := 1) (b := 5000) hq, Option.bind_some, may_tf, Option.bind_some, cif_neg (by simp)]
      exact ⟨_, _, rfl, rfl, hf, rfl, Or.inr (Or.inl ⟨rfl, rfl⟩)⟩
  · obtain ⟨b, hb⟩ : ∃ b, D_X8_isIn y.toInt64 1 5000 = some b := by
      by_cases hq : ¬ y < 1 ∧ ¬ 5000 < y
      · exact ⟨_, isIn_yes (a := 1) (b := 5000) hq.1 hq.2⟩
      · exact ⟨_, isIn_no (a := 1) (b := 5000) hq⟩
    rw [show D_X8_isIn x.toInt64 1 (nI N).toInt64 = some false from isIn_no (a := 1) hx, Option.bind_some, hb, Option.bind_some, may_f, Option.bind_some, cif_neg (show ¬ (false, (1 : Int32)).1 = true by simp)]
    by_cases q : x < 1
    · rw [cif_pos q]
      exact ⟨_, _, rfl, rfl, hf, rfl, Or.inl ⟨rfl, rfl⟩⟩
    · rw [cif_neg q, cif_neg (fun z => hx ⟨q, Int32.not_lt.mpr z⟩)]
      exact ⟨_, _, rfl, rfl, hf, rfl, Or.inl ⟨rfl, rfl⟩⟩
end SOL
