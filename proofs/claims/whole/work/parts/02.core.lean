/-! CORE: choices, loops without fuel in sight, worlds, calls. Trees of a block: 'cif' a branch, 'sbd'/'Option.bind' a call's answer, 'none' where the machine itself would throw. -/
noncomputable def cif {α : Type} (c : Prop) (a b : α) : α := @ite α c (Classical.propDecidable c) a b
theorem cif_pos {α : Type} {c : Prop} {a b : α} (h : c) : cif c a b = a := by unfold cif; exact if_pos h
theorem cif_neg {α : Type} {c : Prop} {a b : α} (h : ¬ c) : cif c a b = b := by unfold cif; exact if_neg h
theorem cif_ite {α : Type} {c : Prop} [hd : Decidable c] {a b : α} : cif c a b = if c then a else b := by
  by_cases h : c
  · rw [cif_pos h, if_pos h]
  · rw [cif_neg h, if_neg h]
def run1 {S R : Type} (K : S → Option R) (z : Option R ⊕ S) : Option R := match z with
  | .inl o => o
  | .inr y => K y
def sbd {α S R : Type} (o : Option α) (f : α → Option R ⊕ S) : Option R ⊕ S := match o with
  | none => .inl none
  | some a => f a
theorem run1_inl {S R : Type} {K : S → Option R} {o : Option R} : run1 K (.inl o) = o := rfl
theorem run1_inr {S R : Type} {K : S → Option R} {y : S} : run1 K (.inr y) = K y := rfl
theorem run1_cif {S R : Type} {K : S → Option R} {c : Prop} {a b : Option R ⊕ S} : run1 K (cif c a b) = cif c (run1 K a) (run1 K b) := by
  by_cases h : c
  · rw [cif_pos h, cif_pos h]
  · rw [cif_neg h, cif_neg h]
theorem run1_sbd {α S R : Type} {K : S → Option R} {o : Option α} {f : α → Option R ⊕ S} : run1 K (sbd o f) = o.bind (fun u => run1 K (f u)) := by cases o <;> rfl
def iter {S R : Type} (st : S → Option R ⊕ S) : Nat → S → Option R
  | 0, _ => none
  | n + 1, x => run1 (iter st n) (st x)
theorem iter_up {S R : Type} {st : S → Option R ⊕ S} : ∀ {n : Nat} {x : S} {r : R}, iter st n x = some r → iter st (n + 1) x = some r
  | 0, _, _, h => nomatch h
  | n + 1, x, r, h => by
    have h : run1 (iter st n) (st x) = some r := h
    show run1 (iter st (n + 1)) (st x) = some r
    generalize st x = z at h ⊢
    cases z with
    | inl o => exact h
    | inr y => exact iter_up h
theorem iter_le {S R : Type} {st : S → Option R ⊕ S} {n : Nat} {x : S} {r : R} (h : iter st n x = some r) : ∀ k, iter st (n + k) x = some r
  | 0 => h
  | k + 1 => iter_up (iter_le h k)
noncomputable def runw {S R : Type} (st : S → Option R ⊕ S) (x : S) : Option R :=
  @dite (Option R) (∃ n, (iter st n x).isSome = true) (Classical.propDecidable _) (fun h => iter st (Classical.choose h) x) (fun _ => none)
theorem runw_of {S R : Type} {st : S → Option R ⊕ S} {n : Nat} {x : S} {r : R} (h : iter st n x = some r) : runw st x = some r := by
  have he : ∃ n, (iter st n x).isSome = true := ⟨n, by rw [h]; rfl⟩
  unfold runw
  rw [dif_pos he]
  have h2 := Classical.choose_spec he
  generalize Classical.choose he = k at h2 ⊢
  obtain ⟨r2, h3⟩ := Option.isSome_iff_exists.mp h2
  rw [h3]
  have a1 := iter_le h k
  have a2 := iter_le h3 n
  rw [Nat.add_comm] at a2
  rw [← a1, ← a2]
theorem runw_some {S R : Type} {st : S → Option R ⊕ S} {x : S} {r : R} (h : runw st x = some r) : ∃ n, iter st n x = some r := by
  unfold runw at h
  split at h
  · next he => exact ⟨_, h⟩
  · cases h
theorem runw_eq {S R : Type} (st : S → Option R ⊕ S) (x : S) : runw st x = run1 (runw st) (st x) := by
  have key : ∀ r, runw st x = some r ↔ run1 (runw st) (st x) = some r := by
    intro r
    constructor
    · intro h
      obtain ⟨n, hn⟩ := runw_some h
      cases n with
      | zero => cases hn
      | succ n =>
        have hn : run1 (iter st n) (st x) = some r := hn
        generalize st x = z at hn ⊢
        cases z with
        | inl o => exact hn
        | inr y => exact runw_of hn
    · intro h
      cases hz : st x with
      | inl o =>
        rw [hz] at h
        exact runw_of (n := 1) (show run1 (iter st 0) (st x) = some r by rw [hz]; exact h)
      | inr y =>
        rw [hz] at h
        obtain ⟨n, hn⟩ := runw_some (show runw st y = some r from h)
        exact runw_of (n := n + 1) (show run1 (iter st n) (st x) = some r by rw [hz]; exact hn)
  cases h1 : runw st x with
  | some r => exact ((key r).mp h1).symm
  | none =>
    cases h2 : run1 (runw st) (st x) with
    | none => rfl
    | some r => rw [(key r).mpr h2] at h1; cases h1
-- what a hypothesis over a tree gives, branch by branch (o: the tree answers by itself; w: it is run over K)
theorem co_t {R : Type} {c : Prop} {a b : Option R} {r : R} (hc : c) (h : cif c a b = some r) : a = some r := by rw [cif_pos hc] at h; exact h
theorem co_f {R : Type} {c : Prop} {a b : Option R} {r : R} (hc : ¬ c) (h : cif c a b = some r) : b = some r := by rw [cif_neg hc] at h; exact h
theorem co_b {α R : Type} {o : Option α} {f : α → Option R} {r : R} (h : o.bind f = some r) : ∃ u, o = some u ∧ f u = some r := by
  cases o with
  | none => cases h
  | some u => exact ⟨u, rfl, h⟩
theorem co_i {R : Type} {c : Prop} {a : Option R} {r : R} (h : cif c a none = some r) : c ∧ a = some r := by
  by_cases hc : c
  · exact ⟨hc, co_t hc h⟩
  · cases co_f hc h
theorem cw_t {S R : Type} {K : S → Option R} {c : Prop} {a b : Option R ⊕ S} {r : R} (hc : c) (h : run1 K (cif c a b) = some r) : run1 K a = some r := by rw [cif_pos hc] at h; exact h
theorem cw_f {S R : Type} {K : S → Option R} {c : Prop} {a b : Option R ⊕ S} {r : R} (hc : ¬ c) (h : run1 K (cif c a b) = some r) : run1 K b = some r := by rw [cif_neg hc] at h; exact h
theorem cw_b {α S R : Type} {K : S → Option R} {o : Option α} {f : α → Option R ⊕ S} {r : R} (h : run1 K (sbd o f) = some r) : ∃ u, o = some u ∧ run1 K (f u) = some r := by
  cases o with
  | none => cases h
  | some u => exact ⟨u, rfl, h⟩
theorem cw_i {S R : Type} {K : S → Option R} {c : Prop} {a : Option R ⊕ S} {r : R} (h : run1 K (cif c a (.inl none)) = some r) : c ∧ run1 K a = some r := by
  by_cases hc : c
  · exact ⟨hc, cw_t hc h⟩
  · cases cw_f hc h
/-- a truth value as the machine holds it -/
def bI (b : Bool) : Int32 := if b then 1 else 0
theorem bI_t : bI true = 1 := rfl
theorem bI_f : bI false = 0 := rfl
theorem bI_0 {b : Bool} : bI b = 0 ↔ b = false := by cases b <;> decide
theorem bI_1 {b : Bool} : bI b = 1 ↔ b = true := by cases b <;> decide
theorem bI_n (b : Bool) : narrow .boolean (.int (bI b)) = .int (bI b) := by cases b <;> rfl
theorem bI_fit (b : Bool) : fits .boolean (.int (bI b)) = true := by cases b <;> rfl
/-- what is known of the tables at a state -/
def EV (D : va_G) (cI cL : ClassId) (U : State) : Prop := va_K D vwCl [(cI, .int), (cL, .long)] U ∧ va_Nw (.fieldLinkNest RX3 78 "ParityClauses$Taking" "rows" "LParityClauses$Rows;" "ParityClauses") U ∧ va_Nw (.methodLinkNest RX7 28 yX4_init "ParityClauses") U ∧ va_Nw (.methodLinkNest RX7 35 yX6_init "ParityClauses") U ∧ va_Nw (.methodLinkNest RX7 58 yX1_init "ParityClauses") U ∧ va_Nw (.methodLinkNest RX5 67 yX7_leastPlace "ParityClauses") U
theorem EV.K {D : va_G} {cI cL : ClassId} {U : State} (h : EV D cI cL U) : va_K D vwCl [(cI, .int), (cL, .long)] U := h.1
theorem EV.warm {D : va_G} {cI cL : ClassId} {s U : State} (hW : s.WarmedH U.vm) (h : EV D cI cL s) : EV D cI cL U := ⟨va_K.moved hW.alike h.1, va_Nw.warmF hW h.2.1, va_Nw.warmM hW h.2.2.1, va_Nw.warmM hW h.2.2.2.1, va_Nw.warmM hW h.2.2.2.2.1, va_Nw.warmM hW h.2.2.2.2.2⟩
theorem EV.blind {D : va_G} {cI cL : ClassId} {U : State} {g : JFrame} {mk : MethodId} {a : Array Value} (h : EV D cI cL U) : EV D cI cL (U.calling g mk a) := ⟨va_K.moved (u := U) (U := U.calling g mk a) (Vm.Alike.refl U.vm) h.1, va_Nw.same rfl rfl h.2.1, va_Nw.same rfl rfl h.2.2.1, va_Nw.same rfl rfl h.2.2.2.1, va_Nw.same rfl rfl h.2.2.2.2.1, va_Nw.same rfl rfl h.2.2.2.2.2⟩
/-- a method's start: its arguments, its world's cells -/
def PcW (D : va_G) (cI cL : ClassId) (av : List Value) (ws : va_W) (sz : Nat) : Array Value → State → Prop := va_Pc av (fun U => U.heap.size = sz ∧ va_P D vwCl ws U.heap ∧ EV D cI cL U ∧ va_D (fun _ => True) ws)
theorem PcW_blind {D : va_G} {cI cL : ClassId} {av : List Value} {ws : va_W} {sz : Nat} : FrameBlind (PcW D cI cL av ws sz) := fun a U g mk q => by
  obtain ⟨q0, q1, qP, qE, qD⟩ := q
  exact ⟨q0, q1, qP, qE.blind, qD⟩
/-- its end: the cells of the world behind it -/
def PoW {S : Type} (D : va_G) (ws : va_W) (ws' : S → va_W) (sz : Nat) : S → State → Prop := fun u t => va_P D vwCl (ws' u) t.heap ∧ va_D (va_A ws sz) (ws' u)
def QiW {S : Type} (D : va_G) (ws : va_W) (r : Int32) (ws' : S → va_W) (px : S → Prop) (sz : Nat) := va_Qi (fun x (u : S) => x = r ∧ px u) (PoW D ws ws' sz) (va_A ws sz)
def QlW {S : Type} (D : va_G) (ws : va_W) (r : Int64) (ws' : S → va_W) (px : S → Prop) (sz : Nat) := va_Ql (fun x (u : S) => x = r ∧ px u) (PoW D ws ws' sz) (va_A ws sz)
def QvW {S : Type} (D : va_G) (ws : va_W) (ws' : S → va_W) (px : S → Prop) (sz : Nat) := va_Qv (fun (u : S) => px u) (PoW D ws ws' sz) (va_A ws sz)
abbrev tU : Unit → Prop := fun _ => True
section KX
variable {p : Program} {l : Launch} {e : Env} {R : Room} {s : State} {m : MethodId} {args : Array Value} {below : List Frame} {meth : Method} {c : Code} {H : Heap} {locs : List Loc} {cells slots : Nat} {Q : State → Prop}
variable {D : va_G} {cI cL : ClassId} {A : Nat → Prop} {pc : Nat} {ls : Array Slot} {rest st0 As : List Value} {ws wc : va_W} {S : Type} {wc' ws' : S → va_W} {px : S → Prop} {a : Array Value} {mc ms : Nat}
theorem kx_preS (hEV : EV D cI cL s) (hP : va_P D vwCl ws H) (hD : va_D A ws) (isC : List Nat) (hC : isC.map (fun i => ws[i]?) = wc.map some) (hn : va_nd isC = true) : PreS s H (PcW D cI cL As wc H.size) As := by
  refine ⟨PcW_blind, fun U hU hW => ⟨rfl, by rw [hU], ?_, hEV.warm hW, ?_⟩⟩
  · rw [hU]
    intro k q hk
    have h1 : (isC.map (fun i => ws[i]?))[k]? = some (some q) := by rw [hC, List.getElem?_map, hk]; rfl
    rw [List.getElem?_map] at h1
    cases hi : isC[k]? with
    | none => rw [hi] at h1; cases h1
    | some i => rw [hi] at h1; exact hP i q (Option.some.inj h1)
  · exact (hD.sub isC hn hC).weaken (fun _ _ _ _ => trivial)
theorem kx_preV {b k0 ci : Nat} {q : vw_C} {fs : List Value} {C : String} (hEV : EV D cI cL s) (hP : va_P D vwCl ws H) (hD : va_D A ws) (isC : List Nat) (hC : isC.map (fun i => ws[i]?) = wc.map some) (hn : va_nd isC = true)
    (hk0 : ws[k0]? = some (b, .inr (ci, fs))) (hcl : vwCl[ci]? = some q) (hCn : q.1 = C) : PreV s H C b (PcW D cI cL (.ref b :: As) wc H.size) As := by
  obtain ⟨h1, h2⟩ := kx_preS (As := .ref b :: As) hEV hP hD isC hC hn
  exact ⟨h1, by rw [← hCn]; exact va_recv hEV.K hP hcl hk0, h2⟩
/-- behind a call: the caller's world, each cell at its place -/
theorem kx_back {H1 : Heap} (hP : va_P D vwCl ws H) (hD : va_D A ws) (isC isR isB : List Nat) (hC : isC.map (fun i => ws[i]?) = wc.map some) (hR : isR.all (fun i => decide (i < ws.length)) = true) (hn : va_nd isR = true) (hdis : ∀ i ∈ isR, i ∉ isC)
    {w1 w2 : va_W} (hB : isB.map (fun i => (isR.filterMap (fun i => ws[i]?) ++ w1)[i]?) = w2.map some) (hnB : va_nd isB = true)
    (hk : ∀ q : Nat, q < H.size → ¬ va_A wc H.size q → H1[q]? = H[q]?) (hF : ∀ q, va_A wc H.size q → A q) (hP1 : va_P D vwCl w1 H1) (hD1 : va_D (va_A wc H.size) w1) : va_P D vwCl w2 H1 ∧ va_D A w2 := by
  have hR : isR.map (fun i => ws[i]?) = (isR.filterMap (fun i => ws[i]?)).map some := by
    clear hn hdis hB
    induction isR with
    | nil => rfl
    | cons i is ih =>
      rw [List.all_cons, Bool.and_eq_true, decide_eq_true_eq] at hR
      rw [List.map_cons, List.filterMap_cons, List.getElem?_eq_getElem hR.1, List.map_cons, ih hR.2]
  obtain ⟨hP2, hD2⟩ := va_join (wr := isR.filterMap (fun i => ws[i]?)) (w1 := w1) hP hD isC isR hC hR hn hdis hk hF hP1 hD1
  refine ⟨fun k q hk => ?_, hD2.sub isB hnB hB⟩
  have h1 : (isB.map (fun i => (isR.filterMap (fun i => ws[i]?) ++ w1)[i]?))[k]? = some (some q) := by rw [hB, List.getElem?_map, hk]; rfl
  rw [List.getElem?_map] at h1
  cases hi : isB[k]? with
  | none => rw [hi] at h1; cases h1
  | some i => rw [hi] at h1; exact hP2 i q (Option.some.inj h1)
theorem kx_i {r : Int32} (hP : va_P D vwCl ws H) (hD : va_D A ws) (hS : va_S A s.heap H locs) (hA : ∀ q, s.heap.size ≤ q → A q) (isC isR isB : List Nat) (hC : isC.map (fun i => ws[i]?) = wc.map some) (hR : isR.all (fun i => decide (i < ws.length)) = true) (hn : va_nd isR = true) (hdis : ∀ i ∈ isR, i ∉ isC)
    (hB : ∀ u, isB.map (fun i => (isR.filterMap (fun i => ws[i]?) ++ wc' u)[i]?) = (ws' u).map some) (hnB : va_nd isB = true)
    (hr : va_Run p l e R s m args below meth c H locs cells slots mc ms (F0 m pc ls st0) rest (QiW D wc r wc' px H.size a) (va_A wc H.size))
    (kk : ∀ (u : S) (H1 : Heap) (locs1 : List Loc), px u → va_P D vwCl (ws' u) H1 → va_D A (ws' u) → va_S A s.heap H1 locs1 → W p l e R s m args below meth c H1 locs1 (cells + mc) (slots + ms) Q (F0 m (pc + 3) ls (.int r :: rest))) : W p l e R s m args below meth c H locs cells slots Q (F0 m pc ls st0) := by
  have hF := va_free (wc := wc) hD hS hA isC hC
  refine va_calli hr hS (fun q _ h => hF q h) hF (fun x u t H1 locs1 ht hvm hw hb hz1 hk1 hS1 => ?_)
  obtain ⟨rfl, hpx⟩ := hw
  obtain ⟨hP1, hD1⟩ := hb
  rw [ht] at hP1
  obtain ⟨hP2, hD2⟩ := kx_back hP hD isC isR isB hC hR hn hdis (hB u) hnB hk1 hF hP1 hD1
  exact kk u H1 locs1 hpx hP2 hD2 hS1
theorem kx_l {r : Int64} (hP : va_P D vwCl ws H) (hD : va_D A ws) (hS : va_S A s.heap H locs) (hA : ∀ q, s.heap.size ≤ q → A q) (isC isR isB : List Nat) (hC : isC.map (fun i => ws[i]?) = wc.map some) (hR : isR.all (fun i => decide (i < ws.length)) = true) (hn : va_nd isR = true) (hdis : ∀ i ∈ isR, i ∉ isC)
    (hB : ∀ u, isB.map (fun i => (isR.filterMap (fun i => ws[i]?) ++ wc' u)[i]?) = (ws' u).map some) (hnB : va_nd isB = true)
    (hr : va_Run p l e R s m args below meth c H locs cells slots mc ms (F0 m pc ls st0) rest (QlW D wc r wc' px H.size a) (va_A wc H.size))
    (kk : ∀ (u : S) (H1 : Heap) (locs1 : List Loc), px u → va_P D vwCl (ws' u) H1 → va_D A (ws' u) → va_S A s.heap H1 locs1 → W p l e R s m args below meth c H1 locs1 (cells + mc) (slots + ms) Q (F0 m (pc + 3) ls (.long r :: rest))) : W p l e R s m args below meth c H locs cells slots Q (F0 m pc ls st0) := by
  have hF := va_free (wc := wc) hD hS hA isC hC
  refine va_calll hr hS (fun q _ h => hF q h) hF (fun x u t H1 locs1 ht hvm hw hb hz1 hk1 hS1 => ?_)
  obtain ⟨rfl, hpx⟩ := hw
  obtain ⟨hP1, hD1⟩ := hb
  rw [ht] at hP1
  obtain ⟨hP2, hD2⟩ := kx_back hP hD isC isR isB hC hR hn hdis (hB u) hnB hk1 hF hP1 hD1
  exact kk u H1 locs1 hpx hP2 hD2 hS1
theorem kx_v (hP : va_P D vwCl ws H) (hD : va_D A ws) (hS : va_S A s.heap H locs) (hA : ∀ q, s.heap.size ≤ q → A q) (isC isR isB : List Nat) (hC : isC.map (fun i => ws[i]?) = wc.map some) (hR : isR.all (fun i => decide (i < ws.length)) = true) (hn : va_nd isR = true) (hdis : ∀ i ∈ isR, i ∉ isC)
    (hB : ∀ u, isB.map (fun i => (isR.filterMap (fun i => ws[i]?) ++ wc' u)[i]?) = (ws' u).map some) (hnB : va_nd isB = true)
    (hr : va_Run p l e R s m args below meth c H locs cells slots mc ms (F0 m pc ls st0) rest (QvW D wc wc' px H.size a) (va_A wc H.size))
    (kk : ∀ (u : S) (H1 : Heap) (locs1 : List Loc), px u → va_P D vwCl (ws' u) H1 → va_D A (ws' u) → va_S A s.heap H1 locs1 → W p l e R s m args below meth c H1 locs1 (cells + mc) (slots + ms) Q (F0 m (pc + 3) ls rest)) : W p l e R s m args below meth c H locs cells slots Q (F0 m pc ls st0) := by
  have hF := va_free (wc := wc) hD hS hA isC hC
  refine va_callv hr hS (fun q _ h => hF q h) hF (fun u t H1 locs1 ht hvm hw hb hz1 hk1 hS1 => ?_)
  obtain ⟨hP1, hD1⟩ := hb
  rw [ht] at hP1
  obtain ⟨hP2, hD2⟩ := kx_back hP hD isC isR isB hC hR hn hdis (hB u) hnB hk1 hF hP1 hD1
  exact kk u H1 locs1 hw hP2 hD2 hS1
theorem kx_Q {g : JFrame} (k : ∀ Q', Q' = Q → W p l e R s m args below meth c H locs cells slots Q' g) : W p l e R s m args below meth c H locs cells slots Q g := k Q rfl
theorem kx_H {g : JFrame} (k : ∀ H', H' = H → W p l e R s m args below meth c H' locs cells slots Q g) : W p l e R s m args below meth c H locs cells slots Q g := k H rfl
theorem kx_z {b : Bool} : bI b = 0 → ¬ b = true := by cases b <;> simp [bI]
theorem kx_nz {b : Bool} : ¬ bI b = 0 → b = true := by cases b <;> simp [bI]
end KX
/-- long shifts, and Math's two, as the rows have them -/
def jshl (x : Int64) (y : Int32) : Int64 := x <<< (y.toInt64 &&& 63)
def jshr (x : Int64) (y : Int32) : Int64 := x >>> (y.toInt64 &&& 63)
def jushr (x : Int64) (y : Int32) : Int64 := (x.toUInt64 >>> (y.toInt64.toUInt64 &&& Int64.toUInt64 63)).toInt64
abbrev jmax (x y : Int32) : Int32 := if x < y then y else x
abbrev jmin (x y : Int32) : Int32 := if y < x then y else x
