/-! CORE 2: methods that throw their own exceptions (k: 0 IllegalArgument, 1 IllegalState, 2 IndexOutOfBounds) -/
def exN : Nat → String
  | 0 => "java/lang/IllegalArgumentException"
  | 1 => "java/lang/IllegalStateException"
  | _ => "java/lang/IndexOutOfBoundsException"
def dcR : MethodName := ⟨"java/lang/RuntimeException", "<init>", "(Ljava/lang/String;)V"⟩
def dcE : MethodName := ⟨"java/lang/Exception", "<init>", "(Ljava/lang/String;)V"⟩
def dcT : MethodName := ⟨"java/lang/Throwable", "<init>", "(Ljava/lang/String;)V"⟩
def ET (U : State) : Prop := va_Nw (.castable (exN 0) (exN 0)) U ∧ va_Nw (.castable (exN 1) (exN 1)) U ∧ va_Nw (.castable (exN 2) (exN 2)) U ∧ va_Nc (exN 1) (exN 0) U ∧ va_Nc (exN 0) (exN 2) U ∧ va_Nw (.declares dcR) U ∧ va_Nw (.declares dcE) U ∧ va_Nw (.declares dcT) U ∧ (∃ sa, vk_R RX7 88 "an equation has variables that there are, and 0 or 1" sa U) ∧ (∃ sa, vk_R RX7 98 "there are 60 equations" sa U) ∧ (∃ sa, vk_R RX7 113 "a clause has variables that there are, none in both sets" sa U) ∧ (∃ sa, vk_R RX7 118 "there are 60 clauses" sa U) ∧ (∃ sa, vk_R RX7 123 "1 .. 8 bytes" sa U) ∧ (∃ sa, vk_R RX7 128 "more than 500 bytes" sa U) ∧ (∃ sa, vk_R RX7 150 "there are 20 levels" sa U) ∧ (∃ sa, vk_R RX7 155 "there are not so many levels" sa U) ∧ (∃ sa, vk_R RX7 160 "0 .. 3 can be asked for" sa U) ∧ (∃ sa, vk_R RX7 164 "there is no such equation or clause" sa U) ∧ (∃ sa, vk_R RX7 194 "there is no such row" sa U) ∧ (∃ sa, vk_R RX7 212 "variables that there are not" sa U) ∧ (∃ sa, vk_R RX7 218 "variables that there are, none in both sets" sa U) ∧ (∃ sa, vk_R RX7 238 "1 .. 5000 nodes" sa U) ∧ (∃ sa, vk_R RX7 262 "there is no such variable" sa U) ∧ (∃ sa, vk_R RX7 276 "there is no such gate" sa U) ∧ (∃ sa, vk_R RX7 281 "0 .. 4 can be counted" sa U)
theorem ET.warm {s U : State} (hW : s.WarmedH U.vm) (h : ET s) : ET U := by
  obtain ⟨h1, h2, h3, h4, h5, h6, h7, h8, ⟨a0, g0⟩, ⟨a1, g1⟩, ⟨a2, g2⟩, ⟨a3, g3⟩, ⟨a4, g4⟩, ⟨a5, g5⟩, ⟨a6, g6⟩, ⟨a7, g7⟩, ⟨a8, g8⟩, ⟨a9, g9⟩, ⟨a10, g10⟩, ⟨a11, g11⟩, ⟨a12, g12⟩, ⟨a13, g13⟩, ⟨a14, g14⟩, ⟨a15, g15⟩, ⟨a16, g16⟩⟩ := h
  exact ⟨va_Nw.warmC hW h1, va_Nw.warmC hW h2, va_Nw.warmC hW h3, h4.moved hW.alike, h5.moved hW.alike, va_Nw.warmD hW h6, va_Nw.warmD hW h7, va_Nw.warmD hW h8, ⟨a0, g0.warm hW⟩, ⟨a1, g1.warm hW⟩, ⟨a2, g2.warm hW⟩, ⟨a3, g3.warm hW⟩, ⟨a4, g4.warm hW⟩, ⟨a5, g5.warm hW⟩, ⟨a6, g6.warm hW⟩, ⟨a7, g7.warm hW⟩, ⟨a8, g8.warm hW⟩, ⟨a9, g9.warm hW⟩, ⟨a10, g10.warm hW⟩, ⟨a11, g11.warm hW⟩, ⟨a12, g12.warm hW⟩, ⟨a13, g13.warm hW⟩, ⟨a14, g14.warm hW⟩, ⟨a15, g15.warm hW⟩, ⟨a16, g16.warm hW⟩⟩
theorem ET.blind {U : State} {g : JFrame} {mk : MethodId} {a : Array Value} (h : ET U) : ET (U.calling g mk a) := by
  obtain ⟨h1, h2, h3, h4, h5, h6, h7, h8, ⟨a0, g0⟩, ⟨a1, g1⟩, ⟨a2, g2⟩, ⟨a3, g3⟩, ⟨a4, g4⟩, ⟨a5, g5⟩, ⟨a6, g6⟩, ⟨a7, g7⟩, ⟨a8, g8⟩, ⟨a9, g9⟩, ⟨a10, g10⟩, ⟨a11, g11⟩, ⟨a12, g12⟩, ⟨a13, g13⟩, ⟨a14, g14⟩, ⟨a15, g15⟩, ⟨a16, g16⟩⟩ := h
  exact ⟨va_Nw.same rfl rfl h1, va_Nw.same rfl rfl h2, va_Nw.same rfl rfl h3, h4.moved (Vm.Alike.refl U.vm), h5.moved (Vm.Alike.refl U.vm), va_Nw.same rfl rfl h6, va_Nw.same rfl rfl h7, va_Nw.same rfl rfl h8, ⟨a0, vk_R.same rfl g0⟩, ⟨a1, vk_R.same rfl g1⟩, ⟨a2, vk_R.same rfl g2⟩, ⟨a3, vk_R.same rfl g3⟩, ⟨a4, vk_R.same rfl g4⟩, ⟨a5, vk_R.same rfl g5⟩, ⟨a6, vk_R.same rfl g6⟩, ⟨a7, vk_R.same rfl g7⟩, ⟨a8, vk_R.same rfl g8⟩, ⟨a9, vk_R.same rfl g9⟩, ⟨a10, vk_R.same rfl g10⟩, ⟨a11, vk_R.same rfl g11⟩, ⟨a12, vk_R.same rfl g12⟩, ⟨a13, vk_R.same rfl g13⟩, ⟨a14, vk_R.same rfl g14⟩, ⟨a15, vk_R.same rfl g15⟩, ⟨a16, vk_R.same rfl g16⟩⟩
/-- the two statics of Throwable lie outside A -/
def EX (A : Nat → Prop) (U : State) : Prop := vx_Zq Bundle.tN "UNASSIGNED_STACK" Bundle.steD A U U.heap ∧ vx_Zq Bundle.tN "SUPPRESSED_SENTINEL" Bundle.listD A U U.heap ∧ ET U
theorem EX.sub {A B : Nat → Prop} {s U : State} {H : Heap} {locs : List Loc} (h : EX A s) (hS : va_S A s.heap H locs) (hU : U.heap = H) (hW : s.WarmedH U.vm) (hAB : ∀ q, B q → A q) : EX B U := by
  obtain ⟨h1, h2, h3⟩ := h
  refine ⟨?_, ?_, h3.warm hW⟩
  · rw [hU]; exact ((h1.kept hS.2.1).moved hW.alike).narrow hAB
  · rw [hU]; exact ((h2.kept hS.2.1).moved hW.alike).narrow hAB
theorem EX.blind {A : Nat → Prop} {U : State} {g : JFrame} {mk : MethodId} {a : Array Value} (h : EX A U) : EX A (U.calling g mk a) := by
  obtain ⟨h1, h2, h3⟩ := h
  exact ⟨h1.moved (Vm.Alike.refl U.vm), h2.moved (Vm.Alike.refl U.vm), h3.blind⟩
def PcX (D : va_G) (cI cL : ClassId) (av : List Value) (ws : va_W) (sz : Nat) : Array Value → State → Prop := va_Pc av (fun U => U.heap.size = sz ∧ va_P D vwCl ws U.heap ∧ EV D cI cL U ∧ va_D (fun _ => True) ws ∧ EX (va_A ws sz) U)
theorem PcX_blind {D : va_G} {cI cL : ClassId} {av : List Value} {ws : va_W} {sz : Nat} : FrameBlind (PcX D cI cL av ws sz) := fun a U g mk q => by
  obtain ⟨q0, q1, qP, qE, qD, qX⟩ := q
  exact ⟨q0, q1, qP, qE.blind, qD, qX.blind⟩
def QiX (D : va_G) (ws : va_W) (r : Int32 ⊕ Nat) (ws' : va_W) (sz : Nat) := va_Qi (fun x (_ : Unit) => r = Sum.inl x) (PoW D ws (fun _ : Unit => ws') sz) (va_A ws sz)
def QlX (D : va_G) (ws : va_W) (r : Int64 ⊕ Nat) (ws' : va_W) (sz : Nat) := va_Ql (fun x (_ : Unit) => r = Sum.inl x) (PoW D ws (fun _ : Unit => ws') sz) (va_A ws sz)
def XCW {ρ : Type} (D : va_G) (ws : va_W) (r : ρ ⊕ Nat) (ws' : va_W) (sz : Nat) : String → State → State → Prop := vx_X tU (fun E (_ : Unit) t => (∃ k, r = Sum.inr k ∧ E = exN k) ∧ va_P D vwCl ws' t.heap ∧ va_D (va_A ws sz) ws') (va_A ws sz)
section KY
variable {p : Program} {l : Launch} {e : Env} {R : Room} {s : State} {m : MethodId} {args : Array Value} {below : List Frame} {meth : Method} {c : Code} {H : Heap} {locs : List Loc} {cells slots : Nat} {Q : State → Prop}
variable {D : va_G} {cI cL : ClassId} {A : Nat → Prop} {pc : Nat} {ls : Array Slot} {rest st0 As : List Value} {ws wc wc' ws' : va_W} {a : Array Value} {mc ms : Nat}
theorem ky_preS (hEV : EV D cI cL s) (hX : EX A s) (hP : va_P D vwCl ws H) (hD : va_D A ws) (hS : va_S A s.heap H locs) (hA : ∀ q, s.heap.size ≤ q → A q) (isC : List Nat) (hC : isC.map (fun i => ws[i]?) = wc.map some) (hn : va_nd isC = true) : PreS s H (PcX D cI cL As wc H.size) As := by
  obtain ⟨-, h2⟩ := kx_preS (As := As) hEV hP hD isC hC hn
  refine ⟨PcX_blind, fun U hU hW => ?_⟩
  obtain ⟨q0, q1, qP, qE, qD⟩ := h2 U hU hW
  exact ⟨q0, q1, qP, qE, qD, hX.sub hS hU hW (va_free (wc := wc) hD hS hA isC hC)⟩
theorem ky_preV {b k0 ci : Nat} {q : vw_C} {fs : List Value} {C : String} (hEV : EV D cI cL s) (hX : EX A s) (hP : va_P D vwCl ws H) (hD : va_D A ws) (hS : va_S A s.heap H locs) (hA : ∀ q, s.heap.size ≤ q → A q) (isC : List Nat) (hC : isC.map (fun i => ws[i]?) = wc.map some) (hn : va_nd isC = true)
    (hk0 : ws[k0]? = some (b, .inr (ci, fs))) (hcl : vwCl[ci]? = some q) (hCn : q.1 = C) : PreV s H C b (PcX D cI cL (.ref b :: As) wc H.size) As := by
  obtain ⟨h1, h2⟩ := ky_preS (As := .ref b :: As) hEV hX hP hD hS hA isC hC hn
  exact ⟨h1, by rw [← hCn]; exact va_recv hEV.K hP hcl hk0, h2⟩
theorem ky_i {r : Int32 ⊕ Nat} (hP : va_P D vwCl ws H) (hD : va_D A ws) (hS : va_S A s.heap H locs) (hA : ∀ q, s.heap.size ≤ q → A q) (isC isR isB : List Nat) (hC : isC.map (fun i => ws[i]?) = wc.map some) (hR : isR.all (fun i => decide (i < ws.length)) = true) (hn : va_nd isR = true) (hdis : ∀ i ∈ isR, i ∉ isC)
    (hB : isB.map (fun i => (isR.filterMap (fun i => ws[i]?) ++ wc')[i]?) = ws'.map some) (hnB : va_nd isB = true)
    (hr : vx_Run p l e R s m args below meth c H locs cells slots mc ms (F0 m pc ls st0) rest (QiX D wc r wc' H.size a) (XCW D wc r wc' H.size) (va_A wc H.size))
    (kx : ∀ (k : Nat) (ce : Cell) (q9 : Addr) (H1 : Heap) (locs1 : List Loc), r = .inr k → va_P D vwCl ws' H1 → va_D A ws' → va_S A s.heap H1 locs1 → H1[q9]? = some ce → ce.vm = .none → s.vm.findClass (exN k) = some ce.cls → vx_W p l e R s m args below meth c H1 locs1 (cells + mc) (slots + ms) Q (F0 m pc ls rest) q9)
    (kk : ∀ (x : Int32) (H1 : Heap) (locs1 : List Loc), r = .inl x → va_P D vwCl ws' H1 → va_D A ws' → va_S A s.heap H1 locs1 → W p l e R s m args below meth c H1 locs1 (cells + mc) (slots + ms) Q (F0 m (pc + 3) ls (.int x :: rest))) : W p l e R s m args below meth c H locs cells slots Q (F0 m pc ls st0) := by
  have hF := va_free (wc := wc) hD hS hA isC hC
  refine vx_calli hr hS (fun q _ h => hF q h) hF (fun q _ h => hF q h) (fun E ce q9 u t H1 locs1 ht hvm hpx hb hz1 hk1 hS1 hc1 hc2 hc3 => ?_) (fun x u t H1 locs1 ht hvm hw hb hz1 hk1 hS1 => ?_)
  · obtain ⟨⟨k, hk, rfl⟩, hP1, hD1⟩ := hb
    rw [ht] at hP1
    obtain ⟨hP2, hD2⟩ := kx_back hP hD isC isR isB hC hR hn hdis hB hnB hk1 hF hP1 hD1
    exact kx k ce q9 H1 locs1 hk hP2 hD2 hS1 hc1 hc2 hc3
  · obtain ⟨hP1, hD1⟩ := hb
    rw [ht] at hP1
    obtain ⟨hP2, hD2⟩ := kx_back hP hD isC isR isB hC hR hn hdis hB hnB hk1 hF hP1 hD1
    exact kk x H1 locs1 hw hP2 hD2 hS1
theorem ky_l {r : Int64 ⊕ Nat} (hP : va_P D vwCl ws H) (hD : va_D A ws) (hS : va_S A s.heap H locs) (hA : ∀ q, s.heap.size ≤ q → A q) (isC isR isB : List Nat) (hC : isC.map (fun i => ws[i]?) = wc.map some) (hR : isR.all (fun i => decide (i < ws.length)) = true) (hn : va_nd isR = true) (hdis : ∀ i ∈ isR, i ∉ isC)
    (hB : isB.map (fun i => (isR.filterMap (fun i => ws[i]?) ++ wc')[i]?) = ws'.map some) (hnB : va_nd isB = true)
    (hr : vx_Run p l e R s m args below meth c H locs cells slots mc ms (F0 m pc ls st0) rest (QlX D wc r wc' H.size a) (XCW D wc r wc' H.size) (va_A wc H.size))
    (kx : ∀ (k : Nat) (ce : Cell) (q9 : Addr) (H1 : Heap) (locs1 : List Loc), r = .inr k → va_P D vwCl ws' H1 → va_D A ws' → va_S A s.heap H1 locs1 → H1[q9]? = some ce → ce.vm = .none → s.vm.findClass (exN k) = some ce.cls → vx_W p l e R s m args below meth c H1 locs1 (cells + mc) (slots + ms) Q (F0 m pc ls rest) q9)
    (kk : ∀ (x : Int64) (H1 : Heap) (locs1 : List Loc), r = .inl x → va_P D vwCl ws' H1 → va_D A ws' → va_S A s.heap H1 locs1 → W p l e R s m args below meth c H1 locs1 (cells + mc) (slots + ms) Q (F0 m (pc + 3) ls (.long x :: rest))) : W p l e R s m args below meth c H locs cells slots Q (F0 m pc ls st0) := by
  have hF := va_free (wc := wc) hD hS hA isC hC
  refine vx_calll hr hS (fun q _ h => hF q h) hF (fun q _ h => hF q h) (fun E ce q9 u t H1 locs1 ht hvm hpx hb hz1 hk1 hS1 hc1 hc2 hc3 => ?_) (fun x u t H1 locs1 ht hvm hw hb hz1 hk1 hS1 => ?_)
  · obtain ⟨⟨k, hk, rfl⟩, hP1, hD1⟩ := hb
    rw [ht] at hP1
    obtain ⟨hP2, hD2⟩ := kx_back hP hD isC isR isB hC hR hn hdis hB hnB hk1 hF hP1 hD1
    exact kx k ce q9 H1 locs1 hk hP2 hD2 hS1 hc1 hc2 hc3
  · obtain ⟨hP1, hD1⟩ := hb
    rw [ht] at hP1
    obtain ⟨hP2, hD2⟩ := kx_back hP hD isC isR isB hC hR hn hdis hB hnB hk1 hF hP1 hD1
    exact kk x H1 locs1 hw hP2 hD2 hS1
/-- a thrower's last row: what its contract says of the world -/
theorem ky_x {ρ : Type} {r : ρ ⊕ Nat} {k : Nat} {w0 : va_W} {sz : Nat} {cls : String} (hA0 : va_A w0 sz = A) (hP : va_P D vwCl ws' H) (hD : va_D A ws') (hS : va_S A s.heap H locs) (hr : r = .inr k) (hk : cls = exN k) :
    ∀ t : State, s.vm.Alike t.vm → H.size ≤ t.heap.size → (∀ q : Nat, q < H.size → t.heap[q]? = H[q]?) → XCW D w0 r ws' sz cls s t := by
  subst hA0
  intro t hal hsz hkeep
  exact ⟨(), trivial, ⟨⟨k, hr, hk⟩, hP.kept (fun j q hj => hkeep q.1 (hP j q hj).lt), hD⟩, ⟨Nat.le_trans hS.1 hsz, fun q h1 h2 => (hkeep q (Nat.lt_of_lt_of_le h1 hS.1)).trans (hS.2.1 q h1 h2)⟩⟩
end KY
theorem co_s1 {α R : Type} {z : α ⊕ Nat} {f : α → Option R} {g : Nat → Option R} {r : R} {a : α} (hz : z = .inl a) (h : sme z f g = some r) : f a = some r := by rw [hz] at h; exact h
theorem co_s2 {α R : Type} {z : α ⊕ Nat} {f : α → Option R} {g : Nat → Option R} {r : R} {k : Nat} (hz : z = .inr k) (h : sme z f g = some r) : g k = some r := by rw [hz] at h; exact h
theorem thb_X7_90 : ∀ w ∈ (vx_atS RX7 90 "java/lang/IllegalArgumentException" ["java/lang/RuntimeException", "java/lang/Exception"]).filter (fun w => !goodWord w), w ∈ [Cond.castable "java/lang/IllegalArgumentException" "java/lang/IllegalArgumentException", .declares dcR, .declares dcE, .declares dcT] := by decide +kernel
theorem thg_X7_90 : ∀ w ∈ Cond.classLink RX7 86 "java/lang/IllegalArgumentException" :: Cond.initialized "java/lang/IllegalArgumentException" :: vx_atS RX7 90 "java/lang/IllegalArgumentException" ["java/lang/RuntimeException", "java/lang/Exception"], vx_ot w = true := by decide +kernel
theorem thb_X7_100 : ∀ w ∈ (vx_atS RX7 100 "java/lang/IllegalStateException" ["java/lang/RuntimeException", "java/lang/Exception"]).filter (fun w => !goodWord w), w ∈ [Cond.castable "java/lang/IllegalStateException" "java/lang/IllegalStateException", .declares dcR, .declares dcE, .declares dcT] := by decide +kernel
theorem thg_X7_100 : ∀ w ∈ Cond.classLink RX7 96 "java/lang/IllegalStateException" :: Cond.initialized "java/lang/IllegalStateException" :: vx_atS RX7 100 "java/lang/IllegalStateException" ["java/lang/RuntimeException", "java/lang/Exception"], vx_ot w = true := by decide +kernel
theorem thb_X7_166 : ∀ w ∈ (vx_atS RX7 166 "java/lang/IndexOutOfBoundsException" ["java/lang/RuntimeException", "java/lang/Exception"]).filter (fun w => !goodWord w), w ∈ [Cond.castable "java/lang/IndexOutOfBoundsException" "java/lang/IndexOutOfBoundsException", .declares dcR, .declares dcE, .declares dcT] := by decide +kernel
theorem thg_X7_166 : ∀ w ∈ Cond.classLink RX7 162 "java/lang/IndexOutOfBoundsException" :: Cond.initialized "java/lang/IndexOutOfBoundsException" :: vx_atS RX7 166 "java/lang/IndexOutOfBoundsException" ["java/lang/RuntimeException", "java/lang/Exception"], vx_ot w = true := by decide +kernel
