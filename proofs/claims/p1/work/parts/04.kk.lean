/-! WHAT HOLDS AT EVERY METHOD'S START: the tables' facts (KK), and the world (KW) -/
abbrev GG : Type := va_G × (Nat → ClassId)
abbrev tysG (G : GG) : List (ClassId × FieldType) := [(G.2 0, .long), (G.2 1, .int), (G.2 2, .boolean), (G.2 3, .object RX4), (G.2 4, .object RX5), (G.2 5, .object RX2), (G.2 6, .object RX1)]
abbrev exA : String := "java/lang/IllegalArgumentException"
abbrev exS : String := "java/lang/IllegalStateException"
abbrev exN : List String := ["java/lang/RuntimeException", "java/lang/Exception"]
def strs : List (Nat × String) := [(127, "no such way"), (134, "there are as many steps as there may be"), (151, "no such point"), (153, "no such slot"), (155, "no such variable"), (157, "no such term"), (165, "the terms are each other's negation"), (169, "no such number"), (174, "no number is from b to c"), (176, "no such kind of action"), (178, "the shape is empty")]
def KK (G : GG) (B : Nat) (U : State) : Prop := va_K G.1 vwCl (tysG G) U ∧ (va_Nw (.methodLinkNest RX4 70 yX6_negation RX6) U ∧ va_Nw (.methodLinkNest RX6 52 yX5_init RX6) U) ∧ (va_AO RX4 U ∧ va_AO RX5 U ∧ va_AO RX2 U ∧ va_AO RX1 U) ∧ (∀ q ∈ strs, ∃ a : Nat, vk_R RX6 q.1 q.2 a U) ∧ (va_Nw (.castable exA exA) U ∧ va_Nw (.castable exS exS) U) ∧
  (vx_Zq Jvm.Bundle.tN "UNASSIGNED_STACK" Jvm.Bundle.steD (fun q => B ≤ q) U U.heap ∧ vx_Zq Jvm.Bundle.tN "SUPPRESSED_SENTINEL" Jvm.Bundle.listD (fun q => B ≤ q) U U.heap)
theorem KK.k {G : GG} {B : Nat} {U : State} (h : KK G B U) : va_K G.1 vwCl (tysG G) U := h.1
theorem KK.at {G : GG} {B : Nat} {s U : State} (h : KK G B s) (hW : s.WarmedH U.vm) (hS : ∀ a : Nat, a < s.heap.size → ¬ B ≤ a → U.heap[a]? = s.heap[a]?) : KK G B U := by
  obtain ⟨h1, ⟨h2, h3⟩, ⟨h4, h5, h4b, h5b⟩, h6, ⟨h7, h8⟩, h9, h10⟩ := h
  exact ⟨h1.moved hW.alike, ⟨h2.warmM hW, h3.warmM hW⟩, ⟨h4.moved hW.alike, h5.moved hW.alike, h4b.moved hW.alike, h5b.moved hW.alike⟩, fun q hq => by obtain ⟨a, ha⟩ := h6 q hq; exact ⟨a, vk_R.warm hW ha⟩, ⟨h7.warmC hW, h8.warmC hW⟩, (h9.kept hS).moved hW.alike, (h10.kept hS).moved hW.alike⟩
def KW (G : GG) (B : Nat) (μ : mp) (U : State) : Prop := B ≤ U.heap.size ∧ mw G.1 vwCl B μ U.heap ∧ KK G B U
theorem KW.pre {G : GG} {B : Nat} {μ : mp} {s : State} {H : Heap} {locs : List Loc} (hBs : B ≤ s.heap.size) (hKK : KK G B s) (hS : va_S (fun q => B ≤ q) s.heap H locs) (hP : mw G.1 vwCl B μ H) : ∀ U : State, U.heap = H → s.WarmedH U.vm → KW G B μ U := by
  intro U hU hW
  refine ⟨by rw [hU]; exact Nat.le_trans hBs hS.1, by rw [hU]; exact hP, hKK.at hW (fun a h1 h2 => by rw [hU]; exact hS.2.1 a h1 h2)⟩
theorem KW.blind {G : GG} {B : Nat} {μ : mp} {av : List Value} : FrameBlind (va_Pc av (KW G B μ)) := by
  intro a U g mk q
  obtain ⟨q0, q1, q2, q3⟩ := q
  exact ⟨q0, q1, q2, q3.at (U := U.calling g mk a) (State.WarmedH.refl U) (fun _ _ _ => rfl)⟩
abbrev BB (G : GG) (B : Nat) : mp → State → Prop := fun μ2 t => mw G.1 vwCl B μ2 t.heap
theorem mw.recv {G : GG} {B : Nat} {μ : mp} {s : State} {H : Heap} {tys : List (ClassId × FieldType)} {a ci : Nat} {q : vw_C} {fs : List Value} (hP : mw G.1 vwCl B μ H) (hK : va_K G.1 vwCl tys s) (hc : vwCl[ci]? = some q) (he : μ a = some (.inr (ci, fs))) : ∃ cell : Cell, H[a]? = some cell ∧ cell.vm.isStatics = false ∧ s.vm.findClass q.1 = some cell.cls :=
  va_recv hK (hP.one he) hc (q0 := 0) rfl
theorem mw_eq {D : va_G} {cl : List vw_C} {B : Nat} {μ μ' : mp} {H : Heap} (h : μ = μ') (hP : mw D cl B μ H) : mw D cl B μ' H := h ▸ hP
theorem mp_ne {μ : mp} {a b : Nat} {e1 e2 : va_E} (h1 : μ a = some e1) (h2 : μ b = some e2) (h : e1 ≠ e2) : a ≠ b := fun q => h (Option.some.inj (h1.symm.trans (q ▸ h2)))
theorem mp_nn {μ : mp} {a q : Nat} {e : va_E} (h1 : μ a = some e) (h2 : μ q = none) : a ≠ q := fun h => by rw [h, h2] at h1; cases h1
section KC
variable {p : Program} {l : Launch} {e : Env} {R : Room} {s : State} {m : MethodId} {args : Array Value} {below : List Frame} {meth : Method} {c : Code} {H : Heap} {locs : List Loc} {cells slots : Nat} {Q : State → Prop}
variable {pc : Nat} {ls : Array Slot} {rest st0 : List Value} {a : Array Value} {mc ms : Nat} {G : GG} {B : Nat}
theorem kc_v {post : mp → Prop} (hr : va_Run p l e R s m args below meth c H locs cells slots mc ms (F0 m pc ls st0) rest (va_Qv post (BB G B) (fun q => B ≤ q) a) (fun q => B ≤ q)) (hS : va_S (fun q => B ≤ q) s.heap H locs)
    (kk : ∀ (u : mp) (H1 : Heap) (locs1 : List Loc), post u → mw G.1 vwCl B u H1 → H.size ≤ H1.size → va_S (fun q => B ≤ q) s.heap H1 locs1 → W p l e R s m args below meth c H1 locs1 (cells + mc) (slots + ms) Q (F0 m (pc + 3) ls rest)) : W p l e R s m args below meth c H locs cells slots Q (F0 m pc ls st0) :=
  va_callv hr hS (fun _ _ h => h) (fun _ h => h) (fun u t H1 locs1 ht _ hp hb hz _ hS1 => kk u H1 locs1 hp (by rw [← ht]; exact hb) hz hS1)
theorem kc_i {post : Int32 → mp → Prop} (hr : va_Run p l e R s m args below meth c H locs cells slots mc ms (F0 m pc ls st0) rest (va_Qi post (BB G B) (fun q => B ≤ q) a) (fun q => B ≤ q)) (hS : va_S (fun q => B ≤ q) s.heap H locs)
    (kk : ∀ (r : Int32) (u : mp) (H1 : Heap) (locs1 : List Loc), post r u → mw G.1 vwCl B u H1 → H.size ≤ H1.size → va_S (fun q => B ≤ q) s.heap H1 locs1 → W p l e R s m args below meth c H1 locs1 (cells + mc) (slots + ms) Q (F0 m (pc + 3) ls (.int r :: rest))) : W p l e R s m args below meth c H locs cells slots Q (F0 m pc ls st0) :=
  va_calli hr hS (fun _ _ h => h) (fun _ h => h) (fun r u t H1 locs1 ht _ hp hb hz _ hS1 => kk r u H1 locs1 hp (by rw [← ht]; exact hb) hz hS1)
theorem kc_l {post : Int64 → mp → Prop} (hr : va_Run p l e R s m args below meth c H locs cells slots mc ms (F0 m pc ls st0) rest (va_Ql post (BB G B) (fun q => B ≤ q) a) (fun q => B ≤ q)) (hS : va_S (fun q => B ≤ q) s.heap H locs)
    (kk : ∀ (r : Int64) (u : mp) (H1 : Heap) (locs1 : List Loc), post r u → mw G.1 vwCl B u H1 → H.size ≤ H1.size → va_S (fun q => B ≤ q) s.heap H1 locs1 → W p l e R s m args below meth c H1 locs1 (cells + mc) (slots + ms) Q (F0 m (pc + 3) ls (.long r :: rest))) : W p l e R s m args below meth c H locs cells slots Q (F0 m pc ls st0) :=
  va_calll hr hS (fun _ _ h => h) (fun _ h => h) (fun r u t H1 locs1 ht _ hp hb hz _ hS1 => kk r u H1 locs1 hp (by rw [← ht]; exact hb) hz hS1)
theorem kc_r {post : mp → Nat → Prop} (hr : va_Run p l e R s m args below meth c H locs cells slots mc ms (F0 m pc ls st0) rest (va_Qr (fun (_ : mp) => True) (fun μ2 ra t => post μ2 ra ∧ BB G B μ2 t) (fun q => B ≤ q) a) (fun q => B ≤ q)) (hS : va_S (fun q => B ≤ q) s.heap H locs)
    (kk : ∀ (u : mp) (ra : Nat) (H1 : Heap) (locs1 : List Loc), post u ra → mw G.1 vwCl B u H1 → H.size ≤ H1.size → va_S (fun q => B ≤ q) s.heap H1 locs1 → W p l e R s m args below meth c H1 locs1 (cells + mc) (slots + ms) Q (F0 m (pc + 3) ls (.ref ra :: rest))) : W p l e R s m args below meth c H locs cells slots Q (F0 m pc ls st0) :=
  va_callr hr hS (fun _ _ h => h) (fun _ h => h) (fun u ra t H1 locs1 ht _ _ hb hz _ hS1 => kk u ra H1 locs1 hb.1 (by rw [← ht]; exact hb.2) hz hS1)
end KC
