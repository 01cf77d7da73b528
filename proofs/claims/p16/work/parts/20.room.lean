/-! What has really been used: the bounds of a stand, known and drawn tight -/
def tot (H : Heap) : Nat := H.foldl (fun n c => n + c.slots.size) 0
section RM
variable {p : Program} {l : Launch} {e : Env} {R : Room} {s : State} {m : MethodId} {args : Array Value} {below : List Frame} {meth : Method} {c : Code} {H : Heap} {locs : List Loc} {cells slots : Nat} {Q : State → Prop}
theorem st_tot0 {T : State} (X : Stand p l e R s m args below meth c T locs cells slots) : s.slotsUsed = tot s.heap := by
  have h := X.room
  simp only [State.hasRoom, Bool.and_eq_true] at h
  exact of_decide_eq_true (beq_iff_eq.mp h.2 ▸ decide_eq_true rfl)
theorem st_tot {T : State} (X : Stand p l e R s m args below meth c T locs cells slots) : T.slotsUsed = tot T.heap := beq_iff_eq.mp X.book
theorem Wknow {g : JFrame} (kk : H.size ≤ s.heap.size + cells → tot H ≤ tot s.heap + slots → W p l e R s m args below meth c H locs cells slots Q g) : W p l e R s m args below meth c H locs cells slots Q g := by
  intro T hT X
  refine kk ?_ ?_ T hT X
  · rw [← hT]; exact X.heapSize
  · rw [← hT, ← st_tot X, ← st_tot0 X]; exact X.used
theorem st_tight {T : State} {k n : Nat} (X : Stand p l e R s m args below meth c T locs cells slots) (hT : T.heap = H) (h1 : H.size ≤ s.heap.size + k) (h2 : tot H ≤ tot s.heap + n) : Stand p l e R s m args below meth c T locs k n := by
  refine { X with same := ?_ }
  obtain ⟨e1, e2, e3, e4, e5, e6⟩ := X.same
  refine ⟨e1, e2, ?_, e4, ?_, e6⟩
  · show T.heap.size ≤ _
    rw [hT]; exact h1
  · have a1 := st_tot X
    have a2 := st_tot0 X
    have a3 : T.slotsUsed = s.slotsUsed + _ := e4
    rw [a1, a2, hT] at a3
    exact Nat.le_of_add_le_add_left (a3 ▸ h2)
theorem Wtight {g : JFrame} {k n : Nat} (h1 : H.size ≤ s.heap.size + k) (h2 : tot H ≤ tot s.heap + n) (kk : W p l e R s m args below meth c H locs k n Q g) : W p l e R s m args below meth c H locs cells slots Q g := by
  intro T hT X
  exact kk T hT (st_tight X hT h1 h2)
end RM
/-! Contracts that may grow: the world and the new width; what was really used -/
def BG (G : GG) (B N T k c0 s0 : Nat) : mp × Nat → State → Prop := fun u t => mw G.1 vwCl B u.1 t.heap ∧ t.heap.size ≤ N + (c0 + 23 * (u.2 - k)) ∧ tot t.heap ≤ T + (s0 + 7268 * (u.2 - k))
def KN (G : GG) (B N T : Nat) (μ : mp) (U : State) : Prop := KW G B μ U ∧ U.heap.size = N ∧ tot U.heap = T
def KXN (G : GG) (B N T : Nat) (μ : mp) (U : State) : Prop := KX G B μ U ∧ U.heap.size = N ∧ tot U.heap = T
abbrev XN (G : GG) (B N T c0 s0 : Nat) (μ : mp) (CE : String → Prop) : String → State → State → Prop := vx_X (fun u : mp => u = μ) (fun E u t => CE E ∧ mw G.1 vwCl B u t.heap ∧ t.heap.size ≤ N + c0 ∧ tot t.heap ≤ T + s0) (fun q => B ≤ q)
theorem KN.blind {G : GG} {B N T : Nat} {μ : mp} {av : List Value} : FrameBlind (va_Pc av (KN G B N T μ)) := by
  intro a U g mk q
  obtain ⟨q0, q1, q2, q3⟩ := q
  exact ⟨q0, (KW.blind (av := av) a U g mk ⟨q0, q1⟩).2, q2, q3⟩
theorem KXN.blind {G : GG} {B N T : Nat} {μ : mp} {av : List Value} : FrameBlind (va_Pc av (KXN G B N T μ)) := by
  intro a U g mk q
  obtain ⟨q0, q1, q2, q3⟩ := q
  exact ⟨q0, (KX.blind (av := av) a U g mk ⟨q0, q1⟩).2, q2, q3⟩
section KG
variable {p : Program} {l : Launch} {e : Env} {R : Room} {s : State} {m : MethodId} {args : Array Value} {below : List Frame} {meth : Method} {c : Code} {H : Heap} {locs : List Loc} {cells slots mc ms : Nat} {Q : State → Prop}
variable {pc : Nat} {ls : Array Slot} {rest st0 : List Value} {a : Array Value} {G : GG} {B k c0 s0 c1 s1 : Nat} {μ : mp} {CE CE0 : String → Prop} {Qc : Array Value → State → Outcome → State → Prop}
theorem xknow {g : JFrame} {q : Addr} (kk : H.size ≤ s.heap.size + cells → tot H ≤ tot s.heap + slots → vx_W p l e R s m args below meth c H locs cells slots Q g q) : vx_W p l e R s m args below meth c H locs cells slots Q g q := by
  intro T hT X
  refine kk ?_ ?_ T hT X
  · rw [← hT]; exact X.heapSize
  · rw [← hT, ← st_tot X, ← st_tot0 X]; exact X.used
theorem xtight {g : JFrame} {q : Addr} {k n : Nat} (h1 : H.size ≤ s.heap.size + k) (h2 : tot H ≤ tot s.heap + n) (kk : vx_W p l e R s m args below meth c H locs k n Q g q) : vx_W p l e R s m args below meth c H locs cells slots Q g q := by
  intro T hT X
  exact kk T hT (st_tight X hT h1 h2)
theorem kg_v {post : mp × Nat → Prop} (hr : va_Run p l e R s m args below meth c H locs cells slots mc ms (F0 m pc ls st0) rest (va_Qv post (BG G B H.size (tot H) k c0 s0) (fun q => B ≤ q) a) (fun q => B ≤ q)) (hS : va_S (fun q => B ≤ q) s.heap H locs)
    (kk : ∀ (u : mp) (k2 : Nat) (H1 : Heap) (locs1 : List Loc), post (u, k2) → mw G.1 vwCl B u H1 → H.size ≤ H1.size → va_S (fun q => B ≤ q) s.heap H1 locs1 → W p l e R s m args below meth c H1 locs1 (cells + (c0 + 23 * (k2 - k))) (slots + (s0 + 7268 * (k2 - k))) Q (F0 m (pc + 3) ls rest)) : W p l e R s m args below meth c H locs cells slots Q (F0 m pc ls st0) :=
  Wknow fun h1 h2 => va_callv hr hS (fun _ _ h => h) (fun _ h => h) (fun u t H1 locs1 ht _ hp hb hz _ hS1 => by
    obtain ⟨b1, b2, b3⟩ := hb
    rw [ht] at b1 b2 b3
    exact Wtight (by omega) (by omega) (kk u.1 u.2 H1 locs1 hp b1 hz hS1))
theorem kg_i {post : Int32 → mp × Nat → Prop} (hr : va_Run p l e R s m args below meth c H locs cells slots mc ms (F0 m pc ls st0) rest (va_Qi post (BG G B H.size (tot H) k c0 s0) (fun q => B ≤ q) a) (fun q => B ≤ q)) (hS : va_S (fun q => B ≤ q) s.heap H locs)
    (kk : ∀ (r : Int32) (u : mp) (k2 : Nat) (H1 : Heap) (locs1 : List Loc), post r (u, k2) → mw G.1 vwCl B u H1 → H.size ≤ H1.size → va_S (fun q => B ≤ q) s.heap H1 locs1 → W p l e R s m args below meth c H1 locs1 (cells + (c0 + 23 * (k2 - k))) (slots + (s0 + 7268 * (k2 - k))) Q (F0 m (pc + 3) ls (.int r :: rest))) : W p l e R s m args below meth c H locs cells slots Q (F0 m pc ls st0) :=
  Wknow fun h1 h2 => va_calli hr hS (fun _ _ h => h) (fun _ h => h) (fun r u t H1 locs1 ht _ hp hb hz _ hS1 => by
    obtain ⟨b1, b2, b3⟩ := hb
    rw [ht] at b1 b2 b3
    exact Wtight (by omega) (by omega) (kk r u.1 u.2 H1 locs1 hp b1 hz hS1))
theorem kgx_v {post : mp × Nat → Prop} (hr : vx_Run p l e R s m args below meth c H locs cells slots mc ms (F0 m pc ls st0) rest (va_Qv post (BG G B H.size (tot H) k c0 s0) (fun q => B ≤ q) a) (XN G B H.size (tot H) c1 s1 μ CE) (fun q => B ≤ q)) (hS : va_S (fun q => B ≤ q) s.heap H locs)
    (kx : ∀ (E : String) (ce : Cell) (q9 : Addr) (H1 : Heap) (locs1 : List Loc), CE E → mw G.1 vwCl B μ H1 → va_S (fun q => B ≤ q) s.heap H1 locs1 → H1[q9]? = some ce → ce.vm = .none → s.vm.findClass E = some ce.cls → vx_W p l e R s m args below meth c H1 locs1 (cells + c1) (slots + s1) Q (F0 m pc ls rest) q9)
    (kk : ∀ (u : mp) (k2 : Nat) (H1 : Heap) (locs1 : List Loc), post (u, k2) → mw G.1 vwCl B u H1 → H.size ≤ H1.size → va_S (fun q => B ≤ q) s.heap H1 locs1 → W p l e R s m args below meth c H1 locs1 (cells + (c0 + 23 * (k2 - k))) (slots + (s0 + 7268 * (k2 - k))) Q (F0 m (pc + 3) ls rest)) : W p l e R s m args below meth c H locs cells slots Q (F0 m pc ls st0) :=
  Wknow fun g1 g2 => vx_callv hr hS (fun _ _ h => h) (fun _ h => h) (fun _ _ h => h) (fun E ce q9 u t H1 locs1 ht _ hu hb _ _ hS1 h1 h2 h3 => by
    obtain ⟨b0, b1, b2, b3⟩ := hb
    rw [ht] at b1 b2 b3
    rw [hu] at b1
    exact xtight (by omega) (by omega) (kx E ce q9 H1 locs1 b0 b1 hS1 h1 h2 h3)) (fun u t H1 locs1 ht _ hp hb hz _ hS1 => by
    obtain ⟨b1, b2, b3⟩ := hb
    rw [ht] at b1 b2 b3
    exact Wtight (by omega) (by omega) (kk u.1 u.2 H1 locs1 hp b1 hz hS1))
theorem kgx_i {post : Int32 → mp × Nat → Prop} (hr : vx_Run p l e R s m args below meth c H locs cells slots mc ms (F0 m pc ls st0) rest (va_Qi post (BG G B H.size (tot H) k c0 s0) (fun q => B ≤ q) a) (XN G B H.size (tot H) c1 s1 μ CE) (fun q => B ≤ q)) (hS : va_S (fun q => B ≤ q) s.heap H locs)
    (kx : ∀ (E : String) (ce : Cell) (q9 : Addr) (H1 : Heap) (locs1 : List Loc), CE E → mw G.1 vwCl B μ H1 → va_S (fun q => B ≤ q) s.heap H1 locs1 → H1[q9]? = some ce → ce.vm = .none → s.vm.findClass E = some ce.cls → vx_W p l e R s m args below meth c H1 locs1 (cells + c1) (slots + s1) Q (F0 m pc ls rest) q9)
    (kk : ∀ (r : Int32) (u : mp) (k2 : Nat) (H1 : Heap) (locs1 : List Loc), post r (u, k2) → mw G.1 vwCl B u H1 → H.size ≤ H1.size → va_S (fun q => B ≤ q) s.heap H1 locs1 → W p l e R s m args below meth c H1 locs1 (cells + (c0 + 23 * (k2 - k))) (slots + (s0 + 7268 * (k2 - k))) Q (F0 m (pc + 3) ls (.int r :: rest))) : W p l e R s m args below meth c H locs cells slots Q (F0 m pc ls st0) :=
  Wknow fun g1 g2 => vx_calli hr hS (fun _ _ h => h) (fun _ h => h) (fun _ _ h => h) (fun E ce q9 u t H1 locs1 ht _ hu hb _ _ hS1 h1 h2 h3 => by
    obtain ⟨b0, b1, b2, b3⟩ := hb
    rw [ht] at b1 b2 b3
    rw [hu] at b1
    exact xtight (by omega) (by omega) (kx E ce q9 H1 locs1 b0 b1 hS1 h1 h2 h3)) (fun r u t H1 locs1 ht _ hp hb hz _ hS1 => by
    obtain ⟨b1, b2, b3⟩ := hb
    rw [ht] at b1 b2 b3
    exact Wtight (by omega) (by omega) (kk r u.1 u.2 H1 locs1 hp b1 hz hS1))
theorem kgx_l {post : Int64 → mp × Nat → Prop} (hr : vx_Run p l e R s m args below meth c H locs cells slots mc ms (F0 m pc ls st0) rest (va_Ql post (BG G B H.size (tot H) k c0 s0) (fun q => B ≤ q) a) (XN G B H.size (tot H) c1 s1 μ CE) (fun q => B ≤ q)) (hS : va_S (fun q => B ≤ q) s.heap H locs)
    (kx : ∀ (E : String) (ce : Cell) (q9 : Addr) (H1 : Heap) (locs1 : List Loc), CE E → mw G.1 vwCl B μ H1 → va_S (fun q => B ≤ q) s.heap H1 locs1 → H1[q9]? = some ce → ce.vm = .none → s.vm.findClass E = some ce.cls → vx_W p l e R s m args below meth c H1 locs1 (cells + c1) (slots + s1) Q (F0 m pc ls rest) q9)
    (kk : ∀ (r : Int64) (u : mp) (k2 : Nat) (H1 : Heap) (locs1 : List Loc), post r (u, k2) → mw G.1 vwCl B u H1 → H.size ≤ H1.size → va_S (fun q => B ≤ q) s.heap H1 locs1 → W p l e R s m args below meth c H1 locs1 (cells + (c0 + 23 * (k2 - k))) (slots + (s0 + 7268 * (k2 - k))) Q (F0 m (pc + 3) ls (.long r :: rest))) : W p l e R s m args below meth c H locs cells slots Q (F0 m pc ls st0) :=
  Wknow fun g1 g2 => vx_calll hr hS (fun _ _ h => h) (fun _ h => h) (fun _ _ h => h) (fun E ce q9 u t H1 locs1 ht _ hu hb _ _ hS1 h1 h2 h3 => by
    obtain ⟨b0, b1, b2, b3⟩ := hb
    rw [ht] at b1 b2 b3
    rw [hu] at b1
    exact xtight (by omega) (by omega) (kx E ce q9 H1 locs1 b0 b1 hS1 h1 h2 h3)) (fun r u t H1 locs1 ht _ hp hb hz _ hS1 => by
    obtain ⟨b1, b2, b3⟩ := hb
    rw [ht] at b1 b2 b3
    exact Wtight (by omega) (by omega) (kk r u.1 u.2 H1 locs1 hp b1 hz hS1))
theorem kx_outN {E : String} {ce : Cell} {q : Addr} {mc0 ms0 N T : Nat} (hN : s.heap.size = N) (hT : tot s.heap = T) (hout : ∀ x ∈ c.exceptionTable.toList, False) (hlocks : meth.locks = false) (hcell : H[q]? = some ce) (hv : ce.vm = .none) (hcl : s.vm.findClass E = some ce.cls) (hce : CE0 E) (hP : mw G.1 vwCl B μ H) (hS : va_S (fun q => B ≤ q) s.heap H locs) (h1 : cells ≤ c1) (h2 : slots ≤ s1) (hc : cells ≤ mc0) (hs : slots ≤ ms0) :
    vx_W p l e R s m args below meth c H locs cells slots (vx_MQ below Qc (XN G B N T c1 s1 μ CE0) args s mc0 ms0 (fun q => B ≤ q)) (F0 m pc ls rest) q :=
  xknow fun g1 g2 => vx_out (fun x hx => (hout x hx).elim) hlocks hcell hv hcl (fun t ht _ => ⟨μ, rfl, ⟨hce, by rw [ht]; exact hP, by rw [ht]; omega, by rw [ht]; omega⟩, hS.F ht⟩) (fun z hz => hS.2.2 z hz) hc hs
end KG
