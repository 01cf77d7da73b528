/-! Methods that return or throw: the world is unchanged where one throws; CE says of which class the thrown object is, and when -/
def exI : List String := ["java/lang/Throwable", "java/lang/RuntimeException", "java/lang/Exception"]
def DcI (U : State) : Prop := ∀ x ∈ exI, va_Nw (.declares (Jvm.Bundle.initS x)) U
theorem DcI.at {s U : State} (h : DcI s) (hW : s.WarmedH U.vm) : DcI U := fun x hx => (h x hx).warmD hW
def KX (G : GG) (B : Nat) (μ : mp) (U : State) : Prop := KW G B μ U ∧ DcI U
theorem KX.blind {G : GG} {B : Nat} {μ : mp} {av : List Value} : FrameBlind (va_Pc av (KX G B μ)) := by
  intro a U g mk q
  obtain ⟨q0, q1, q2⟩ := q
  exact ⟨q0, (KW.blind (av := av) a U g mk ⟨q0, q1⟩).2, q2.at (U := U.calling g mk a) (State.WarmedH.refl U)⟩
abbrev XX (G : GG) (B : Nat) (μ : mp) (CE : String → Prop) : String → State → State → Prop := vx_X (fun u : mp => u = μ) (fun E u t => CE E ∧ mw G.1 vwCl B u t.heap) (fun q => B ≤ q)
def okS (x : Int32) : Prop := ¬ x < 0 ∧ x < nI 6
def okT (x : Int32) : Prop := ¬ x < 0 ∧ x < nI 12
theorem ok_nat {x : Int32} {n : Nat} (hn : n < 2 ^ 31) (h : ¬ x < 0 ∧ x < nI n) : ∃ j : Nat, j < n ∧ x = nI j := by
  obtain ⟨j, hj, rfl⟩ := nI_of h.1
  exact ⟨j, (nI_ltI hj hn).mp h.2, rfl⟩
theorem nat_ok {j n : Nat} (h : j < n) (hn : n < 2 ^ 31) : ¬ nI j < 0 ∧ nI j < nI n := ⟨nI_pos (by omega), (nI_ltI (by omega) hn).mpr h⟩
section KX
variable {p : Program} {l : Launch} {e : Env} {R : Room} {s : State} {m : MethodId} {args : Array Value} {below : List Frame} {meth : Method} {c : Code} {H : Heap} {locs : List Loc} {cells slots : Nat} {Q : State → Prop}
variable {pc : Nat} {ls : Array Slot} {rest st0 : List Value} {a : Array Value} {mc ms : Nat} {G : GG} {B : Nat} {μ : mp} {CE CE0 : String → Prop} {Qc : Array Value → State → Outcome → State → Prop}
theorem kx_v {post : mp → Prop} (hr : vx_Run p l e R s m args below meth c H locs cells slots mc ms (F0 m pc ls st0) rest (va_Qv post (BB G B) (fun q => B ≤ q) a) (XX G B μ CE) (fun q => B ≤ q)) (hS : va_S (fun q => B ≤ q) s.heap H locs)
    (kx : ∀ (E : String) (ce : Cell) (q9 : Addr) (H1 : Heap) (locs1 : List Loc), CE E → mw G.1 vwCl B μ H1 → va_S (fun q => B ≤ q) s.heap H1 locs1 → H1[q9]? = some ce → ce.vm = .none → s.vm.findClass E = some ce.cls → vx_W p l e R s m args below meth c H1 locs1 (cells + mc) (slots + ms) Q (F0 m pc ls rest) q9)
    (kk : ∀ (u : mp) (H1 : Heap) (locs1 : List Loc), post u → mw G.1 vwCl B u H1 → H.size ≤ H1.size → va_S (fun q => B ≤ q) s.heap H1 locs1 → W p l e R s m args below meth c H1 locs1 (cells + mc) (slots + ms) Q (F0 m (pc + 3) ls rest)) : W p l e R s m args below meth c H locs cells slots Q (F0 m pc ls st0) :=
  vx_callv hr hS (fun _ _ h => h) (fun _ h => h) (fun _ _ h => h) (fun E ce q9 u t H1 locs1 ht _ hu hb _ _ hS1 h1 h2 h3 => kx E ce q9 H1 locs1 hb.1 (by rw [← hu, ← ht]; exact hb.2) hS1 h1 h2 h3) (fun u t H1 locs1 ht _ hp hb hz _ hS1 => kk u H1 locs1 hp (by rw [← ht]; exact hb) hz hS1)
theorem kx_i {post : Int32 → mp → Prop} (hr : vx_Run p l e R s m args below meth c H locs cells slots mc ms (F0 m pc ls st0) rest (va_Qi post (BB G B) (fun q => B ≤ q) a) (XX G B μ CE) (fun q => B ≤ q)) (hS : va_S (fun q => B ≤ q) s.heap H locs)
    (kx : ∀ (E : String) (ce : Cell) (q9 : Addr) (H1 : Heap) (locs1 : List Loc), CE E → mw G.1 vwCl B μ H1 → va_S (fun q => B ≤ q) s.heap H1 locs1 → H1[q9]? = some ce → ce.vm = .none → s.vm.findClass E = some ce.cls → vx_W p l e R s m args below meth c H1 locs1 (cells + mc) (slots + ms) Q (F0 m pc ls rest) q9)
    (kk : ∀ (r : Int32) (u : mp) (H1 : Heap) (locs1 : List Loc), post r u → mw G.1 vwCl B u H1 → H.size ≤ H1.size → va_S (fun q => B ≤ q) s.heap H1 locs1 → W p l e R s m args below meth c H1 locs1 (cells + mc) (slots + ms) Q (F0 m (pc + 3) ls (.int r :: rest))) : W p l e R s m args below meth c H locs cells slots Q (F0 m pc ls st0) :=
  vx_calli hr hS (fun _ _ h => h) (fun _ h => h) (fun _ _ h => h) (fun E ce q9 u t H1 locs1 ht _ hu hb _ _ hS1 h1 h2 h3 => kx E ce q9 H1 locs1 hb.1 (by rw [← hu, ← ht]; exact hb.2) hS1 h1 h2 h3) (fun r u t H1 locs1 ht _ hp hb hz _ hS1 => kk r u H1 locs1 hp (by rw [← ht]; exact hb) hz hS1)
theorem kx_l {post : Int64 → mp → Prop} (hr : vx_Run p l e R s m args below meth c H locs cells slots mc ms (F0 m pc ls st0) rest (va_Ql post (BB G B) (fun q => B ≤ q) a) (XX G B μ CE) (fun q => B ≤ q)) (hS : va_S (fun q => B ≤ q) s.heap H locs)
    (kx : ∀ (E : String) (ce : Cell) (q9 : Addr) (H1 : Heap) (locs1 : List Loc), CE E → mw G.1 vwCl B μ H1 → va_S (fun q => B ≤ q) s.heap H1 locs1 → H1[q9]? = some ce → ce.vm = .none → s.vm.findClass E = some ce.cls → vx_W p l e R s m args below meth c H1 locs1 (cells + mc) (slots + ms) Q (F0 m pc ls rest) q9)
    (kk : ∀ (r : Int64) (u : mp) (H1 : Heap) (locs1 : List Loc), post r u → mw G.1 vwCl B u H1 → H.size ≤ H1.size → va_S (fun q => B ≤ q) s.heap H1 locs1 → W p l e R s m args below meth c H1 locs1 (cells + mc) (slots + ms) Q (F0 m (pc + 3) ls (.long r :: rest))) : W p l e R s m args below meth c H locs cells slots Q (F0 m pc ls st0) :=
  vx_calll hr hS (fun _ _ h => h) (fun _ h => h) (fun _ _ h => h) (fun E ce q9 u t H1 locs1 ht _ hu hb _ _ hS1 h1 h2 h3 => kx E ce q9 H1 locs1 hb.1 (by rw [← hu, ← ht]; exact hb.2) hS1 h1 h2 h3) (fun r u t H1 locs1 ht _ hp hb hz _ hS1 => kk r u H1 locs1 hp (by rw [← ht]; exact hb) hz hS1)
theorem kx_out {E : String} {ce : Cell} {q : Addr} {mc0 ms0 : Nat} (hout : ∀ x ∈ c.exceptionTable.toList, False) (hlocks : meth.locks = false) (hcell : H[q]? = some ce) (hv : ce.vm = .none) (hcl : s.vm.findClass E = some ce.cls) (hce : CE0 E) (hP : mw G.1 vwCl B μ H) (hS : va_S (fun q => B ≤ q) s.heap H locs) (hc : cells ≤ mc0) (hs : slots ≤ ms0) :
    vx_W p l e R s m args below meth c H locs cells slots (vx_MQ below Qc (XX G B μ CE0) args s mc0 ms0 (fun q => B ≤ q)) (F0 m pc ls rest) q :=
  vx_out (fun x hx => (hout x hx).elim) hlocks hcell hv hcl (fun t ht _ => ⟨μ, rfl, ⟨hce, by rw [ht]; exact hP⟩, hS.F ht⟩) (fun z hz => hS.2.2 z hz) hc hs
theorem kx_throw {cc : ByteArray} (hexec : p.tables.exec = Jvm.exec) (hb : c.code = cc) (hlt : l.stackTraces = false) {cls text : String} {ik is ic mc0 ms0 : Nat} (hown : s.vm.findClass RX6 = some m.cls) (hcls : Jvm.Bundle.fit cls = true)
    (hk : (Cond.classLink RX6 ik cls).before args s = true) (hini : (Cond.initialized cls).before args s = true) (hstr : (is, text) ∈ strs) (hcast : va_Nw (.castable cls cls) s) (hDc : DcI s) (hgw : ∀ w ∈ (vx_atS RX6 ic cls exN).filter goodWord, w.before args s = true)
    (hbad : ∀ w ∈ (vx_atS RX6 ic cls exN).filter (fun w => !goodWord w), w ∈ [Cond.declares (Jvm.Bundle.initS "java/lang/Throwable"), Cond.declares (Jvm.Bundle.initS "java/lang/RuntimeException"), Cond.declares (Jvm.Bundle.initS "java/lang/Exception"), Cond.castable cls cls]) (hgood : ∀ w ∈ Cond.classLink RX6 ik cls :: Cond.initialized cls :: vx_atS RX6 ic cls exN, vx_ot w = true)
    (hKK : KK G B s) (hP : mw G.1 vwCl B μ H) (hS : va_S (fun q => B ≤ q) s.heap H locs) (hsize : ls.size = c.maxLocals)
    (d0 : decode cc pc = .ok (.new ik, 3)) (d3 : decode cc (pc + 3) = .ok (.dup, 1)) (d4 : decode cc (pc + 4) = .ok (.ldc is, 2)) (d6 : decode cc (pc + 6) = .ok (.invokespecial ic, 3)) (d9 : decode cc (pc + 9) = .ok (.athrow, 1))
    (hout : ∀ x ∈ c.exceptionTable.toList, False) (hRf : 6 ≤ R.frames) (hRl : 100 ≤ R.locals) (hst : (rest.map fun v => v.category).sum ≤ 8) (hRc : cells + 1 ≤ R.cells) (hRs : slots + 6 ≤ R.slots) (hlocks : meth.locks = false) (hce : CE0 cls) (hc : cells + 1 ≤ mc0) (hs : slots + 6 ≤ ms0) :
    W p l e R s m args below meth c H locs cells slots (vx_MQ below Qc (XX G B μ CE0) args s mc0 ms0 (fun q => B ≤ q)) (F0 m pc ls rest) := by
  obtain ⟨sa, hsa⟩ := hKK.2.2.2.1 _ hstr
  refine vx_throwS (names := exN) (A := fun q => B ≤ q) hexec hb hlt hown hcls (by decide +kernel) hk hini hsa (vx_hat hgw hbad (vx_c (va_Nw.use rfl (hDc _ (by simp [exI]))) (vx_c (va_Nw.use rfl (hDc _ (by simp [exI]))) (vx_c (va_Nw.use rfl (hDc _ (by simp [exI]))) (vx_c (va_Nw.use rfl hcast) vx_n))))) hgood hKK.2.2.2.2.2.1 hKK.2.2.2.2.2.2 hS hsize d0 d3 d4 d6 d9 (fun x hx => (hout x hx).elim) (by show 2 + 3 < _; omega) (by show _ + (13 * (2 + 1) + 43) ≤ _; omega) hRc hRs hlocks (fun t hal hz hq => ?_) (fun z hz => hS.2.2 z hz) hc hs
  exact ⟨μ, rfl, ⟨hce, hP.kept hq⟩, ⟨Nat.le_trans hS.1 hz, fun q h1 h2 => (hq q (Nat.lt_of_lt_of_le h1 hS.1)).trans (hS.2.1 q h1 h2)⟩⟩
end KX
def okN (x : Int32) : Prop := ¬ x < -1000000 ∧ x ≤ 1000000
def okP (x y : Int32) : Prop := okT x ∧ okT y ∧ ¬ x = y ^^^ nI 1
def okA (kd a b c : Int32) : Prop := okN c ∧ ((kd = 0 ∧ okP a b) ∨ (kd = nI 1 ∧ okS a ∧ okT b) ∨ (kd = nI 2 ∧ okS a ∧ okN b ∧ b ≤ c))
theorem okA.k0 {kd a b c : Int32} (h : okA kd a b c) (e : kd = 0) : okP a b := by
  subst e
  rcases h.2 with ⟨-, h⟩ | ⟨h, -⟩ | ⟨h, -⟩
  · exact h
  · exact absurd h (by decide)
  · exact absurd h (by decide)
theorem okA.k1 {kd a b c : Int32} (h : okA kd a b c) (e : kd = nI 1) : okS a ∧ okT b := by
  subst e
  rcases h.2 with ⟨h, -⟩ | ⟨-, h⟩ | ⟨h, -⟩
  · exact absurd h (by decide)
  · exact h
  · exact absurd h (by decide)
theorem okA.k2 {kd a b c : Int32} (h : okA kd a b c) (e : kd = nI 2) : okS a ∧ okN b ∧ b ≤ c := by
  subst e
  rcases h.2 with ⟨h, -⟩ | ⟨h, -⟩ | ⟨-, h⟩
  · exact absurd h (by decide)
  · exact absurd h (by decide)
  · exact h
theorem okA.kn {kd a b c : Int32} (h : okA kd a b c) (e0 : ¬ kd = 0) (e1 : ¬ kd = nI 1) (e2 : ¬ kd = nI 2) : False := by
  rcases h.2 with ⟨h, -⟩ | ⟨h, -⟩ | ⟨h, -⟩
  · exact e0 h
  · exact e1 h
  · exact e2 h
