/-! The law: the script lies below B and is read from the start's heap -/
section SC
variable {p : Program} {l : Launch} {e : Env} {R : Room} {s : State} {m : MethodId} {args : Array Value} {below : List Frame} {meth : Method} {c : Code} {H : Heap} {locs : List Loc} {cells slots : Nat} {Q : State → Prop}
variable {cc : ByteArray} {pc : Nat} {ls : Array Slot} {rest : List Value} {a n : Nat} {f : Nat → Int32} {B : Nat}
theorem sc_iald (hexec : p.tables.exec = Jvm.exec) (hb : c.code = cc) (hX : va_X a n f s s.heap) (hbl : a < s.heap.size) (hB : a < B) (hS : va_S (fun q => B ≤ q) s.heap H locs) {i : Nat} (hi : i < n) (hn : n < 2 ^ 31) (hdg : decode cc pc = .ok (.iaload, 1))
    (kk : W p l e R s m args below meth c H locs cells slots Q (F0 m (pc + 1) ls (.int (f i) :: rest))) : W p l e R s m args below meth c H locs cells slots Q (F0 m pc ls (.int (nI i) :: .ref a :: rest)) := by
  refine va_sld hexec hb hX hbl (A := fun q => B ≤ q) (Nat.not_le.mpr hB) hS (vp_in_nI hi hn) hdg ?_
  rw [nI_clamp (Nat.lt_trans hi hn)]
  exact kk
theorem sc_alen (hexec : p.tables.exec = Jvm.exec) (hb : c.code = cc) (hX : va_X a n f s s.heap) (hbl : a < s.heap.size) (hB : a < B) (hS : va_S (fun q => B ≤ q) s.heap H locs) (hdg : decode cc pc = .ok (.arraylength, 1))
    (kk : W p l e R s m args below meth c H locs cells slots Q (F0 m (pc + 1) ls (.int (nI n) :: rest))) : W p l e R s m args below meth c H locs cells slots Q (F0 m pc ls (.ref a :: rest)) :=
  va_slen hexec hb hX hbl (A := fun q => B ≤ q) (Nat.not_le.mpr hB) hS hdg kk
end SC
theorem and31 (x : Int32) : ∃ k : Nat, k < 32 ∧ x &&& nI 31 = nI k := by
  refine ⟨(x.toBitVec &&& 31#32).toNat, ?_, ?_⟩
  · have h : (x.toBitVec &&& 31#32).toNat ≤ 31 := by rw [BitVec.toNat_and]; exact Nat.and_le_right
    omega
  · apply Int32.toBitVec_inj.mp
    rw [Int32.toBitVec_and]
    show x.toBitVec &&& 31#32 = (nI _).toBitVec
    have h9 : BitVec.ofNat 32 (x.toBitVec &&& 31#32).toNat = x.toBitVec &&& 31#32 := by simp
    exact h9.symm
theorem DK.ext {G : GG} {μ μ2 : mp} {d aS aL aR aT aO bn nn s9 lo sc : Nat} {nf : List Value} {sa la bE : Nat → Nat} {F : Nat → Nat → Int64} {g : Nat → Int64} {w9 : Nat → Int32} {fS fL fR fT : Nat → Option Nat} {sp : Nat → Nat} {fO : Nat → Int64} (h : DK G μ d aS aL aR aT aO bn nn s9 lo sc nf sa la bE F g w9 fS fL fR fT sp fO) (hx : ∀ (a : Nat) (e : va_E), μ a = some e → μ2 a = some e) : DK G μ2 d aS aL aR aT aO bn nn s9 lo sc nf sa la bE F g w9 fS fL fR fT sp fO := by
  obtain ⟨h1, ⟨a1, a2, a3, a4, a5⟩, b1, b2, ⟨⟨s1, s2, s3, s4⟩, s5, s6⟩, b4⟩ := h
  refine ⟨hx _ _ h1, ⟨hx _ _ a1, hx _ _ a2, hx _ _ a3, hx _ _ a4, a5⟩, hx _ _ b1, fun j hj => ?_, ⟨⟨hx _ _ s1, hx _ _ s2, hx _ _ s3, hx _ _ s4⟩, fun j hj => ?_, s6⟩, b4⟩
  · obtain ⟨c1, x1, x2, x3, x4, x5, x6, c2⟩ := b2 j hj
    exact ⟨c1, x1, x2, x3, x4, x5, x6, hx _ _ c2⟩
  · obtain ⟨⟨j1, j2⟩, j4⟩ := s5 j hj
    exact ⟨⟨hx _ _ j1, hx _ _ j2⟩, j4⟩
theorem Apt.no {G : GG} {μ : mp} {d aS aL aR aT aO bn nn s9 lo sc : Nat} {nf : List Value} {sa la bE : Nat → Nat} {F : Nat → Nat → Int64} {g : Nat → Int64} {w9 : Nat → Int32} {fS fL fR fT : Nat → Option Nat} {sp : Nat → Nat} {fO : Nat → Int64} (h : DK G μ d aS aL aR aT aO bn nn s9 lo sc nf sa la bE F g w9 fS fL fR fT sp fO) {a : Nat} (ha : μ a = none) : Apt d aO s9 lo sa la sp a := by
  intro ho
  rcases ho with e | e | e | e | ⟨j, hj, e | e⟩ | ⟨j, hj, e⟩
  · subst e; rw [h.1] at ha; cases ha
  · subst e; rw [h.2.1.2.2.2.1] at ha; cases ha
  · subst e; rw [h.2.2.2.2.1.1.2.2.1] at ha; cases ha
  · subst e; rw [h.2.2.2.2.1.1.2.2.2] at ha; cases ha
  · subst e; rw [(h.2.2.2.2.1.2.1 j hj).1.1] at ha; cases ha
  · subst e; rw [(h.2.2.2.2.1.2.1 j hj).1.2] at ha; cases ha
  · subst e
    obtain ⟨-, x1, x2, x3, x4, x5, x6, c2⟩ := h.2.2.2.1 j hj
    rw [c2] at ha; cases ha
