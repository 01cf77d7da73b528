/-! The law: the script lies below B and is read from the start's heap -/
section SC
variable {p : Program} {l : Launch} {e : Env} {R : Room} {s : State} {m : MethodId} {args : Array Value} {below : List Frame} {meth : Method} {c : Code} {H : Heap} {locs : List Loc} {cells slots : Nat} {Q : State → Prop}
variable {cc : ByteArray} {pc : Nat} {ls : Array Slot} {rest : List Value} {a n : Nat} {f : Nat → Int32} {B : Nat}
theorem sc_iald (hexec : p.tables.exec = Jvm.exec) (hb : c.code = cc) (hX : va_X a n f s s.heap) (hbl : a < s.heap.size) (hB : a < B) (hS : va_S (fun q => B ≤ q) s.heap H locs) {i : Nat} (hi : i < n) (hn : n < 2 ^ 31) (hdg : decode cc pc = .ok (.iaload, 1))
    (kk : W p l e R s m args below meth c H locs cells slots Q (F0 m (pc + 1) ls (.int (f i) :: rest))) : W p l e R s m args below meth c H locs cells slots Q (F0 m pc ls (.int (nI i) :: .ref a :: rest)) := by
  refine va_sld hexec hb hX hbl (A := fun q => B ≤ q) (Nat.not_le.mpr hB) hS (vp_in_nI hi hn) hdg ?_
  rw [nI_clamp (Nat.lt_trans hi hn)]
  exact kk
theorem sc_alen (hexec : p.tables.exec = Jvm.exec) (hb : c.code = cc) (hX : va_X a n f s s.heap) (hbl : a < s.heap.size) (hB : a < B) (hS : va_S (fun q => B ≤ q) s.heap H locs) (hdg : decode cc pc = .ok (.arraylength, 1))
    (kk : W p l e R s m args below meth c H locs cells slots Q (F0 m (pc + 1) ls (.int (nI n) :: rest))) : W p l e R s m args below meth c H locs cells slots Q (F0 m pc ls (.ref a :: rest)) :=
  va_slen hexec hb hX hbl (A := fun q => B ≤ q) (Nat.not_le.mpr hB) hS hdg kk
end SC
theorem and31 (x : Int32) : ∃ k : Nat, k < 32 ∧ x &&& nI 31 = nI k := by
  refine ⟨(x.toBitVec &&& 31#32).toNat, ?_, ?_⟩
  · have h : (x.toBitVec &&& 31#32).toNat ≤ 31 := by rw [BitVec.toNat_and]; exact Nat.and_le_right
    omega
  · apply Int32.toBitVec_inj.mp
    rw [Int32.toBitVec_and]
    show x.toBitVec &&& 31#32 = (nI _).toBitVec
    have h9 : BitVec.ofNat 32 (x.toBitVec &&& 31#32).toNat = x.toBitVec &&& 31#32 := by simp
    exact h9.symm
theorem DK.ext {G : GG} {μ μ2 : mp} {d aS aL aR aT aO k sc : Nat} {sa na la bE : Nat → Nat} {F : Nat → Nat → Int64} {fS fL fR fT : Nat → Option Nat} {sp : Nat → Nat} {fO : Nat → Int64} (h : DK G μ d aS aL aR aT aO k sc sa na la bE F fS fL fR fT sp fO) (hx : ∀ (a : Nat) (e : va_E), μ a = some e → μ2 a = some e) : DK G μ2 d aS aL aR aT aO k sc sa na la bE F fS fL fR fT sp fO := by
  obtain ⟨h1, ⟨a1, a2, a3, a4, a5⟩, b1, b2, b3, b4⟩ := h
  refine ⟨hx _ _ h1, ⟨hx _ _ a1, hx _ _ a2, hx _ _ a3, hx _ _ a4, a5⟩, hx _ _ b1, fun j hj => ?_, ⟨fun j hj => ?_, b3.2⟩, b4⟩
  · obtain ⟨c1, x1, x2, x3, x4, x5, x6, c2⟩ := b2 j hj
    exact ⟨c1, x1, x2, x3, x4, x5, x6, hx _ _ c2⟩
  · obtain ⟨⟨j1, j2, j3⟩, j4⟩ := b3.1 j hj
    exact ⟨⟨hx _ _ j1, hx _ _ j2, hx _ _ j3⟩, j4⟩
theorem Apt.no {G : GG} {μ : mp} {d aS aL aR aT aO k sc : Nat} {sa na la bE : Nat → Nat} {F : Nat → Nat → Int64} {fS fL fR fT : Nat → Option Nat} {sp : Nat → Nat} {fO : Nat → Int64} (h : DK G μ d aS aL aR aT aO k sc sa na la bE F fS fL fR fT sp fO) {a : Nat} (ha : μ a = none) : Apt d aO sa na la sp a := by
  refine ⟨Ne.symm (mp_nn h.1 ha), Ne.symm (mp_nn h.2.1.2.2.2.1 ha), fun j hj => ?_, fun j hj => ?_⟩
  · obtain ⟨⟨j1, j2, j3⟩, -⟩ := h.2.2.2.2.1.1 j hj
    exact ⟨Ne.symm (mp_nn j1 ha), Ne.symm (mp_nn j2 ha), Ne.symm (mp_nn j3 ha)⟩
  · obtain ⟨-, x1, x2, x3, x4, x5, x6, c2⟩ := h.2.2.2.1 j hj
    exact Ne.symm (mp_nn c2 ha)
/-! The law's loop in any state -/
theorem DG.mux {G : GG} {μ : mp} {d k sc x : Nat} {D : Nat → Prop} {e0 e : va_E} (h : DG G μ d k sc D) (hx : μ x = some e0) (hn : ¬ D x) (ht : ∀ (c : ClassId) (n : Nat) (g : Nat → Option Nat), e0 ≠ .inl (c, n, .inr (.inr (.inr (.inr g))))) : DG G (mu μ x e) d k sc D := by
  obtain ⟨aS, aL, aR, aT, aO, sa, na, la, bE, F, fS, fL, fR, fT, sp, fO, ⟨h1, ⟨a1, a2, a3, a4, a5⟩, b1, b2, b3, b4⟩, ⟨v1, v2⟩, h3, h4⟩ := h
  obtain ⟨p1, p2, p3, p4⟩ := h4 x hn
  refine ⟨aS, aL, aR, aT, aO, sa, na, la, bE, F, fS, fL, fR, fT, sp, fO, ⟨(mu_n (Ne.symm p1)).trans h1, ⟨(mu_n (Ne.symm (mp_ne hx a1 (ht _ _ _)))).trans a1, (mu_n (Ne.symm (mp_ne hx a2 (ht _ _ _)))).trans a2, (mu_n (Ne.symm (mp_ne hx a3 (ht _ _ _)))).trans a3, (mu_n (Ne.symm p2)).trans a4, a5⟩, (mu_n (Ne.symm (mp_ne hx b1 (ht _ _ _)))).trans b1, fun j hj => ?_, ⟨fun j hj => ?_, b3.2⟩, b4⟩, ⟨fun j hj => ?_, v2⟩, h3, h4⟩
  · obtain ⟨c1, x1, x2, x3, x4, x5, x6, c2⟩ := b2 j hj
    exact ⟨c1, x1, x2, x3, x4, x5, x6, (mu_n (Ne.symm (p4 j hj))).trans c2⟩
  · obtain ⟨⟨j1, j2, j3⟩, jb⟩ := b3.1 j hj
    obtain ⟨q1, q2, q3⟩ := p3 j hj
    exact ⟨⟨(mu_n (Ne.symm q1)).trans j1, (mu_n (Ne.symm q2)).trans j2, (mu_n (Ne.symm q3)).trans j3⟩, jb⟩
  · obtain ⟨p, q, kd, a, b, c, e1, e2, e3, e4⟩ := v1 j hj
    exact ⟨p, q, kd, a, b, c, e1, e2, e3, (mu_n (Ne.symm (p4 j (by omega)))).trans e4⟩
theorem DG.nD {G : GG} {μ : mp} {d k sc : Nat} {D : Nat → Prop} (h : DG G μ d k sc D) : sc ≤ 20 := by
  obtain ⟨aS, aL, aR, aT, aO, sa, na, la, bE, F, fS, fL, fR, fT, sp, fO, h1, -⟩ := h
  exact h1.2.2.2.2.2
/-- between two calls: the desk, the model, and what lies apart -/
def LI (G : GG) (μ : mp) (d md ou ab av c1 c2 c3 c4 c5 c6 c7 c8 c9 k sc : Nat) (D : Nat → Prop) : Prop :=
  DG G μ d k sc D ∧ (∃ fl : Nat, μ md = some (.inr (4, [.int (nI fl), .ref ab, .ref av, .int (nI sc), .ref c1, .ref c2, .ref c3, .ref c4, .ref c5, .ref c6, .ref c7, .ref c8, .ref c9]))) ∧ (∃ f : Nat → Int64, μ ab = some (.inl (G.2 0, 3744, .inr (.inl f))) ∧ Sym f) ∧ (∃ v : Nat → Int32, μ av = some (.inl (G.2 2, 26, .inl v)) ∧ VB v) ∧
  (∃ i1 i2 i3 i4 i5 i6 : Nat → Int32, (μ c1 = some (.inl (G.2 1, 20, .inl i1)) ∧ μ c2 = some (.inl (G.2 1, 20, .inl i2)) ∧ μ c3 = some (.inl (G.2 1, 20, .inl i3)) ∧ μ c4 = some (.inl (G.2 1, 20, .inl i4)) ∧ μ c5 = some (.inl (G.2 1, 20, .inl i5)) ∧ μ c6 = some (.inl (G.2 1, 20, .inl i6))) ∧ SM i1 i2 i3 i4 i5 i6 sc) ∧ (∃ l7 l8 l9 : Nat → Int64, μ c7 = some (.inl (G.2 0, 6, .inr (.inl l7))) ∧ μ c8 = some (.inl (G.2 0, 6, .inr (.inl l8))) ∧ μ c9 = some (.inl (G.2 0, 6, .inr (.inl l9)))) ∧ (∃ fo : Nat → Int64, μ ou = some (.inl (G.2 0, 1, .inr (.inl fo)))) ∧
  (¬ D md ∧ ¬ D ou ∧ ¬ D ab ∧ ¬ D av ∧ ¬ D c1 ∧ ¬ D c2 ∧ ¬ D c3 ∧ ¬ D c4 ∧ ¬ D c5 ∧ ¬ D c6 ∧ ¬ D c7 ∧ ¬ D c8 ∧ ¬ D c9) ∧ (c1 ≠ c2 ∧ c1 ≠ c3 ∧ c1 ≠ c4 ∧ c1 ≠ c5 ∧ c1 ≠ c6 ∧ c2 ≠ c3 ∧ c2 ≠ c4 ∧ c2 ≠ c5 ∧ c2 ≠ c6 ∧ c3 ≠ c4 ∧ c3 ≠ c5 ∧ c3 ≠ c6 ∧ c4 ≠ c5 ∧ c4 ≠ c6 ∧ c5 ≠ c6 ∧ c7 ≠ c8 ∧ c7 ≠ c9 ∧ c8 ≠ c9)
theorem DG.ext {G : GG} {μ μ2 : mp} {d k sc : Nat} {D : Nat → Prop} (h : DG G μ d k sc D) (hx : ∀ (a : Nat) (e : va_E), μ a = some e → μ2 a = some e) : DG G μ2 d k sc D := by
  obtain ⟨aS, aL, aR, aT, aO, sa, na, la, bE, F, fS, fL, fR, fT, sp, fO, h1, ⟨v1, v2⟩, h3, h4⟩ := h
  refine ⟨aS, aL, aR, aT, aO, sa, na, la, bE, F, fS, fL, fR, fT, sp, fO, h1.ext hx, ⟨fun j hj => ?_, v2⟩, h3, h4⟩
  obtain ⟨p, q, kd, a, b, c, e1, e2, e3, e4⟩ := v1 j hj
  exact ⟨p, q, kd, a, b, c, e1, e2, e3, hx _ _ e4⟩
theorem NM.sym {f : Nat → Int64} {v : Nat → Int32} (h : NM f v) : Sym f := fun s p q hs hp hq => ((h.1 s hs).g hp hq).trans ((h.1 s hs).g hq hp).symm
theorem lp_f {n j : Nat} (hn : n ≤ 3072) (hj : 6 * j ≤ n + 5) (h : ¬ (nI n - nI 6 < nI (6 * j))) : 6 * j + 6 ≤ n := by
  rw [Int32.lt_iff_toInt_lt] at h
  have e1 : (nI n).toInt = n := Int32.toInt_ofNat_of_lt (by omega)
  have e2 : (nI (6 * j)).toInt = (6 * j : Nat) := Int32.toInt_ofNat_of_lt (by omega)
  have e3 : (nI 6).toInt = 6 := by decide
  have e4 : (nI n - nI 6).toInt = n - 6 := by
    rw [Int32.toInt_sub, e1, e3, Int.bmod_eq_of_le (by omega) (by omega)]
  omega
theorem sw5 : ∀ k : Nat, k < 32 → 17 ≤ k → ((nI k).toInt < 0 ∨ 16 < (nI k).toInt) := by decide
