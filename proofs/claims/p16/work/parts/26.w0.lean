/-! The law's wrappers in any state -/
def KXC (G : GG) (B : Nat) (μ : mp) (U : State) : Prop := KX G B μ U ∧ va_Nc exS exA U
def KXCN (G : GG) (B N T : Nat) (μ : mp) (U : State) : Prop := KXN G B N T μ U ∧ va_Nc exS exA U
theorem KXC.blind {G : GG} {B : Nat} {μ : mp} {av : List Value} : FrameBlind (va_Pc av (KXC G B μ)) := by
  intro a U g mk q
  obtain ⟨q0, q1, q2⟩ := q
  exact ⟨q0, (KX.blind (av := av) a U g mk ⟨q0, q1⟩).2, q2.moved (State.WarmedH.refl U).alike⟩
theorem KXCN.blind {G : GG} {B N T : Nat} {μ : mp} {av : List Value} : FrameBlind (va_Pc av (KXCN G B N T μ)) := by
  intro a U g mk q
  obtain ⟨q0, q1, q2⟩ := q
  exact ⟨q0, (KXN.blind (av := av) a U g mk ⟨q0, q1⟩).2, q2.moved (State.WarmedH.refl U).alike⟩
theorem DG.mono {G : GG} {μ : mp} {d k sc : Nat} {D D' : Nat → Prop} (h : DG G μ d k sc D) (hD : ∀ a, D a → D' a) : DG G μ d k sc D' := by
  obtain ⟨aS, aL, aR, aT, aO, sa, na, la, bE, F, fS, fL, fR, fT, sp, fO, h1, h2, h3, h4⟩ := h
  exact ⟨aS, aL, aR, aT, aO, sa, na, la, bE, F, fS, fL, fR, fT, sp, fO, h1, h2, h3, fun a ha => h4 a (fun h => ha (hD a h))⟩
theorem DG.pu {G : GG} {μ : mp} {d k sc ou : Nat} {D : Nat → Prop} {fo : Nat → Int64} {e : va_E} (h : DG G μ d k sc D) (hou : μ ou = some (.inl (G.2 0, 1, .inr (.inl fo)))) (hn : ¬ D ou) : DG G (mu μ ou e) d k sc D := by
  obtain ⟨aS, aL, aR, aT, aO, sa, na, la, bE, F, fS, fL, fR, fT, sp, fO, ⟨h1, ⟨a1, a2, a3, a4, a5⟩, b1, b2, b3, b4⟩, ⟨v1, v2⟩, h3, h4⟩ := h
  obtain ⟨p1, p2, p3, p4⟩ := h4 ou hn
  refine ⟨aS, aL, aR, aT, aO, sa, na, la, bE, F, fS, fL, fR, fT, sp, fO, ⟨(mu_n (Ne.symm p1)).trans h1, ⟨(mu_n (mp_ne a1 hou (by simp))).trans a1, (mu_n (mp_ne a2 hou (by simp))).trans a2, (mu_n (mp_ne a3 hou (by simp))).trans a3, (mu_n (Ne.symm p2)).trans a4, a5⟩, (mu_n (mp_ne b1 hou (by simp))).trans b1, fun j hj => ?_, ⟨fun j hj => ?_, b3.2⟩, b4⟩, ⟨fun j hj => ?_, v2⟩, h3, h4⟩
  · obtain ⟨c1, x1, x2, x3, x4, x5, x6, c2⟩ := b2 j hj
    exact ⟨c1, x1, x2, x3, x4, x5, x6, (mu_n (mp_ne c2 hou (by simp))).trans c2⟩
  · obtain ⟨⟨j1, j2, j3⟩, jb⟩ := b3.1 j hj
    obtain ⟨q1, q2, q3⟩ := p3 j hj
    exact ⟨⟨(mu_n (Ne.symm q1)).trans j1, (mu_n (Ne.symm q2)).trans j2, (mu_n (Ne.symm q3)).trans j3⟩, jb⟩
  · obtain ⟨p, q, kd, a, b, c, e1, e2, e3, e4⟩ := v1 j hj
    exact ⟨p, q, kd, a, b, c, e1, e2, e3, (mu_n (mp_ne e4 hou (by simp))).trans e4⟩
theorem DN2.no {D : Nat → Prop} {μ : mp} {a : Nat} {e : va_E} (h : μ a = some e) (hn : ¬ D a) : ¬ DN2 D μ a := by
  rintro (h1 | h1)
  · exact hn h1
  · rw [h] at h1; cases h1
/-- what a wrapper leaves: the desk, and all else but out -/
def WF (D : Nat → Prop) (ou : Nat) (μ μ2 : mp) : Prop := (∀ (a : Nat) (e : va_E), μ a = some e → a ≠ ou → ¬ D a → μ2 a = some e) ∧ ∀ a, μ2 a = none → μ a = none
theorem FD.wf {D : Nat → Prop} {ou : Nat} {μ μ2 : mp} {e : va_E} (h : FD D μ μ2) : WF D ou μ (mu μ2 ou e) := ⟨fun a e h1 h2 h3 => (mu_n h2).trans (h.1 a e h1 h3), fun a ha => h.2 a (mu_none ha).2⟩
theorem WF.rf (D : Nat → Prop) (ou : Nat) (μ : mp) : WF D ou μ μ := ⟨fun a e h1 _ _ => h1, fun _ h => h⟩
theorem FD.rf (D : Nat → Prop) (μ : mp) : FD D μ μ := ⟨fun a e h1 _ => h1, fun _ h => h⟩
theorem DG.dd {G : GG} {μ : mp} {d k sc : Nat} {D : Nat → Prop} (h : DG G μ d k sc D) : ∃ fs, μ d = some (.inr (3, fs)) := by
  obtain ⟨aS, aL, aR, aT, aO, sa, na, la, bE, F, fS, fL, fR, fT, sp, fO, h1, -⟩ := h
  exact ⟨_, h1.1⟩
theorem DG.kl {G : GG} {μ : mp} {d k sc : Nat} {D : Nat → Prop} (h : DG G μ d k sc D) : k ≤ 511 := by
  obtain ⟨aS, aL, aR, aT, aO, sa, na, la, bE, F, fS, fL, fR, fT, sp, fO, -, -, h1, -⟩ := h
  exact h1.le
