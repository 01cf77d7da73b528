/-- a cell that is none of the desk's own -/
def Apt (d aO : Nat) (sa na la sp : Nat → Nat) (a : Nat) : Prop := a ≠ d ∧ a ≠ aO ∧ (∀ j, j < 23 → a ≠ sa j ∧ a ≠ na j ∧ a ≠ la j) ∧ ∀ j, j < 20 → a ≠ sp j
theorem DR.at {μ μ2 : mp} {d aO : Nat} {sa na la la2 sp : Nat → Nat} (h : DR μ μ2 d aO sa na la la2 sp) {a : Nat} {e : va_E} (h1 : μ a = some e) (h2 : Apt d aO sa na la sp a) : μ2 a = some e := h.2.2 a e h1 h2.1 h2.2.1 h2.2.2.1 h2.2.2.2
/-- the steps that stand say an action each; no two are one cell -/
def SV (μ : mp) (sp : Nat → Nat) (n : Nat) : Prop := ∀ j, j < n → ∃ (p q : Nat) (kd a b c : Int32), p < 8 ∧ q < 8 ∧ okA kd a b c ∧ μ (sp j) = some (.inr (2, [.int (nI p), .int (nI q), .int kd, .int a, .int b, .int c]))
def SJ (sp : Nat → Nat) : Prop := ∀ i j, i < 20 → j < 20 → i ≠ j → sp i ≠ sp j
def DG (G : GG) (μ : mp) (d k sc : Nat) (D : Nat → Prop) : Prop := ∃ (aS aL aR aT aO : Nat) (sa na la bE : Nat → Nat) (F : Nat → Nat → Int64) (fS fL fR fT : Nat → Option Nat) (sp : Nat → Nat) (fO : Nat → Int64), DK G μ d aS aL aR aT aO k sc sa na la bE F fS fL fR fT sp fO ∧ (SV μ sp sc ∧ SJ sp) ∧ kw k ∧ ∀ a, ¬ D a → Apt d aO sa na la sp a
def FD (D : Nat → Prop) (μ μ2 : mp) : Prop := (∀ (a : Nat) (e : va_E), μ a = some e → ¬ D a → μ2 a = some e) ∧ ∀ a, μ2 a = none → μ a = none
abbrev DN2 (D : Nat → Prop) (μ : mp) : Nat → Prop := fun a => D a ∨ μ a = none
theorem SV.mv {G : GG} {μ μ2 : mp} {d aS aL aR aT aO k sc n : Nat} {sa na la la2 bE : Nat → Nat} {F : Nat → Nat → Int64} {fS fL fR fT : Nat → Option Nat} {sp : Nat → Nat} {fO : Nat → Int64} (h : SV μ sp n) (hD : DK G μ d aS aL aR aT aO k sc sa na la bE F fS fL fR fT sp fO) (hR : DQ μ μ2 d aO sa na la la2) : SV μ2 sp n := by
  intro j hj
  obtain ⟨p, q, kd, a, b, c, h1, h2, h3, h4⟩ := h j hj
  refine ⟨p, q, kd, a, b, c, h1, h2, h3, hR.2.2 _ _ h4 (mp_ne h4 hD.1 (by simp)) (mp_ne h4 hD.2.1.2.2.2.1 (by simp)) (fun i hi => ?_)⟩
  obtain ⟨⟨i1, i2, i3⟩, -⟩ := hD.2.2.2.2.1.1 i hi
  exact ⟨mp_ne h4 i1 (by simp), mp_ne h4 i2 (by simp), mp_ne h4 i3 (by simp)⟩
theorem DG.fin {G : GG} {μ μ2 : mp} {d aS aL aR aT aO k k2 sc : Nat} {sa na la la2 bE bE2 : Nat → Nat} {F F2 : Nat → Nat → Int64} {fS fL fR fT : Nat → Option Nat} {sp : Nat → Nat} {fO fO2 : Nat → Int64} {D : Nat → Prop} (hA : ∀ a, ¬ D a → Apt d aO sa na la sp a) (hv : SV μ sp sc ∧ SJ sp) (hD : DK G μ d aS aL aR aT aO k sc sa na la bE F fS fL fR fT sp fO) (hD2 : DK G μ2 d aS aL aR aT aO k2 sc sa na la2 bE2 F2 fS fL fR fT sp fO2) (hR : DQ μ μ2 d aO sa na la la2) (hkw : kw k2) : DG G μ2 d k2 sc (DN2 D μ) ∧ FD D μ μ2 := by
  refine ⟨⟨aS, aL, aR, aT, aO, sa, na, la2, bE2, F2, fS, fL, fR, fT, sp, fO2, hD2, ⟨hv.1.mv hD hR, hv.2⟩, hkw, fun a ha => ?_⟩, fun a e ha hd => ?_, hR.1⟩
  · obtain ⟨h1, h2, h3, h4⟩ := hA a (fun h => ha (Or.inl h))
    refine ⟨h1, h2, fun j hj => ⟨(h3 j hj).1, (h3 j hj).2.1, ?_⟩, h4⟩
    rcases hR.2.1 j hj with e | e
    · rw [e]; exact (h3 j hj).2.2
    · intro h; subst h; exact ha (Or.inr e)
  · obtain ⟨h1, h2, h3, h4⟩ := hA a hd
    exact hR.2.2 a e ha h1 h2 h3
theorem DQ.spc {G : GG} {μ μ2 : mp} {d aS aL aR aT aO k sc : Nat} {sa na la la2 bE : Nat → Nat} {F : Nat → Nat → Int64} {fS fL fR fT : Nat → Option Nat} {sp : Nat → Nat} {fO : Nat → Int64} (hR : DQ μ μ2 d aO sa na la la2) (hD : DK G μ d aS aL aR aT aO k sc sa na la bE F fS fL fR fT sp fO) {x : Nat} {fs : List Value} (h : μ x = some (.inr (2, fs))) : μ2 x = some (.inr (2, fs)) := by
  refine hR.2.2 _ _ h (mp_ne h hD.1 (by simp)) (mp_ne h hD.2.1.2.2.2.1 (by simp)) (fun i hi => ?_)
  obtain ⟨⟨i1, i2, i3⟩, -⟩ := hD.2.2.2.2.1.1 i hi
  exact ⟨mp_ne h i1 (by simp), mp_ne h i2 (by simp), mp_ne h i3 (by simp)⟩
/-- left and reached change places -/
def pi8 (j : Nat) : Nat := if j < 6 then j else if j < 14 then j + 8 else if j < 22 then j - 8 else j
theorem pi8_lt {j : Nat} (h : j < 23) : pi8 j < 23 := by unfold pi8; split <;> (try split) <;> (try split) <;> omega
theorem pi8_ne {i j : Nat} (hi : i < 23) (hj : j < 23) (h : i ≠ j) : pi8 i ≠ pi8 j := by unfold pi8; split <;> split <;> (try split) <;> (try split) <;> (try split) <;> (try split) <;> omega
theorem DK.dd {G : GG} {μ : mp} {d aS aL aR aT aO k sc n : Nat} {sa na la bE : Nat → Nat} {F : Nat → Nat → Int64} {fS fL fR fT : Nat → Option Nat} {sp : Nat → Nat} {fO : Nat → Int64} (h : DK G μ d aS aL aR aT aO k sc sa na la bE F fS fL fR fT sp fO) (hn : n ≤ 20) : DK G (mu μ d (.inr (3, [.ref aS, .ref (sa 22), .ref aT, .ref aO, .int (nI n), .ref aL, .ref aR]))) d aS aL aR aT aO k n sa na la bE F fS fL fR fT sp fO := by
  obtain ⟨h1, ⟨a1, a2, a3, a4, a5⟩, b1, b2, b3, b4⟩ := h
  refine ⟨mu_s _ _ _, ⟨(mu_n (mp_ne a1 h1 (by simp))).trans a1, (mu_n (mp_ne a2 h1 (by simp))).trans a2, (mu_n (mp_ne a3 h1 (by simp))).trans a3, (mu_n (mp_ne a4 h1 (by simp))).trans a4, a5⟩, (mu_n (mp_ne b1 h1 (by simp))).trans b1, fun j hj => ?_, ⟨fun j hj => ?_, b3.2⟩, hn⟩
  · obtain ⟨c1, x1, x2, x3, x4, x5, x6, c2⟩ := b2 j hj
    exact ⟨c1, x1, x2, x3, x4, x5, x6, (mu_n (mp_ne c2 h1 (by simp))).trans c2⟩
  · obtain ⟨⟨j1, j2, j3⟩, jb⟩ := b3.1 j hj
    exact ⟨⟨(mu_n (mp_ne j1 h1 (by simp))).trans j1, (mu_n (mp_ne j2 h1 (by simp))).trans j2, (mu_n (mp_ne j3 h1 (by simp))).trans j3⟩, jb⟩
theorem DK.swap {G : GG} {μ : mp} {d aS aL aR aT aO k sc : Nat} {sa na la bE : Nat → Nat} {F : Nat → Nat → Int64} {fS fL fR fT : Nat → Option Nat} {sp : Nat → Nat} {fO : Nat → Int64} (h : DK G μ d aS aL aR aT aO k sc sa na la bE F fS fL fR fT sp fO) : DK G (mu μ d (.inr (3, [.ref aS, .ref (sa 22), .ref aT, .ref aO, .int (nI sc), .ref aR, .ref aL]))) d aS aR aL aT aO k sc (fun j => sa (pi8 j)) (fun j => na (pi8 j)) (fun j => la (pi8 j)) (fun j => bE (pi8 j)) (fun j => F (pi8 j)) fS fR fL fT sp fO := by
  obtain ⟨h1, ⟨a1, a2, a3, a4, a5, a6, a7⟩, b1, b2, b3, b4⟩ := h
  refine ⟨mu_s _ _ _, ⟨(mu_n (mp_ne a1 h1 (by simp))).trans a1, (mu_n (mp_ne a3 h1 (by simp))).trans a3, (mu_n (mp_ne a2 h1 (by simp))).trans a2, (mu_n (mp_ne a4 h1 (by simp))).trans a4, fun j hj => ?_, fun j hj => ?_, fun j hj => ?_⟩, (mu_n (mp_ne b1 h1 (by simp))).trans b1, fun j hj => ?_, ⟨fun j hj => ?_, fun i j hi hj hne => b3.2 _ _ (pi8_lt hi) (pi8_lt hj) (pi8_ne hi hj hne)⟩, b4⟩
  · rw [a5 j hj]; show some (sa j) = some (sa (pi8 j)); rw [pi8, if_pos hj]
  · rw [a7 j hj]; show some (sa (14 + j)) = some (sa (pi8 (6 + j))); rw [pi8, if_neg (by omega), if_pos (by omega)]; congr 2; omega
  · rw [a6 j hj]; show some (sa (6 + j)) = some (sa (pi8 (14 + j))); rw [pi8, if_neg (by omega), if_neg (by omega), if_pos (by omega)]; congr 2; omega
  · obtain ⟨c1, x1, x2, x3, x4, x5, x6, c2⟩ := b2 j hj
    exact ⟨c1, x1, x2, x3, x4, x5, x6, (mu_n (mp_ne c2 h1 (by simp))).trans c2⟩
  · obtain ⟨⟨j1, j2, j3⟩, jb⟩ := b3.1 (pi8 j) (pi8_lt hj)
    exact ⟨⟨(mu_n (mp_ne j1 h1 (by simp))).trans j1, (mu_n (mp_ne j2 h1 (by simp))).trans j2, (mu_n (mp_ne j3 h1 (by simp))).trans j3⟩, jb⟩
theorem DG.swap {G : GG} {μ μ1 : mp} {d aS aL aR aT aO k k2 sc : Nat} {sa na la la2 bE bE2 : Nat → Nat} {F F2 : Nat → Nat → Int64} {fS fL fR fT : Nat → Option Nat} {sp : Nat → Nat} {fO fO2 : Nat → Int64} {D : Nat → Prop} (hA : ∀ a, ¬ D a → Apt d aO sa na la sp a) (hv : SV μ sp sc ∧ SJ sp) (hD : DK G μ d aS aL aR aT aO k sc sa na la bE F fS fL fR fT sp fO) (hD2 : DK G μ1 d aS aL aR aT aO k2 sc sa na la2 bE2 F2 fS fL fR fT sp fO2) (hR : DQ μ μ1 d aO sa na la la2) (hkw : kw k2) : DG G (mu μ1 d (.inr (3, [.ref aS, .ref (sa 22), .ref aT, .ref aO, .int (nI sc), .ref aR, .ref aL]))) d k2 sc (DN2 D μ) ∧ FD D μ (mu μ1 d (.inr (3, [.ref aS, .ref (sa 22), .ref aT, .ref aO, .int (nI sc), .ref aR, .ref aL]))) := by
  have hR2 : DQ μ (mu μ1 d (.inr (3, [.ref aS, .ref (sa 22), .ref aT, .ref aO, .int (nI sc), .ref aR, .ref aL]))) d aO sa na la la2 := hR.tr DQ.dd
  refine ⟨⟨aS, aR, aL, aT, aO, _, _, _, _, _, fS, fR, fL, fT, sp, fO2, hD2.swap, ⟨hv.1.mv hD hR2, hv.2⟩, hkw, fun a ha => ?_⟩, fun a e ha hd => ?_, hR2.1⟩
  · obtain ⟨h1, h2, h3, h4⟩ := hA a (fun h => ha (Or.inl h))
    refine ⟨h1, h2, fun j hj => ⟨(h3 _ (pi8_lt hj)).1, (h3 _ (pi8_lt hj)).2.1, ?_⟩, h4⟩
    show a ≠ la2 (pi8 j)
    rcases hR.2.1 _ (pi8_lt hj) with e | e
    · rw [e]; exact (h3 _ (pi8_lt hj)).2.2
    · intro h; subst h; exact ha (Or.inr e)
  · obtain ⟨h1, h2, h3, h4⟩ := hA a hd
    exact hR2.2.2 a e ha h1 h2 h3
theorem DG.erase {G : GG} {μ : mp} {d aS aL aR aT aO k sc : Nat} {sa na la bE : Nat → Nat} {F : Nat → Nat → Int64} {fS fL fR fT : Nat → Option Nat} {sp : Nat → Nat} {fO : Nat → Int64} {D : Nat → Prop} (hA : ∀ a, ¬ D a → Apt d aO sa na la sp a) (hv : SV μ sp sc ∧ SJ sp) (hD : DK G μ d aS aL aR aT aO k sc sa na la bE F fS fL fR fT sp fO) (hkw : kw k) : DG G (mu μ d (.inr (3, [.ref aS, .ref (sa 22), .ref aT, .ref aO, .int (nI 0), .ref aL, .ref aR]))) d k 0 (DN2 D μ) ∧ FD D μ (mu μ d (.inr (3, [.ref aS, .ref (sa 22), .ref aT, .ref aO, .int (nI 0), .ref aL, .ref aR]))) := by
  refine ⟨⟨aS, aL, aR, aT, aO, sa, na, la, bE, F, fS, fL, fR, fT, sp, fO, hD.dd (by omega), ⟨fun j hj => absurd hj (Nat.not_lt_zero _), hv.2⟩, hkw, fun a ha => hA a (fun h => ha (Or.inl h))⟩, fun a e ha hd => (mu_n (hA a hd).1).trans ha, fun a ha => (mu_none ha).2⟩
theorem DG.step {G : GG} {μ : mp} {d aS aL aR aT aO k sc : Nat} {sa na la bE : Nat → Nat} {F : Nat → Nat → Int64} {fS fL fR fT : Nat → Option Nat} {sp : Nat → Nat} {fO : Nat → Int64} {D : Nat → Prop} (hA : ∀ a, ¬ D a → Apt d aO sa na la sp a) (hv : SV μ sp sc ∧ SJ sp) (hD : DK G μ d aS aL aR aT aO k sc sa na la bE F fS fL fR fT sp fO) (hkw : kw k) (hs : sc < 20) {p q : Nat} {kd a b c : Int32} (hp : p < 8) (hq : q < 8) (ho : okA kd a b c) : DG G (mu (mu μ (sp sc) (.inr (2, [.int (nI p), .int (nI q), .int kd, .int a, .int b, .int c]))) d (.inr (3, [.ref aS, .ref (sa 22), .ref aT, .ref aO, .int (nI (sc + 1)), .ref aL, .ref aR]))) d k (sc + 1) (DN2 D μ) ∧ FD D μ (mu (mu μ (sp sc) (.inr (2, [.int (nI p), .int (nI q), .int kd, .int a, .int b, .int c]))) d (.inr (3, [.ref aS, .ref (sa 22), .ref aT, .ref aO, .int (nI (sc + 1)), .ref aL, .ref aR]))) := by
  have hD1 : DK G (mu μ (sp sc) (.inr (2, [.int (nI p), .int (nI q), .int kd, .int a, .int b, .int c]))) d aS aL aR aT aO k sc sa na la bE F fS fL fR fT sp fO := by
    obtain ⟨h1, ⟨a1, a2, a3, a4, a5⟩, b1, b2, b3, b4⟩ := hD
    obtain ⟨-, y1, y2, y3, y4, y5, y6, hy⟩ := b2 sc hs
    refine ⟨(mu_n (mp_ne h1 hy (by simp))).trans h1, ⟨(mu_n (mp_ne a1 hy (by simp))).trans a1, (mu_n (mp_ne a2 hy (by simp))).trans a2, (mu_n (mp_ne a3 hy (by simp))).trans a3, (mu_n (mp_ne a4 hy (by simp))).trans a4, a5⟩, (mu_n (mp_ne b1 hy (by simp))).trans b1, fun j hj => ?_, ⟨fun j hj => ?_, b3.2⟩, b4⟩
    · obtain ⟨c1, x1, x2, x3, x4, x5, x6, c2⟩ := b2 j hj
      by_cases e : sp j = sp sc
      · exact ⟨c1, nI p, nI q, kd, a, b, c, by rw [e]; exact mu_s _ _ _⟩
      · exact ⟨c1, x1, x2, x3, x4, x5, x6, (mu_n e).trans c2⟩
    · obtain ⟨⟨j1, j2, j3⟩, jb⟩ := b3.1 j hj
      exact ⟨⟨(mu_n (mp_ne j1 hy (by simp))).trans j1, (mu_n (mp_ne j2 hy (by simp))).trans j2, (mu_n (mp_ne j3 hy (by simp))).trans j3⟩, jb⟩
  obtain ⟨-, y1, y2, y3, y4, y5, y6, hy⟩ := hD.2.2.2.1 sc hs
  refine ⟨⟨aS, aL, aR, aT, aO, sa, na, la, bE, F, fS, fL, fR, fT, sp, fO, hD1.dd (by omega), ⟨fun j hj => ?_, hv.2⟩, hkw, fun x hx => hA x (fun h => hx (Or.inl h))⟩, fun x e hx hd => (mu_n (hA x hd).1).trans ((mu_n ((hA x hd).2.2.2 sc hs)).trans hx), fun x hx => (mu_none (mu_none hx).2).2⟩
  by_cases e : j = sc
  · subst e
    exact ⟨p, q, kd, a, b, c, hp, hq, ho, (mu_n (mp_ne hy hD.1 (by simp))).trans (mu_s _ _ _)⟩
  · obtain ⟨p', q', kd', a', b', c', e1, e2, e3, e4⟩ := hv.1 j (by omega)
    exact ⟨p', q', kd', a', b', c', e1, e2, e3, (mu_n (mp_ne e4 hD.1 (by simp))).trans ((mu_n (hv.2 _ _ (by omega) hs e)).trans e4)⟩
