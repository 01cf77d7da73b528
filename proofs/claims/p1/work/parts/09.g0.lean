/-- what is the desk's own -/
def OW (d aO s9 lo : Nat) (sa la sp : Nat → Nat) (a : Nat) : Prop := a = d ∨ a = aO ∨ a = s9 ∨ a = lo ∨ (∃ j, j < 23 ∧ (a = sa j ∨ a = la j)) ∨ ∃ j, j < 20 ∧ a = sp j
theorem OW.d {d aO s9 lo : Nat} {sa la sp : Nat → Nat} : OW d aO s9 lo sa la sp d := Or.inl rfl
theorem OW.s {d aO s9 lo : Nat} {sa la sp : Nat → Nat} : OW d aO s9 lo sa la sp s9 := Or.inr (Or.inr (Or.inl rfl))
theorem OW.l {d aO s9 lo : Nat} {sa la sp : Nat → Nat} : OW d aO s9 lo sa la sp lo := Or.inr (Or.inr (Or.inr (Or.inl rfl)))
theorem OW.sa {d aO s9 lo : Nat} {sa la sp : Nat → Nat} {j : Nat} (hj : j < 23) : OW d aO s9 lo sa la sp (sa j) := Or.inr (Or.inr (Or.inr (Or.inr (Or.inl ⟨j, hj, Or.inl rfl⟩))))
theorem OW.la {d aO s9 lo : Nat} {sa la sp : Nat → Nat} {j : Nat} (hj : j < 23) : OW d aO s9 lo sa la sp (la j) := Or.inr (Or.inr (Or.inr (Or.inr (Or.inl ⟨j, hj, Or.inr rfl⟩))))
theorem OW.sp {d aO s9 lo : Nat} {sa la sp : Nat → Nat} {j : Nat} (hj : j < 20) : OW d aO s9 lo sa la sp (sp j) := Or.inr (Or.inr (Or.inr (Or.inr (Or.inr ⟨j, hj, rfl⟩))))
/-- what a call does to the world: what isn't the desk's own stays -/
def DR (μ μ2 : mp) (O : Nat → Prop) : Prop := ∀ (a : Nat) (e : va_E), μ a = some e → ¬ O a → μ2 a = some e
theorem DR.rf (μ : mp) (O : Nat → Prop) : DR μ μ O := fun _ _ h _ => h
theorem DR.set {μ μ1 : mp} {O : Nat → Prop} {a : Nat} {e : va_E} (h : DR μ μ1 O) (ho : O a) : DR μ (mu μ1 a e) O := fun b x hb hn => (mu_n (fun q => hn (by rw [q]; exact ho))).trans (h b x hb hn)
theorem DK.s0 {G : GG} {μ : mp} {d aS aL aR aT aO bn nn s9 lo sc : Nat} {nf : List Value} {sa la bE : Nat → Nat} {F : Nat → Nat → Int64} {g : Nat → Int64} {w9 : Nat → Int32} {fS fL fR fT : Nat → Option Nat} {sp : Nat → Nat} {fO : Nat → Int64} (h : DK G μ d aS aL aR aT aO bn nn s9 lo sc nf sa la bE F g w9 fS fL fR fT sp fO) (hF : FS F bE g) (j : Nat) (hj : j < 6) : μ (sa j) = some (.inr (4, [.ref bn, .ref nn, .ref (la j), .int (nI 0)])) := by
  have e := (h.2.2.2.2.1.2.1 j (by omega)).1.1
  rw [(hF.1 j hj).1] at e
  exact e
theorem DK.s1 {G : GG} {μ : mp} {d aS aL aR aT aO bn nn s9 lo sc : Nat} {nf : List Value} {sa la bE : Nat → Nat} {F : Nat → Nat → Int64} {g : Nat → Int64} {w9 : Nat → Int32} {fS fL fR fT : Nat → Option Nat} {sp : Nat → Nat} {fO : Nat → Int64} (h : DK G μ d aS aL aR aT aO bn nn s9 lo sc nf sa la bE F g w9 fS fL fR fT sp fO) (hF : FS F bE g) (j : Nat) (h6 : 6 ≤ j) (hj : j < 23) : μ (sa j) = some (.inr (4, [.ref bn, .ref nn, .ref (la j), .int (nI 1)])) := by
  have e := (h.2.2.2.2.1.2.1 j (by omega)).1.1
  rw [(hF.2.1 j h6 hj).1] at e
  exact e
theorem tz_za : Za tz := ix_all (fun x y hx hy => by rw [tz_ix hx hy]; split; exact Or.inr rfl; exact Or.inl rfl)
theorem FS.za {F : Nat → Nat → Int64} {bE : Nat → Nat} {g : Nat → Int64} (h : FS F bE g) (j : Nat) (hj : j < 23) : Za (F j) := by
  by_cases e : j < 6
  · exact tz_za.of (h.1 j e).2
  · exact (h.2.1 j (by omega) hj).2
theorem FS.up {F : Nat → Nat → Int64} {bE : Nat → Nat} {g f9 : Nat → Int64} (h : FS F bE g) {j : Nat} (h6 : 6 ≤ j) (hz : Za f9) : FS (va_up F j f9) (va_up bE j 1) g := by
  refine ⟨fun i hi => ?_, fun i hi h2 => ?_, h.2.2⟩
  · unfold Fr
    rw [va_up_ne _ _ (by omega), va_up_ne _ _ (by omega)]; exact h.1 i hi
  · by_cases e : i = j
    · subst e; rw [va_up_self, va_up_self]; exact ⟨rfl, hz⟩
    · rw [va_up_ne _ _ e, va_up_ne _ _ e]; exact h.2.1 i hi h2
theorem Fr.inf {F : Nat → Nat → Int64} {bE : Nat → Nat} {j p q : Nat} (h : Fr F bE j) (hp : p < 12) (hq : q < 12) (hne : q ≠ ne p) : F j (ix p q) = INF := by
  rw [h.2 _ (ix_lt hp hq), tz_ix hp hq, if_neg hne]
theorem Fr.most {F : Nat → Nat → Int64} {bE : Nat → Nat} {j p q : Nat} (h : Fr F bE j) (hp : p < 12) (hq : q < 12) (hne : ¬ nI p = nI q ^^^ nI 1) : (if p = q then hf (F j (ix p p)) else F j (ix p q)) = INF := by
  split
  · rw [h.inf hp hp (ne_no p)]; rfl
  · refine h.inf hp hq (fun e => hne ?_)
    rw [ne_x q hq, e, ne_ne]
theorem Fr.le {F : Nat → Nat → Int64} {bE : Nat → Nat} {i j : Nat} (h : Fr F bE i) (h2 : Fr F bE j) : ∀ c, c < 78 → ¬ F j c < F i c := by
  intro c hc
  rw [h.2 c hc, h2.2 c hc]; exact fun h9 => Int64.lt_irrefl h9
theorem DK.sh {G : GG} {μ : mp} {d aS aL aR aT aO bn nn s9 lo sc : Nat} {nf : List Value} {sa la bE : Nat → Nat} {F : Nat → Nat → Int64} {g : Nat → Int64} {w9 : Nat → Int32} {fS fL fR fT : Nat → Option Nat} {sp : Nat → Nat} {fO : Nat → Int64} (h : DK G μ d aS aL aR aT aO bn nn s9 lo sc nf sa la bE F g w9 fS fL fR fT sp fO) {j b : Nat} {f9 : Nat → Int64} (hj : j < 23) (hb : b ≤ 1) : DK G (mu (mu μ (sa j) (.inr (4, [.ref bn, .ref nn, .ref (la j), .int (nI b)]))) (la j) (.inl (G.2 0, 78, .inr (.inl f9)))) d aS aL aR aT aO bn nn s9 lo sc nf sa la (va_up bE j b) (va_up F j f9) g w9 fS fL fR fT sp fO := by
  obtain ⟨h1, ⟨a1, a2, a3, a4, a5⟩, b1, b2, ⟨⟨s1, s2, s3, s4⟩, s5, s6⟩, b4⟩ := h
  obtain ⟨⟨j1, j3⟩, jb⟩ := s5 j hj
  have mv : ∀ {a : Nat} {x : va_E}, μ a = some x → a ≠ sa j → a ≠ la j → (mu (mu μ (sa j) (.inr (4, [.ref bn, .ref nn, .ref (la j), .int (nI b)]))) (la j) (.inl (G.2 0, 78, .inr (.inl f9)))) a = some x := fun hx n1 n2 => (mu_n n2).trans ((mu_n n1).trans hx)
  refine ⟨mv h1 (mp_ne h1 j1 (by simp)) (mp_ne h1 j3 (by simp)), ⟨mv a1 (mp_ne a1 j1 (by simp)) (mp_ne a1 j3 (by simp)), mv a2 (mp_ne a2 j1 (by simp)) (mp_ne a2 j3 (by simp)), mv a3 (mp_ne a3 j1 (by simp)) (mp_ne a3 j3 (by simp)), mv a4 (mp_ne a4 j1 (by simp)) (mp_ne a4 j3 (by simp)), a5⟩, mv b1 (mp_ne b1 j1 (by simp)) (mp_ne b1 j3 (by simp)), fun i hi => ?_, ⟨⟨mv s1 (mp_ne s1 j1 (by simp)) (mp_ne s1 j3 (by simp)), mv s2 (mp_ne s2 j1 (by simp)) (mp_ne s2 j3 (by simp)), mv s3 (mp_ne s3 j1 (by simp)) (mp_ne s3 j3 (by simp)), mv s4 (mp_ne s4 j1 (by simp)) (mp_ne s4 j3 (by simp))⟩, fun i hi => ?_, s6⟩, b4⟩
  · obtain ⟨c1, x1, x2, x3, x4, x5, x6, c2⟩ := b2 i hi
    exact ⟨c1, x1, x2, x3, x4, x5, x6, mv c2 (mp_ne c2 j1 (by simp)) (mp_ne c2 j3 (by simp))⟩
  · obtain ⟨⟨i1, i3⟩, ib⟩ := s5 i hi
    by_cases e : i = j
    · subst e
      rw [va_up_self, va_up_self]
      exact ⟨⟨(mu_n (mp_ne j1 j3 (by simp))).trans (mu_s _ _ _), mu_s _ _ _⟩, hb⟩
    · obtain ⟨d1, d3⟩ := s6 i j hi hj e
      rw [va_up_ne _ _ e, va_up_ne _ _ e]
      exact ⟨⟨mv i1 d1 (mp_ne i1 j3 (by simp)), mv i3 (mp_ne i3 j1 (by simp)) d3⟩, ib⟩
def okW (x : Int32) : Prop := ¬ x < 0 ∧ x < nI 64
def okJ (x : Int32) : Prop := ¬ x < 0 ∧ x < nI 8
theorem okN.m6 {c : Int32} (h : okN c) : M6 c := by
  obtain ⟨h1, h2⟩ := h
  rw [Int32.lt_iff_toInt_lt] at h1
  rw [Int32.le_iff_toInt_le] at h2
  have e1 : (-1000000 : Int32).toInt = -1000000 := by decide
  have e2 : (1000000 : Int32).toInt = 1000000 := by decide
  rw [e1] at h1
  rw [e2] at h2
  unfold M6
  omega
theorem nb_1 {b : Nat} (hb : b ≤ 1) (h : ¬ nI b = 0) : b = 1 := by
  rcases (show b = 0 ∨ b = 1 by omega) with rfl | rfl
  · exact absurd rfl h
  · rfl
theorem sm_zz {x y : Int64} (hx : x = INF ∨ x = 0) (hy : y = INF ∨ y = 0) : sm x y = INF ∨ (sm x y = 0 ∧ x = 0 ∧ y = 0) := by
  unfold sm
  rcases hx with hx | hx
  · left; rw [if_pos (Or.inl hx)]
  · rcases hy with hy | hy
    · left; rw [if_pos (Or.inr hy)]
    · right; subst hx; subst hy; exact ⟨rfl, rfl, rfl⟩
