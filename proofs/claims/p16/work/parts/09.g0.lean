/-- growth: what is neither numbers nor limbs of a shape stays; a new limb array was no cell before -/
def GR (μ μ2 : mp) (na la la2 : Nat → Nat) : Prop := (∀ a, μ2 a = none → μ a = none) ∧ (∀ j, j < 23 → la2 j = la j ∨ μ (la2 j) = none) ∧ ∀ (a : Nat) (e : va_E), μ a = some e → (∀ j, j < 23 → a ≠ na j ∧ a ≠ la j) → μ2 a = some e
theorem GR.rf (μ : mp) (na la : Nat → Nat) : GR μ μ na la la := ⟨fun _ h => h, fun _ _ => Or.inl rfl, fun _ _ h _ => h⟩
theorem GR.tr {μ μ1 μ2 : mp} {na la la1 la2 : Nat → Nat} (h : GR μ μ1 na la la1) (h2 : GR μ1 μ2 na la1 la2) : GR μ μ2 na la la2 := by
  refine ⟨fun a ha => h.1 a (h2.1 a ha), fun j hj => ?_, fun a e ha hn => ?_⟩
  · rcases h2.2.1 j hj with e | e
    · rw [e]; exact h.2.1 j hj
    · exact Or.inr (h.1 _ e)
  · refine h2.2.2 a e (h.2.2 a e ha hn) (fun j hj => ⟨(hn j hj).1, ?_⟩)
    rcases h.2.1 j hj with e1 | e1
    · rw [e1]; exact (hn j hj).2
    · exact mp_nn ha e1
theorem GR.one {μ : mp} {na la : Nat → Nat} {j l9 : Nat} {e1 e2 : va_E} (hj : j < 23) (hl : l9 = la j ∨ μ l9 = none) : GR μ (mu (mu μ (na j) e1) l9 e2) na la (va_up la j l9) := by
  refine ⟨fun a ha => (mu_none (mu_none ha).2).2, fun i hi => ?_, fun a e ha hn => ?_⟩
  · by_cases e : i = j
    · subst e; rw [va_up_self]; exact hl
    · rw [va_up_ne _ _ e]; exact Or.inl rfl
  · have h3 : a ≠ l9 := by
      rcases hl with e | e
      · subst e; exact (hn j hj).2
      · exact mp_nn ha e
    exact (mu_n h3).trans ((mu_n (hn j hj).1).trans ha)
theorem SHS.arr {G : GG} {μ : mp} {sa na la bE kf : Nat → Nat} {F : Nat → Nat → Int64} (h : SHS G μ sa na la bE kf F) {a : Nat} {x : va_E} (ha : μ a = some x) (h1 : ∀ fs, x ≠ .inr (0, fs)) (h2 : ∀ k f, x ≠ .inl (G.2 0, 158 * k + 158, .inr (.inl f))) : ∀ j, j < 23 → a ≠ na j ∧ a ≠ la j := by
  intro j hj
  obtain ⟨⟨-, a2, a3⟩, -⟩ := h.1 j hj
  exact ⟨mp_ne ha a2 (h1 _), mp_ne ha a3 (h2 _ _)⟩
theorem SHS.cong {G : GG} {μ : mp} {sa na la bE kf kf2 : Nat → Nat} {F : Nat → Nat → Int64} (h : SHS G μ sa na la bE kf F) (e : ∀ j, j < 23 → kf j = kf2 j) : SHS G μ sa na la bE kf2 F :=
  ⟨fun j hj => by rw [← e j hj]; exact h.1 j hj, h.2⟩
theorem ga_s {o i k : Nat} {kf kf1 : Nat → Nat} (h : ∀ j, j < 23 → (o ≤ j ∧ j < o + i → kf1 j = gr 0) ∧ (¬ (o ≤ j ∧ j < o + i) → kf1 j = kf j)) (hk : kf (o + i) = 0) (e : k = gr (kf1 (o + i))) (hi : o + i < 23) : ∀ j, j < 23 → (o ≤ j ∧ j < o + (i + 1) → va_up kf1 (o + i) k j = gr 0) ∧ (¬ (o ≤ j ∧ j < o + (i + 1)) → va_up kf1 (o + i) k j = kf j) := by
  intro j hj
  by_cases e1 : j = o + i
  · subst e1
    rw [va_up_self, e, (h _ hj).2 (by omega), hk]
    exact ⟨fun _ => rfl, fun h9 => absurd h9 (by omega)⟩
  · rw [va_up_ne _ _ e1]
    exact ⟨fun h9 => (h j hj).1 (by omega), fun h9 => (h j hj).2 (by omega)⟩
/-- what a call does to the world: what isn't the desk's stays; a new limb array was no cell before -/
def DR (μ μ2 : mp) (d aO : Nat) (sa na la la2 sp : Nat → Nat) : Prop := (∀ a, μ2 a = none → μ a = none) ∧ (∀ j, j < 23 → la2 j = la j ∨ μ (la2 j) = none) ∧ ∀ (a : Nat) (e : va_E), μ a = some e → a ≠ d → a ≠ aO → (∀ j, j < 23 → a ≠ sa j ∧ a ≠ na j ∧ a ≠ la j) → (∀ j, j < 20 → a ≠ sp j) → μ2 a = some e
theorem DR.rf (μ : mp) (d aO : Nat) (sa na la sp : Nat → Nat) : DR μ μ d aO sa na la la sp := ⟨fun _ h => h, fun _ _ => Or.inl rfl, fun _ _ h _ _ _ _ => h⟩
theorem DR.tr {μ μ1 μ2 : mp} {d aO : Nat} {sa na la la1 la2 sp : Nat → Nat} (h : DR μ μ1 d aO sa na la la1 sp) (h2 : DR μ1 μ2 d aO sa na la1 la2 sp) : DR μ μ2 d aO sa na la la2 sp := by
  refine ⟨fun a ha => h.1 a (h2.1 a ha), fun j hj => ?_, fun a e ha h3 h4 h5 h6 => ?_⟩
  · rcases h2.2.1 j hj with e | e
    · rw [e]; exact h.2.1 j hj
    · exact Or.inr (h.1 _ e)
  · refine h2.2.2 a e (h.2.2 a e ha h3 h4 h5 h6) h3 h4 (fun j hj => ⟨(h5 j hj).1, (h5 j hj).2.1, ?_⟩) h6
    rcases h.2.1 j hj with e1 | e1
    · rw [e1]; exact (h5 j hj).2.2
    · exact mp_nn ha e1
theorem GR.dr {μ μ2 : mp} {na la la2 : Nat → Nat} (h : GR μ μ2 na la la2) (d aO : Nat) (sa sp : Nat → Nat) : DR μ μ2 d aO sa na la la2 sp := ⟨h.1, h.2.1, fun a e ha _ _ h5 _ => h.2.2 a e ha (fun j hj => (h5 j hj).2)⟩
theorem DR.sh {μ : mp} {d aO j : Nat} {sa na la sp : Nat → Nat} {e1 e2 : va_E} (hj : j < 23) : DR μ (mu (mu μ (sa j) e1) (la j) e2) d aO sa na la la sp :=
  ⟨fun a ha => (mu_none (mu_none ha).2).2, fun _ _ => Or.inl rfl, fun a e ha _ _ h5 _ => (mu_n (h5 j hj).2.2).trans ((mu_n (h5 j hj).1).trans ha)⟩
theorem DR.sh2 {μ : mp} {d aO j : Nat} {sa na la sp : Nat → Nat} {e1 e2 : va_E} (hj : j < 23) : DR μ (mu (mu μ (la j) e1) (sa j) e2) d aO sa na la la sp :=
  ⟨fun a ha => (mu_none (mu_none ha).2).2, fun _ _ => Or.inl rfl, fun a e ha _ _ h5 _ => (mu_n (h5 j hj).1).trans ((mu_n (h5 j hj).2.2).trans ha)⟩
theorem DR.la {μ : mp} {d aO j : Nat} {sa na la sp : Nat → Nat} {e1 : va_E} (hj : j < 23) : DR μ (mu μ (la j) e1) d aO sa na la la sp :=
  ⟨fun a ha => (mu_none ha).2, fun _ _ => Or.inl rfl, fun a e ha _ _ h5 _ => (mu_n (h5 j hj).2.2).trans ha⟩
theorem DR.dd {μ : mp} {d aO : Nat} {sa na la sp : Nat → Nat} {e1 : va_E} : DR μ (mu μ d e1) d aO sa na la la sp :=
  ⟨fun a ha => (mu_none ha).2, fun _ _ => Or.inl rfl, fun a e ha h3 _ _ _ => (mu_n h3).trans ha⟩
theorem DR.sp {μ : mp} {d aO j : Nat} {sa na la sp : Nat → Nat} {e1 : va_E} (hj : j < 20) : DR μ (mu μ (sp j) e1) d aO sa na la la sp :=
  ⟨fun a ha => (mu_none ha).2, fun _ _ => Or.inl rfl, fun a e ha _ _ _ h6 => (mu_n (h6 j hj)).trans ha⟩
theorem SHS.sh {G : GG} {μ : mp} {sa na la bE : Nat → Nat} {k : Nat} {F : Nat → Nat → Int64} (h : SHS G μ sa na la bE (fun _ => k) F) {j b : Nat} {g : Nat → Int64} (hj : j < 23) (hb : b ≤ 1) : SHS G (mu (mu μ (sa j) (.inr (1, [.ref (na j), .int (nI b)]))) (la j) (.inl (G.2 0, 158 * k + 158, .inr (.inl g)))) sa na la (va_up bE j b) (fun _ => k) (va_up F j g) := by
  obtain ⟨⟨j1, j2, j3⟩, jb, jk⟩ := h.1 j hj
  refine ⟨fun i hi => ?_, h.2⟩
  obtain ⟨⟨i1, i2, i3⟩, ib, ik⟩ := h.1 i hi
  by_cases e : i = j
  · subst e
    rw [va_up_self, va_up_self]
    exact ⟨⟨(mu_n (mp_ne j1 j3 (by simp))).trans (mu_s _ _ _), (mu_n (mp_ne j2 j3 (by simp))).trans ((mu_n (mp_ne j2 j1 (by simp))).trans j2), mu_s _ _ _⟩, hb, jk⟩
  · obtain ⟨d1, d2, d3⟩ := h.2 i j hi hj e
    rw [va_up_ne _ _ e, va_up_ne _ _ e]
    exact ⟨⟨(mu_n (mp_ne i1 j3 (by simp))).trans ((mu_n d1).trans i1), (mu_n (mp_ne i2 j3 (by simp))).trans ((mu_n (mp_ne i2 j1 (by simp))).trans i2), (mu_n d3).trans ((mu_n (mp_ne i3 j1 (by simp))).trans i3)⟩, ib, ik⟩
theorem J6 (k : Nat) : 6 ≠ 158 * k + 158 := by omega
/-- the rest of a desk stays where only numbers and limbs are written -/
theorem DK.gr {G : GG} {μ μ2 : mp} {d aS aL aR aT aO k k2 sc : Nat} {sa na la la2 bE : Nat → Nat} {F F2 : Nat → Nat → Int64} {fS fL fR fT : Nat → Option Nat} {sp : Nat → Nat} {fO : Nat → Int64} (h : DK G μ d aS aL aR aT aO k sc sa na la bE F fS fL fR fT sp fO) (hg : GR μ μ2 na la la2) (h2 : SHS G μ2 sa na la2 bE (fun _ => k2) F2) : DK G μ2 d aS aL aR aT aO k2 sc sa na la2 bE F2 fS fL fR fT sp fO := by
  obtain ⟨h1, ⟨a1, a2, a3, a4, a5⟩, b1, b2, b3, b4⟩ := h
  refine ⟨hg.2.2 _ _ h1 (b3.arr h1 (by simp) (by simp)), ⟨hg.2.2 _ _ a1 (b3.arr a1 (by simp) (by simp)), hg.2.2 _ _ a2 (b3.arr a2 (by simp) (by simp)), hg.2.2 _ _ a3 (b3.arr a3 (by simp) (by simp)), hg.2.2 _ _ a4 (b3.arr a4 (by simp) (by intro k f h; injection h with h; injection h with h1 h2; injection h2 with h2 h3; exact J6 k h2)), a5⟩, hg.2.2 _ _ b1 (b3.arr b1 (by simp) (by simp)), fun j hj => ?_, h2, b4⟩
  obtain ⟨c1, x1, x2, x3, x4, x5, x6, c2⟩ := b2 j hj
  exact ⟨c1, x1, x2, x3, x4, x5, x6, hg.2.2 _ _ c2 (b3.arr c2 (by simp) (by simp))⟩
/-- and where one shape is written -/
theorem DK.sh {G : GG} {μ : mp} {d aS aL aR aT aO k sc : Nat} {sa na la bE : Nat → Nat} {F : Nat → Nat → Int64} {fS fL fR fT : Nat → Option Nat} {sp : Nat → Nat} {fO : Nat → Int64} (h : DK G μ d aS aL aR aT aO k sc sa na la bE F fS fL fR fT sp fO) {j b : Nat} {g : Nat → Int64} (hj : j < 23) (hb : b ≤ 1) : DK G (mu (mu μ (sa j) (.inr (1, [.ref (na j), .int (nI b)]))) (la j) (.inl (G.2 0, 158 * k + 158, .inr (.inl g)))) d aS aL aR aT aO k sc sa na la (va_up bE j b) (va_up F j g) fS fL fR fT sp fO := by
  obtain ⟨h1, ⟨a1, a2, a3, a4, a5⟩, b1, b2, b3, b4⟩ := h
  obtain ⟨⟨j1, j2, j3⟩, jb, jk⟩ := b3.1 j hj
  refine ⟨(mu_n (mp_ne h1 j3 (by simp))).trans ((mu_n (mp_ne h1 j1 (by simp))).trans h1), ⟨(mu_n (mp_ne a1 j3 (by simp))).trans ((mu_n (mp_ne a1 j1 (by simp))).trans a1), (mu_n (mp_ne a2 j3 (by simp))).trans ((mu_n (mp_ne a2 j1 (by simp))).trans a2), (mu_n (mp_ne a3 j3 (by simp))).trans ((mu_n (mp_ne a3 j1 (by simp))).trans a3), (mu_n (mp_ne a4 j3 (by intro h; injection h with h; injection h with h1 h2; injection h2 with h2 h3; exact J6 k h2))).trans ((mu_n (mp_ne a4 j1 (by simp))).trans a4), a5⟩, (mu_n (mp_ne b1 j3 (by simp))).trans ((mu_n (mp_ne b1 j1 (by simp))).trans b1), fun i hi => ?_, b3.sh hj hb, b4⟩
  obtain ⟨c1, x1, x2, x3, x4, x5, x6, c2⟩ := b2 i hi
  exact ⟨c1, x1, x2, x3, x4, x5, x6, (mu_n (mp_ne c2 j3 (by simp))).trans ((mu_n (mp_ne c2 j1 (by simp))).trans c2)⟩
theorem mr_k {kf k1 k2 k3 : Nat → Nat} {x : Nat} (h0 : ∀ j, j < 23 → kf j = 0) (h1 : ∀ j, j < 23 → (0 ≤ j ∧ j < 0 + 6 → k1 j = gr 0) ∧ (¬ (0 ≤ j ∧ j < 0 + 6) → k1 j = kf j)) (h2 : ∀ j, j < 23 → (6 ≤ j ∧ j < 6 + 8 → k2 j = gr 0) ∧ (¬ (6 ≤ j ∧ j < 6 + 8) → k2 j = k1 j)) (h3 : ∀ j, j < 23 → (14 ≤ j ∧ j < 14 + 8 → k3 j = gr 0) ∧ (¬ (14 ≤ j ∧ j < 14 + 8) → k3 j = k2 j)) (hx : x = gr (k3 22)) : ∀ j, j < 23 → va_up k3 22 x j = 1 := by
  intro j hj
  have g0 : gr 0 = 1 := by decide
  by_cases e : j = 22
  · subst e
    rw [va_up_self, hx, (h3 22 (by omega)).2 (by omega), (h2 22 (by omega)).2 (by omega), (h1 22 (by omega)).2 (by omega), h0 22 (by omega), g0]
  · rw [va_up_ne _ _ e]
    by_cases e3 : 14 ≤ j
    · rw [(h3 j hj).1 (by omega), g0]
    · rw [(h3 j hj).2 (by omega)]
      by_cases e2 : 6 ≤ j
      · rw [(h2 j hj).1 (by omega), g0]
      · rw [(h2 j hj).2 (by omega), (h1 j hj).1 (by omega), g0]
theorem Za.okc {f : Nat → Int64} (h : Za f) : (0 : Nat) = 0 ∧ ∀ c9 < 158, f c9 = INF ∨ (-18014398509481984 ≤ f c9 ∧ f c9 < 18014398509481984) :=
  ⟨rfl, fun c hc => (h c hc).imp id (fun e => by rw [e]; exact ⟨by decide, by decide⟩)⟩
theorem DK.sh2 {G : GG} {μ : mp} {d aS aL aR aT aO k sc : Nat} {sa na la bE : Nat → Nat} {F : Nat → Nat → Int64} {fS fL fR fT : Nat → Option Nat} {sp : Nat → Nat} {fO : Nat → Int64} (h : DK G μ d aS aL aR aT aO k sc sa na la bE F fS fL fR fT sp fO) {j b : Nat} {g : Nat → Int64} (hj : j < 23) (hb : b ≤ 1) : DK G (mu (mu μ (la j) (.inl (G.2 0, 158 * k + 158, .inr (.inl g)))) (sa j) (.inr (1, [.ref (na j), .int (nI b)]))) d aS aL aR aT aO k sc sa na la (va_up bE j b) (va_up F j g) fS fL fR fT sp fO := by
  have e := h.sh (g := g) hj hb
  obtain ⟨⟨j1, j2, j3⟩, -⟩ := h.2.2.2.2.1.1 j hj
  rw [mu_c _ _ (mp_ne j1 j3 (by simp))] at e
  exact e
theorem DK.b {G : GG} {μ : mp} {d aS aL aR aT aO k sc : Nat} {sa na la bE : Nat → Nat} {F : Nat → Nat → Int64} {fS fL fR fT : Nat → Option Nat} {sp : Nat → Nat} {fO : Nat → Int64} (h : DK G μ d aS aL aR aT aO k sc sa na la bE F fS fL fR fT sp fO) : ∀ j, j < 23 → bE j ≤ 1 ∧ k ≤ 1022 := fun j hj => (h.2.2.2.2.1.1 j hj).2
def okW (x : Int32) : Prop := ¬ x < 0 ∧ x < nI 64
def okJ (x : Int32) : Prop := ¬ x < 0 ∧ x < nI 8
theorem Fr.zb {F : Nat → Nat → Int64} {bE : Nat → Nat} {j : Nat} (h : Fr F bE j) : Zb 0 (F j) := by
  intro p q hp hq
  rw [h.2.1 _ (lt144 hp hq), tz, show (p * 12 + q) % 12 = q by omega, show (p * 12 + q) / 12 = p by omega]
  split
  · rename_i e; exact Or.inr ⟨rfl, Or.inl e⟩
  · exact Or.inl rfl
theorem Fr.za {F : Nat → Nat → Int64} {bE : Nat → Nat} {j : Nat} (h : Fr F bE j) : Za (F j) := by
  intro c hc
  by_cases e : c < 144
  · rw [h.2.1 c e, tz]; split
    · exact Or.inr rfl
    · exact Or.inl rfl
  · exact Or.inr (h.2.2 c (by omega))
theorem Fr.inf {F : Nat → Nat → Int64} {bE : Nat → Nat} {j p q : Nat} (h : Fr F bE j) (hp : p < 12) (hq : q < 12) (hne : q ≠ ne p) : F j (p * 12 + q) = INF := by
  rw [h.2.1 _ (lt144 hp hq), tz, show (p * 12 + q) % 12 = q by omega, show (p * 12 + q) / 12 = p by omega, if_neg hne]
theorem ne_no (p : Nat) : p ≠ ne p := by unfold ne; split <;> omega
theorem Fr.most {F : Nat → Nat → Int64} {bE : Nat → Nat} {j p q : Nat} (h : Fr F bE j) (hp : p < 12) (hq : q < 12) (hne : ¬ nI p = nI q ^^^ nI 1) : (if p = q then hf (F j (p * 12 + p)) else F j (p * 12 + q)) = INF := by
  split
  · rw [h.inf hp hp (ne_no p)]; rfl
  · refine h.inf hp hq (fun e => hne ?_)
    rw [ne_x q hq, e, ne_ne]
theorem Fr.le {F : Nat → Nat → Int64} {bE : Nat → Nat} {i j : Nat} (h : Fr F bE i) (h2 : Fr F bE j) : ∀ c, c < 144 → ¬ F j c < F i c := by
  intro c hc
  rw [h.2.1 c hc, h2.2.1 c hc]; exact fun h9 => Int64.lt_irrefl h9
theorem DK.se {G : GG} {μ : mp} {d aS aL aR aT aO k sc : Nat} {sa na la bE : Nat → Nat} {F : Nat → Nat → Int64} {fS fL fR fT : Nat → Option Nat} {sp : Nat → Nat} {fO : Nat → Int64} (h : DK G μ d aS aL aR aT aO k sc sa na la bE F fS fL fR fT sp fO) {j b : Nat} (hj : j < 23) (hb : b ≤ 1) : DK G (mu μ (sa j) (.inr (1, [.ref (na j), .int (nI b)]))) d aS aL aR aT aO k sc sa na la (va_up bE j b) F fS fL fR fT sp fO := by
  have e := h.sh (g := F j) hj hb
  obtain ⟨⟨j1, j2, j3⟩, -⟩ := h.2.2.2.2.1.1 j hj
  rw [mu_i ((mu_n (mp_ne j3 j1 (by simp))).trans j3)] at e
  have e2 : va_up F j (F j) = F := by
    funext i
    by_cases h9 : i = j
    · subst h9; exact va_up_self _ _ _
    · exact va_up_ne _ _ h9
  rw [e2] at e
  exact e
theorem DR.se {μ : mp} {d aO j : Nat} {sa na la sp : Nat → Nat} {e1 : va_E} (hj : j < 23) : DR μ (mu μ (sa j) e1) d aO sa na la la sp :=
  ⟨fun a ha => (mu_none ha).2, fun _ _ => Or.inl rfl, fun a e ha _ _ h5 _ => (mu_n (h5 j hj).1).trans ha⟩
theorem zb_al {f g : Nat → Int64} (h : ∀ j, j < 158 * 0 + 158 → g j = f j) {d : Nat} (hz : Zb d f) : Zb d g := hz.of (fun c hc => h c (by omega))
theorem za_al {f g : Nat → Int64} (h : ∀ j, j < 158 * 0 + 158 → g j = f j) (hz : Za f) : Za g := fun c hc => by rw [h c (by omega)]; exact hz c hc
theorem zb_r {r : Int32} (h : r = 0 ∨ r = 1) : narrow .boolean (.int r) = .int r := by rcases h with e | e <;> subst e <;> rfl
