/-! The desk in any state -/
def kw (k : Nat) : Prop := k = 0 ∨ k = 1 ∨ k = 3 ∨ k = 7 ∨ k = 15 ∨ k = 31 ∨ k = 63 ∨ k = 127 ∨ k = 255 ∨ k = 511
theorem kw.le {k : Nat} (h : kw k) : k ≤ 511 := by unfold kw at h; omega
theorem kw.le2 {k : Nat} (h : kw k) (h2 : k < 511) : k ≤ 255 := by unfold kw at h; omega
theorem kw.gr {k : Nat} (h : kw k) (h2 : k < 511) : kw (2 * k + 1) := by unfold kw at h ⊢; omega
theorem gr_lt {k : Nat} (h : k < 511) : gr k = 2 * k + 1 := by rw [gr, if_pos (by omega)]
def gs (k i : Nat) : Nat := (316 * k + 316) * i
theorem gs_s (k i : Nat) : gs k (i + 1) = gs k i + 2 * (158 * k + 158) := by unfold gs; rw [Nat.mul_succ]; omega
theorem gs_le (k : Nat) {i j : Nat} (h : i ≤ j) : gs k i ≤ gs k j := Nat.mul_le_mul_left _ h
theorem gs_6 (k : Nat) : gs k 6 = 1896 * k + 1896 := by unfold gs; omega
theorem gs_8 (k : Nat) : gs k 8 = 2528 * k + 2528 := by unfold gs; omega
theorem ga_k {o i k kq : Nat} {kf kf1 : Nat → Nat} (h : ∀ j, j < 23 → (o ≤ j ∧ j < o + i → kf1 j = gr kq) ∧ (¬ (o ≤ j ∧ j < o + i) → kf1 j = kf j)) (hk : kf (o + i) = kq) (e : k = gr (kf1 (o + i))) (hi : o + i < 23) : ∀ j, j < 23 → (o ≤ j ∧ j < o + (i + 1) → va_up kf1 (o + i) k j = gr kq) ∧ (¬ (o ≤ j ∧ j < o + (i + 1)) → va_up kf1 (o + i) k j = kf j) := by
  intro j hj
  by_cases e1 : j = o + i
  · subst e1
    rw [va_up_self, e, (h _ hj).2 (by omega), hk]
    exact ⟨fun _ => rfl, fun h9 => absurd h9 (by omega)⟩
  · rw [va_up_ne _ _ e1]
    exact ⟨fun h9 => (h j hj).1 (by omega), fun h9 => (h j hj).2 (by omega)⟩
theorem mr_kk {kf k1 k2 k3 : Nat → Nat} {x kq : Nat} (h0 : ∀ j, j < 23 → kf j = kq) (h1 : ∀ j, j < 23 → (0 ≤ j ∧ j < 0 + 6 → k1 j = gr kq) ∧ (¬ (0 ≤ j ∧ j < 0 + 6) → k1 j = kf j)) (h2 : ∀ j, j < 23 → (6 ≤ j ∧ j < 6 + 8 → k2 j = gr kq) ∧ (¬ (6 ≤ j ∧ j < 6 + 8) → k2 j = k1 j)) (h3 : ∀ j, j < 23 → (14 ≤ j ∧ j < 14 + 8 → k3 j = gr kq) ∧ (¬ (14 ≤ j ∧ j < 14 + 8) → k3 j = k2 j)) (hx : x = gr (k3 22)) : ∀ j, j < 23 → va_up k3 22 x j = gr kq := by
  intro j hj
  by_cases e : j = 22
  · subst e
    rw [va_up_self, hx, (h3 22 (by omega)).2 (by omega), (h2 22 (by omega)).2 (by omega), (h1 22 (by omega)).2 (by omega), h0 22 (by omega)]
  · rw [va_up_ne _ _ e]
    by_cases e3 : 14 ≤ j
    · rw [(h3 j hj).1 (by omega)]
    · rw [(h3 j hj).2 (by omega)]
      by_cases e2 : 6 ≤ j
      · rw [(h2 j hj).1 (by omega)]
      · rw [(h2 j hj).2 (by omega), (h1 j hj).1 (by omega)]
/-- what a call does to the world, its steps left alone -/
def DQ (μ μ2 : mp) (d aO : Nat) (sa na la la2 : Nat → Nat) : Prop := (∀ a, μ2 a = none → μ a = none) ∧ (∀ j, j < 23 → la2 j = la j ∨ μ (la2 j) = none) ∧ ∀ (a : Nat) (e : va_E), μ a = some e → a ≠ d → a ≠ aO → (∀ j, j < 23 → a ≠ sa j ∧ a ≠ na j ∧ a ≠ la j) → μ2 a = some e
theorem DQ.rf (μ : mp) (d aO : Nat) (sa na la : Nat → Nat) : DQ μ μ d aO sa na la la := ⟨fun _ h => h, fun _ _ => Or.inl rfl, fun _ _ h _ _ _ => h⟩
theorem DQ.tr {μ μ1 μ2 : mp} {d aO : Nat} {sa na la la1 la2 : Nat → Nat} (h : DQ μ μ1 d aO sa na la la1) (h2 : DQ μ1 μ2 d aO sa na la1 la2) : DQ μ μ2 d aO sa na la la2 := by
  refine ⟨fun a ha => h.1 a (h2.1 a ha), fun j hj => ?_, fun a e ha h3 h4 h5 => ?_⟩
  · rcases h2.2.1 j hj with e | e
    · rw [e]; exact h.2.1 j hj
    · exact Or.inr (h.1 _ e)
  · refine h2.2.2 a e (h.2.2 a e ha h3 h4 h5) h3 h4 (fun j hj => ⟨(h5 j hj).1, (h5 j hj).2.1, ?_⟩)
    rcases h.2.1 j hj with e1 | e1
    · rw [e1]; exact (h5 j hj).2.2
    · exact mp_nn ha e1
theorem GR.dq {μ μ2 : mp} {na la la2 : Nat → Nat} (h : GR μ μ2 na la la2) (d aO : Nat) (sa : Nat → Nat) : DQ μ μ2 d aO sa na la la2 := ⟨h.1, h.2.1, fun a e ha _ _ h5 => h.2.2 a e ha (fun j hj => (h5 j hj).2)⟩
theorem DQ.sh {μ : mp} {d aO j : Nat} {sa na la : Nat → Nat} {e1 e2 : va_E} (hj : j < 23) : DQ μ (mu (mu μ (sa j) e1) (la j) e2) d aO sa na la la :=
  ⟨fun a ha => (mu_none (mu_none ha).2).2, fun _ _ => Or.inl rfl, fun a e ha _ _ h5 => (mu_n (h5 j hj).2.2).trans ((mu_n (h5 j hj).1).trans ha)⟩
theorem DQ.sh2 {μ : mp} {d aO j : Nat} {sa na la : Nat → Nat} {e1 e2 : va_E} (hj : j < 23) : DQ μ (mu (mu μ (la j) e1) (sa j) e2) d aO sa na la la :=
  ⟨fun a ha => (mu_none (mu_none ha).2).2, fun _ _ => Or.inl rfl, fun a e ha _ _ h5 => (mu_n (h5 j hj).1).trans ((mu_n (h5 j hj).2.2).trans ha)⟩
theorem DQ.la {μ : mp} {d aO j : Nat} {sa na la : Nat → Nat} {e1 : va_E} (hj : j < 23) : DQ μ (mu μ (la j) e1) d aO sa na la la :=
  ⟨fun a ha => (mu_none ha).2, fun _ _ => Or.inl rfl, fun a e ha _ _ h5 => (mu_n (h5 j hj).2.2).trans ha⟩
theorem DQ.se {μ : mp} {d aO j : Nat} {sa na la : Nat → Nat} {e1 : va_E} (hj : j < 23) : DQ μ (mu μ (sa j) e1) d aO sa na la la :=
  ⟨fun a ha => (mu_none ha).2, fun _ _ => Or.inl rfl, fun a e ha _ _ h5 => (mu_n (h5 j hj).1).trans ha⟩
theorem DQ.dd {μ : mp} {d aO : Nat} {sa na la : Nat → Nat} {e1 : va_E} : DQ μ (mu μ d e1) d aO sa na la la :=
  ⟨fun a ha => (mu_none ha).2, fun _ _ => Or.inl rfl, fun a e ha h3 _ _ => (mu_n h3).trans ha⟩
theorem DQ.ao {μ : mp} {d aO : Nat} {sa na la : Nat → Nat} {e1 : va_E} : DQ μ (mu μ aO e1) d aO sa na la la :=
  ⟨fun a ha => (mu_none ha).2, fun _ _ => Or.inl rfl, fun a e ha _ h4 _ => (mu_n h4).trans ha⟩
/-- limbs alone written -/
theorem DK.la {G : GG} {μ : mp} {d aS aL aR aT aO k sc : Nat} {sa na la bE : Nat → Nat} {F : Nat → Nat → Int64} {fS fL fR fT : Nat → Option Nat} {sp : Nat → Nat} {fO : Nat → Int64} (h : DK G μ d aS aL aR aT aO k sc sa na la bE F fS fL fR fT sp fO) {j : Nat} {g : Nat → Int64} (hj : j < 23) : DK G (mu μ (la j) (.inl (G.2 0, 158 * k + 158, .inr (.inl g)))) d aS aL aR aT aO k sc sa na la bE (va_up F j g) fS fL fR fT sp fO := by
  obtain ⟨⟨j1, j2, j3⟩, jb, jk⟩ := h.2.2.2.2.1.1 j hj
  have e := h.sh2 (g := g) hj jb
  rw [mu_i ((mu_n (mp_ne j1 j3 (by simp))).trans j1)] at e
  have e2 : va_up bE j (bE j) = bE := by
    funext i
    by_cases h9 : i = j
    · subst h9; exact va_up_self _ _ _
    · exact va_up_ne _ _ h9
  rw [e2] at e
  exact e
