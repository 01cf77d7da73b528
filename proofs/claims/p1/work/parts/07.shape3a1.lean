def SHc (G : GG) (μ : mp) (s n l b : Nat) (f : Nat → Int64) : Prop := μ s = some (.inr (1, [.ref n, .int (nI b)])) ∧ μ n = some (.inr (0, [.int (nI 158), .int (nI 157), .ref l, .int (nI (158 * 0))])) ∧ μ l = some (.inl (G.2 0, 158 * 0 + 158, .inr (.inl f)))
def Ext (μ μ1 : mp) : Prop := ∀ (a : Nat) (e : va_E), μ a = some e → μ1 a = some e
theorem Ext.rf (μ : mp) : Ext μ μ := fun _ _ h => h
theorem Ext.tr {μ μ1 μ2 : mp} (h1 : Ext μ μ1) (h2 : Ext μ1 μ2) : Ext μ μ2 := fun a e h => h2 a e (h1 a e h)
theorem Ext.no {μ μ1 : mp} (h : Ext μ μ1) {a : Nat} (h1 : μ1 a = none) : μ a = none := by
  cases h2 : μ a with
  | none => rfl
  | some e => rw [h a e h2] at h1; cases h1
theorem Ext.mo {μ μ1 : mp} (h : Ext μ μ1) {a : Nat} {e : va_E} (h1 : μ a = none) : Ext μ (mu μ1 a e) := fun b x hb => by rw [mu_n (mp_nn hb h1)]; exact h b x hb
/-- n shapes with their numbers, new since μ; what was in μ is there as it was -/
def EM (G : GG) (μ μ1 : mp) (n : Nat) (sa na la bE : Nat → Nat) (F : Nat → Nat → Int64) : Prop := Ext μ μ1 ∧ (∀ j, j < n → SHc G μ1 (sa j) (na j) (la j) (bE j) (F j) ∧ μ (sa j) = none ∧ μ (na j) = none ∧ μ (la j) = none) ∧ (∀ i j, i < n → j < n → i ≠ j → sa i ≠ sa j ∧ na i ≠ na j ∧ la i ≠ la j)
theorem SHc.set {G : GG} {μ : mp} {s n l b a : Nat} {f : Nat → Int64} {e : va_E} (h : SHc G μ s n l b f) (h1 : s ≠ a) (h2 : n ≠ a) (h3 : l ≠ a) : SHc G (mu μ a e) s n l b f := ⟨(mu_n h1).trans h.1, (mu_n h2).trans h.2.1, (mu_n h3).trans h.2.2⟩
theorem SHc.ext {G : GG} {μ μ1 : mp} {s n l b : Nat} {f : Nat → Int64} (h : SHc G μ s n l b f) (e : Ext μ μ1) : SHc G μ1 s n l b f := ⟨e _ _ h.1, e _ _ h.2.1, e _ _ h.2.2⟩
theorem EM.zero (G : GG) {μ μ1 : mp} (h : Ext μ μ1) (sa na la bE : Nat → Nat) (F : Nat → Nat → Int64) : EM G μ μ1 0 sa na la bE F := ⟨h, fun _ h => absurd h (by omega), fun _ _ h => absurd h (by omega)⟩
theorem EM.set {G : GG} {μ μ1 : mp} {n a : Nat} {sa na la bE : Nat → Nat} {F : Nat → Nat → Int64} {e : va_E} (h : EM G μ μ1 n sa na la bE F) (h1 : μ a = none) (h2 : ∀ j, j < n → sa j ≠ a ∧ na j ≠ a ∧ la j ≠ a) : EM G μ (mu μ1 a e) n sa na la bE F :=
  ⟨h.1.mo h1, fun j hj => ⟨(h.2.1 j hj).1.set (h2 j hj).1 (h2 j hj).2.1 (h2 j hj).2.2, (h.2.1 j hj).2⟩, h.2.2⟩
theorem EM.add {G : GG} {μ μ1 : mp} {i q hn l b : Nat} {sa na la bE : Nat → Nat} {F : Nat → Nat → Int64} {f : Nat → Int64} (h : EM G μ μ1 i sa na la bE F) (h1 : μ1 q = none) (h2 : μ1 hn = none) (h3 : μ1 l = none) (h4 : hn ≠ q) (h5 : l ≠ q) (h6 : hn ≠ l) :
    EM G μ (mu (mu (mu μ1 q (.inr (1, [.ref hn, .int (nI b)]))) hn (.inr (0, [.int (nI 158), .int (nI 157), .ref l, .int (nI (158 * 0))]))) l (.inl (G.2 0, 158 * 0 + 158, .inr (.inl f)))) (i + 1) (va_up sa i q) (va_up na i hn) (va_up la i l) (va_up bE i b) (va_up F i f) := by
  obtain ⟨e0, e1, e2⟩ := h
  have ne1 : ∀ j, j < i → ∀ x, μ1 x = none → sa j ≠ x ∧ na j ≠ x ∧ la j ≠ x := fun j hj x hx => ⟨mp_nn (e1 j hj).1.1 hx, mp_nn (e1 j hj).1.2.1 hx, mp_nn (e1 j hj).1.2.2 hx⟩
  refine ⟨((e0.mo (e0.no h1)).mo (e0.no h2)).mo (e0.no h3), fun j hj => ?_, fun x y hx hy hxy => ?_⟩
  · by_cases e : j = i
    · subst e
      rw [va_up_self, va_up_self, va_up_self, va_up_self, va_up_self]
      exact ⟨⟨(mu_n (Ne.symm h5)).trans ((mu_n (Ne.symm h4)).trans (mu_s _ _ _)), (mu_n h6).trans (mu_s _ _ _), mu_s _ _ _⟩, e0.no h1, e0.no h2, e0.no h3⟩
    · have hj' : j < i := by omega
      rw [va_up_ne _ _ e, va_up_ne _ _ e, va_up_ne _ _ e, va_up_ne _ _ e, va_up_ne _ _ e]
      obtain ⟨a1, a2, a3⟩ := ne1 j hj' q h1
      obtain ⟨b1, b2, b3⟩ := ne1 j hj' hn h2
      obtain ⟨c1, c2, c3⟩ := ne1 j hj' l h3
      exact ⟨((((e1 j hj').1.set a1 a2 a3).set b1 b2 b3).set c1 c2 c3), (e1 j hj').2⟩
  · by_cases ex : x = i
    · have ey : y ≠ i := by omega
      subst ex
      obtain ⟨a1, -, -⟩ := ne1 y (by omega) q h1
      obtain ⟨-, b2, -⟩ := ne1 y (by omega) hn h2
      obtain ⟨-, -, c3⟩ := ne1 y (by omega) l h3
      rw [va_up_self, va_up_self, va_up_self, va_up_ne _ _ ey, va_up_ne _ _ ey, va_up_ne _ _ ey]
      exact ⟨Ne.symm a1, Ne.symm b2, Ne.symm c3⟩
    · by_cases ey : y = i
      · subst ey
        obtain ⟨a1, -, -⟩ := ne1 x (by omega) q h1
        obtain ⟨-, b2, -⟩ := ne1 x (by omega) hn h2
        obtain ⟨-, -, c3⟩ := ne1 x (by omega) l h3
        rw [va_up_self, va_up_self, va_up_self, va_up_ne _ _ ex, va_up_ne _ _ ex, va_up_ne _ _ ex]
        exact ⟨a1, b2, c3⟩
      · rw [va_up_ne _ _ ex, va_up_ne _ _ ex, va_up_ne _ _ ex, va_up_ne _ _ ey, va_up_ne _ _ ey, va_up_ne _ _ ey]
        exact e2 x y (by omega) (by omega) hxy
