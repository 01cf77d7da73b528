theorem vp0_J (c : ClassId) (n : Nat) : vp_cell c (n, .inr (.inl (fun _ => 0))) = arrV c n (fun _ => defaultValue .long) := rfl
theorem vp0_I (c : ClassId) (n : Nat) : vp_cell c (n, .inl (fun _ => 0)) = arrV c n (fun _ => defaultValue .int) := rfl
theorem vp0_Z (c : ClassId) (n : Nat) : vp_cell c (n, .inl (fun _ => 0)) = arrV c n (fun _ => defaultValue .boolean) := rfl
theorem mu_none {μ : mp} {a q : Nat} {e : va_E} (h : mu μ a e q = none) : q ≠ a ∧ μ q = none := by
  by_cases h1 : q = a
  · subst h1; rw [mu_s] at h; cases h
  · exact ⟨h1, by rw [mu_n h1] at h; exact h⟩
theorem mu_iff {μ : mp} {a q : Nat} {e : va_E} : mu μ a e q = none ↔ (q ≠ a ∧ μ q = none) := ⟨mu_none, fun h => (mu_n h.1).trans h.2⟩
def Ext (μ μ1 : mp) : Prop := ∀ (a : Nat) (e : va_E), μ a = some e → μ1 a = some e
theorem Ext.rf (μ : mp) : Ext μ μ := fun _ _ h => h
theorem Ext.tr {μ μ1 μ2 : mp} (h1 : Ext μ μ1) (h2 : Ext μ1 μ2) : Ext μ μ2 := fun a e h => h2 a e (h1 a e h)
theorem Ext.no {μ μ1 : mp} (h : Ext μ μ1) {a : Nat} (h1 : μ1 a = none) : μ a = none := by
  cases h2 : μ a with
  | none => rfl
  | some e => rw [h a e h2] at h1; cases h1
theorem Ext.mo {μ μ1 : mp} (h : Ext μ μ1) {a : Nat} {e : va_E} (h1 : μ a = none) : Ext μ (mu μ1 a e) := fun b x hb => by rw [mu_n (mp_nn hb h1)]; exact h b x hb
/-- all but one cell stays -/
def XH (μ μ1 : mp) (h : Nat) : Prop := ∀ (a : Nat) (e : va_E), μ a = some e → a ≠ h → μ1 a = some e
theorem XH.rf (μ : mp) (h : Nat) : XH μ μ h := fun _ _ h _ => h
theorem XH.own {μ μ1 : mp} {h : Nat} {e : va_E} (x : XH μ μ1 h) : XH μ (mu μ1 h e) h := fun a e ha hn => (mu_n hn).trans (x a e ha hn)
theorem XH.ext {μ μ1 μ2 : mp} {h : Nat} (x : XH μ μ1 h) (y : Ext μ1 μ2) : XH μ μ2 h := fun a e ha hn => y a e (x a e ha hn)
theorem XH.new {μ μ1 : mp} {h q : Nat} {e : va_E} (x : XH μ μ1 h) (hq : μ1 q = none) : XH μ (mu μ1 q e) h := fun a e ha hn => (mu_n (mp_nn (x a e ha hn) hq)).trans (x a e ha hn)
def BF (G : GG) (μ : mp) (bn nn s9 lo : Nat) (nf : List Value) : Prop := μ bn = some (.inr (0, [.ref nn, .ref s9, .ref lo])) ∧ μ nn = some (.inr (3, nf)) ∧ μ s9 = some (.inl (G.2 0, 13, .inr (.inl (fun _ => 0)))) ∧ μ lo = some (.inl (G.2 2, 78, .inl (fun _ => 0)))
theorem BF.ext {G : GG} {μ μ1 : mp} {bn nn s9 lo : Nat} {nf : List Value} (h : BF G μ bn nn s9 lo nf) (e : Ext μ μ1) : BF G μ1 bn nn s9 lo nf := ⟨e _ _ h.1, e _ _ h.2.1, e _ _ h.2.2.1, e _ _ h.2.2.2⟩
theorem BF.set {G : GG} {μ : mp} {bn nn s9 lo a : Nat} {nf : List Value} {e : va_E} (h : BF G μ bn nn s9 lo nf) (h1 : bn ≠ a) (h2 : nn ≠ a) (h3 : s9 ≠ a) (h4 : lo ≠ a) : BF G (mu μ a e) bn nn s9 lo nf := ⟨(mu_n h1).trans h.1, (mu_n h2).trans h.2.1, (mu_n h3).trans h.2.2.1, (mu_n h4).trans h.2.2.2⟩
theorem BF.new {G : GG} {μ : mp} {bn nn s9 lo a : Nat} {nf : List Value} {e : va_E} (h : BF G μ bn nn s9 lo nf) (h1 : μ a = none) : BF G (mu μ a e) bn nn s9 lo nf := h.set (mp_nn h.1 h1) (mp_nn h.2.1 h1) (mp_nn h.2.2.1 h1) (mp_nn h.2.2.2 h1)
def SHc (G : GG) (bn nn : Nat) (μ : mp) (s l b : Nat) (f : Nat → Int64) : Prop := μ s = some (.inr (4, [.ref bn, .ref nn, .ref l, .int (nI b)])) ∧ μ l = some (.inl (G.2 0, 78, .inr (.inl f)))
/-- n shapes, new since μ; what was in μ is there as it was -/
def EM (G : GG) (bn nn : Nat) (μ μ1 : mp) (n : Nat) (sa la bE : Nat → Nat) (F : Nat → Nat → Int64) : Prop := Ext μ μ1 ∧ (∀ j, j < n → SHc G bn nn μ1 (sa j) (la j) (bE j) (F j) ∧ μ (sa j) = none ∧ μ (la j) = none) ∧ (∀ i j, i < n → j < n → i ≠ j → sa i ≠ sa j ∧ la i ≠ la j)
theorem SHc.set {G : GG} {bn nn : Nat} {μ : mp} {s l b a : Nat} {f : Nat → Int64} {e : va_E} (h : SHc G bn nn μ s l b f) (h1 : s ≠ a) (h3 : l ≠ a) : SHc G bn nn (mu μ a e) s l b f := ⟨(mu_n h1).trans h.1, (mu_n h3).trans h.2⟩
theorem SHc.ext {G : GG} {bn nn : Nat} {μ μ1 : mp} {s l b : Nat} {f : Nat → Int64} (h : SHc G bn nn μ s l b f) (e : Ext μ μ1) : SHc G bn nn μ1 s l b f := ⟨e _ _ h.1, e _ _ h.2⟩
theorem EM.zero (G : GG) (bn nn : Nat) {μ μ1 : mp} (h : Ext μ μ1) (sa la bE : Nat → Nat) (F : Nat → Nat → Int64) : EM G bn nn μ μ1 0 sa la bE F := ⟨h, fun _ h => absurd h (by omega), fun _ _ h => absurd h (by omega)⟩
theorem EM.set {G : GG} {bn nn : Nat} {μ μ1 : mp} {n a : Nat} {sa la bE : Nat → Nat} {F : Nat → Nat → Int64} {e : va_E} (h : EM G bn nn μ μ1 n sa la bE F) (h1 : μ a = none) (h2 : ∀ j, j < n → sa j ≠ a ∧ la j ≠ a) : EM G bn nn μ (mu μ1 a e) n sa la bE F :=
  ⟨h.1.mo h1, fun j hj => ⟨(h.2.1 j hj).1.set (h2 j hj).1 (h2 j hj).2, (h.2.1 j hj).2⟩, h.2.2⟩
theorem EM.add {G : GG} {bn nn : Nat} {μ μ1 : mp} {i q l b : Nat} {sa la bE : Nat → Nat} {F : Nat → Nat → Int64} {f : Nat → Int64} (h : EM G bn nn μ μ1 i sa la bE F) (h1 : μ1 q = none) (h3 : μ1 l = none) (h5 : l ≠ q) :
    EM G bn nn μ (mu (mu μ1 q (.inr (4, [.ref bn, .ref nn, .ref l, .int (nI b)]))) l (.inl (G.2 0, 78, .inr (.inl f)))) (i + 1) (va_up sa i q) (va_up la i l) (va_up bE i b) (va_up F i f) := by
  obtain ⟨e0, e1, e2⟩ := h
  have ne1 : ∀ j, j < i → ∀ x, μ1 x = none → sa j ≠ x ∧ la j ≠ x := fun j hj x hx => ⟨mp_nn (e1 j hj).1.1 hx, mp_nn (e1 j hj).1.2 hx⟩
  refine ⟨(e0.mo (e0.no h1)).mo (e0.no h3), fun j hj => ?_, fun x y hx hy hxy => ?_⟩
  · by_cases e : j = i
    · subst e
      rw [va_up_self, va_up_self, va_up_self, va_up_self]
      exact ⟨⟨(mu_n (Ne.symm h5)).trans (mu_s _ _ _), mu_s _ _ _⟩, e0.no h1, e0.no h3⟩
    · have hj' : j < i := by omega
      rw [va_up_ne _ _ e, va_up_ne _ _ e, va_up_ne _ _ e, va_up_ne _ _ e]
      obtain ⟨a1, a3⟩ := ne1 j hj' q h1
      obtain ⟨c1, c3⟩ := ne1 j hj' l h3
      exact ⟨(((e1 j hj').1.set a1 a3).set c1 c3), (e1 j hj').2⟩
  · by_cases ex : x = i
    · have ey : y ≠ i := by omega
      subst ex
      obtain ⟨a1, -⟩ := ne1 y (by omega) q h1
      obtain ⟨-, c3⟩ := ne1 y (by omega) l h3
      rw [va_up_self, va_up_self, va_up_ne _ _ ey, va_up_ne _ _ ey]
      exact ⟨Ne.symm a1, Ne.symm c3⟩
    · by_cases ey : y = i
      · subst ey
        obtain ⟨a1, -⟩ := ne1 x (by omega) q h1
        obtain ⟨-, c3⟩ := ne1 x (by omega) l h3
        rw [va_up_self, va_up_self, va_up_ne _ _ ex, va_up_ne _ _ ex]
        exact ⟨a1, c3⟩
      · rw [va_up_ne _ _ ex, va_up_ne _ _ ex, va_up_ne _ _ ey, va_up_ne _ _ ey]
        exact e2 x y (by omega) (by omega) hxy
theorem EM.arr {G : GG} {bn nn : Nat} {μ μ1 : mp} {n a n9 c9 : Nat} {sa la bE : Nat → Nat} {F : Nat → Nat → Int64} {fA : Nat → Option Nat} (h : EM G bn nn μ μ1 n sa la bE F) (ha : μ1 a = some (.inl (G.2 c9, n9, .inr (.inr (.inr (.inr fA)))))) : ∀ j, j < n → sa j ≠ a ∧ la j ≠ a := by
  intro j hj
  obtain ⟨h1, h3⟩ := (h.2.1 j hj).1
  exact ⟨mp_ne h1 ha (by simp), mp_ne h3 ha (by simp)⟩
theorem EM.next {G : GG} {bn nn : Nat} {μ μ1 : mp} {i a q l n9 : Nat} {sa la bE : Nat → Nat} {F : Nat → Nat → Int64} {fA : Nat → Option Nat} {e : va_E} {o : va_E} (h : EM G bn nn μ μ1 i sa la bE F) (h0 : μ a = none) (ha : μ1 a = some (.inl (G.2 3, n9, .inr (.inr (.inr (.inr fA)))))) (h1 : μ1 q = none) (h3 : mu μ1 q o l = none) :
    EM G bn nn μ (mu (mu (mu μ1 a e) q (.inr (4, [.ref bn, .ref nn, .ref l, .int (nI 1)]))) l (.inl (G.2 0, 78, .inr (.inl (fun _ => 0))))) (i + 1) (va_up sa i q) (va_up la i l) (va_up bE i 1) (va_up F i (fun _ => 0)) := by
  obtain ⟨b1, b2⟩ := mu_none h3
  have hs := h.set (e := e) h0 (h.arr ha)
  refine hs.add ?_ ?_ b1
  · rw [mu_n (Ne.symm (mp_nn ha h1))]; exact h1
  · rw [mu_n (Ne.symm (mp_nn ha b2))]; exact b2
theorem es_A {i q : Nat} {fA : Nat → Option Nat} {sa bE : Nat → Nat} {F : Nat → Nat → Int64} (h : ∀ j, j < i → fA j = some (sa j) ∧ bE j = 1 ∧ F j = fun _ => 0) : ∀ j, j < i + 1 → va_up fA i (some q) j = some (va_up sa i q j) ∧ va_up bE i 1 j = 1 ∧ va_up F i (fun _ => 0) j = fun _ => 0 := by
  intro j hj
  by_cases e : j = i
  · subst e; rw [va_up_self, va_up_self, va_up_self, va_up_self]; exact ⟨rfl, rfl, rfl⟩
  · rw [va_up_ne _ _ e, va_up_ne _ _ e, va_up_ne _ _ e, va_up_ne _ _ e]; exact h j (by omega)
