/-! Tables of terms: a cell of p and q lies at p * 12 + q. Closed tables; tables of zeros and infinities. -/
def ne (p : Nat) : Nat := if p % 2 = 0 then p + 1 else p - 1
theorem ne_lt {p : Nat} (h : p < 12) : ne p < 12 := by unfold ne; split <;> omega
theorem ne_ne (p : Nat) : ne (ne p) = p := by unfold ne; split <;> split <;> omega
theorem ne_x : ∀ p, p < 12 → nI p ^^^ nI 1 = nI (ne p) := by decide +kernel
def tz (c : Nat) : Int64 := if c % 12 = ne (c / 12) then 0 else INF
/-- a table in which no chain of two or three bounds, and no two halves, say less than a bound does -/
def Cl (f : Nat → Int64) : Prop := (∀ p q r, p < 12 → q < 12 → r < 12 → ¬ sm (f (p * 12 + r)) (f (ne r * 12 + q)) < f (p * 12 + q)) ∧
  (∀ i j p q, i < 12 → j < 12 → p < 12 → q < 12 → ¬ sm (sm (f (i * 12 + ne p)) (f (p * 12 + q))) (f (ne q * 12 + j)) < f (i * 12 + j)) ∧
  (∀ p q, p < 12 → q < 12 → ¬ sm (hf (f (p * 12 + p))) (hf (f (q * 12 + q))) < f (p * 12 + q)) ∧
  (∀ p, p < 12 → ¬ f (p * 12 + ne p) < 0) ∧ (∀ p q, p < 12 → q < 12 → ¬ sm (f (p * 12 + q)) (f (ne q * 12 + ne p)) < 0)
/-- where zeros may stand: a term and its negation, and the terms below d -/
def In (d p q : Nat) : Prop := q = ne p ∨ (p < d ∧ q < d)
theorem In.comp {d i r j : Nat} (h1 : In d i r) (h2 : In d (ne r) j) : In d i j := by
  rcases h1 with h1 | ⟨h1, h3⟩
  · rw [h1, ne_ne] at h2
    exact h2
  · rcases h2 with h2 | ⟨h2, h4⟩
    · rw [ne_ne] at h2
      exact Or.inr ⟨h1, by rw [h2]; exact h3⟩
    · exact Or.inr ⟨h1, h4⟩
def Zb (d : Nat) (f : Nat → Int64) : Prop := ∀ p q, p < 12 → q < 12 → f (p * 12 + q) = INF ∨ (f (p * 12 + q) = 0 ∧ In d p q)
/-- what a method does that only lowers: nothing to a closed table; zeros stay and come where they may -/
def RR (f g : Nat → Int64) (b b2 : Nat) : Prop := (Cl f → (∀ c, c < 144 → g c = f c) ∧ b2 = b) ∧ (∀ d, d % 2 = 0 → Zb d f → Zb d g ∧ (∀ c, c < 144 → f c = 0 → g c = 0) ∧ b2 = b)
theorem lt144 {p q : Nat} (hp : p < 12) (hq : q < 12) : p * 12 + q < 144 := by omega
theorem Cl.of {f g : Nat → Int64} (h : Cl f) (e : ∀ c, c < 144 → g c = f c) : Cl g := by
  obtain ⟨h1, h2, h3, h4, h5⟩ := h
  refine ⟨fun p q r hp hq hr => ?_, fun i j p q hi hj hp hq => ?_, fun p q hp hq => ?_, fun p hp => ?_, fun p q hp hq => ?_⟩
  · rw [e _ (lt144 hp hr), e _ (lt144 (ne_lt hr) hq), e _ (lt144 hp hq)]; exact h1 p q r hp hq hr
  · rw [e _ (lt144 hi (ne_lt hp)), e _ (lt144 hp hq), e _ (lt144 (ne_lt hq) hj), e _ (lt144 hi hj)]; exact h2 i j p q hi hj hp hq
  · rw [e _ (lt144 hp hp), e _ (lt144 hq hq), e _ (lt144 hp hq)]; exact h3 p q hp hq
  · rw [e _ (lt144 hp (ne_lt hp))]; exact h4 p hp
  · rw [e _ (lt144 hp hq), e _ (lt144 (ne_lt hq) (ne_lt hp))]; exact h5 p q hp hq
theorem RR.rf (f : Nat → Int64) (b : Nat) : RR f f b b := ⟨fun _ => ⟨fun _ _ => rfl, rfl⟩, fun _ _ h => ⟨h, fun _ _ h2 => h2, rfl⟩⟩
theorem RR.tr {f g h : Nat → Int64} {b b1 b2 : Nat} (h1 : RR f g b b1) (h2 : RR g h b1 b2) : RR f h b b2 := by
  refine ⟨fun hc => ?_, fun d hd hz => ?_⟩
  · obtain ⟨a1, a2⟩ := h1.1 hc
    obtain ⟨a3, a4⟩ := h2.1 (hc.of a1)
    exact ⟨fun c hl => (a3 c hl).trans (a1 c hl), a4.trans a2⟩
  · obtain ⟨a1, a2, a3⟩ := h1.2 d hd hz
    obtain ⟨a4, a5, a6⟩ := h2.2 d hd a1
    exact ⟨a4, fun c hl hf => a5 c hl (a2 c hl hf), a6.trans a3⟩
/-- cells that are alike below 144 -/
def Sm (f g : Nat → Int64) : Prop := ∀ c, c < 144 → g c = f c
theorem Sm.upd {f g : Nat → Int64} (h : Sm f g) {c : Nat} (hc : 144 ≤ c) (v : Int64) : Sm f (vp_updL g c v) := fun x hx => by rw [pk_uLn (by omega)]; exact h x hx
theorem Zb.of {d : Nat} {f g : Nat → Int64} (h : Zb d f) (e : Sm f g) : Zb d g := fun p q hp hq => by rw [e _ (lt144 hp hq)]; exact h p q hp hq
theorem RR.al {f g h : Nat → Int64} {b b2 : Nat} (h1 : RR f g b b2) (e : Sm g h) : RR f h b b2 := by
  refine ⟨fun hc => ?_, fun d hd hz => ?_⟩
  · obtain ⟨a1, a2⟩ := h1.1 hc
    exact ⟨fun c hl => (e c hl).trans (a1 c hl), a2⟩
  · obtain ⟨a1, a2, a3⟩ := h1.2 d hd hz
    exact ⟨a1.of e, fun c hl hf => (e c hl).trans (a2 c hl hf), a3⟩
theorem lw_x {f : Nat → Int64} {i j m c : Nat} (hc : c ≠ 157) (hi : c ≠ i) : lw f i j m c = f c := by
  unfold lw
  split
  · rw [pk_uLn hi, pk_uLn hc]
  · rw [pk_uLn hc]
theorem lw_no {f : Nat → Int64} {i j m c : Nat} (h : ¬ sm (f j) (f m) < f i) (hc : c ≠ 157) : lw f i j m c = f c := by
  unfold lw
  rw [if_neg h, pk_uLn hc]
theorem lw_i {f : Nat → Int64} {i j m : Nat} (hi : i ≠ 157) : lw f i j m i = sm (f j) (f m) ∨ lw f i j m i = f i := by
  unfold lw
  split
  · exact Or.inl pk_uLs
  · exact Or.inr (pk_uLn hi)
theorem sm_z {x y : Int64} (hx : x = INF ∨ x = 0) (hy : y = INF ∨ y = 0) : sm x y = INF ∨ (sm x y = 0 ∧ x = 0 ∧ y = 0) := by
  unfold sm
  rcases hx with hx | hx
  · left; rw [if_pos (Or.inl hx)]
  · rcases hy with hy | hy
    · left; rw [if_pos (Or.inr hy)]
    · right; subst hx; subst hy; exact ⟨rfl, rfl, rfl⟩
theorem INF_lt0 : ¬ (INF : Int64) < 0 := by decide
theorem z_lt0 : ¬ (0 : Int64) < 0 := by decide
/-- one cell lowered by a sum that isn't less (closed), or is a zero that may stand there (zeros) -/
theorem RR.low {f g : Nat → Int64} {b b2 p q j m : Nat} (hp : p < 12) (hq : q < 12) (h : RR f g b b2) (h1 : Cl f → ¬ sm (g j) (g m) < f (p * 12 + q)) (h2 : ∀ d, d % 2 = 0 → Zb d f → sm (g j) (g m) = INF ∨ (sm (g j) (g m) = 0 ∧ In d p q)) : RR f (lw g (p * 12 + q) j m) b b2 := by
  have hl := lt144 hp hq
  refine ⟨fun hc => ?_, fun d hd hz => ?_⟩
  · obtain ⟨a1, a2⟩ := h.1 hc
    refine ⟨fun c hc2 => ?_, a2⟩
    rw [lw_no (by rw [a1 _ hl]; exact h1 hc) (by omega)]
    exact a1 c hc2
  · obtain ⟨a1, a2, a3⟩ := h.2 d hd hz
    refine ⟨fun p2 q2 hp2 hq2 => ?_, fun c hc2 hf => ?_, a3⟩
    · by_cases he : p2 * 12 + q2 = p * 12 + q
      · have e1 : p2 = p := by omega
        have e2 : q2 = q := by omega
        subst e1; subst e2
        rcases lw_i (f := g) (i := p2 * 12 + q2) (j := j) (m := m) (by omega) with h3 | h3
        · rw [h3]; exact h2 d hd hz
        · rw [h3]; exact a1 p2 q2 hp2 hq2
      · rw [lw_x (by have := lt144 hp2 hq2; omega) he]; exact a1 p2 q2 hp2 hq2
    · by_cases he : c = p * 12 + q
      · subst he
        unfold lw
        split
        · rename_i hlt
          rw [a2 _ hl hf] at hlt
          rcases h2 d hd hz with h3 | ⟨h3, -⟩
          · rw [h3] at hlt; exact absurd hlt INF_lt0
          · rw [h3] at hlt; exact absurd hlt z_lt0
        · rw [pk_uLn (by omega)]; exact a2 _ hl hf
      · rw [lw_x (by omega) he]; exact a2 c hc2 hf
