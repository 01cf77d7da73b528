theorem okN.b {c : Int32} (h : okN c) : -1000000 ≤ c.toInt ∧ c.toInt ≤ 1000000 := h.m6
theorem mul2_32o {c : Int32} (h1 : -1000000 ≤ c.toInt) (h2 : c.toInt ≤ 1000000) : (nI 2 * c).toInt = 2 * c.toInt := mul2_32 ⟨h1, h2⟩
theorem stf_e {f : Nat → Int64} {s p q a b : Nat} {c : Int64} (hp : p < 12) (hq : q < 12) (ha : a < 12) (hb : b < 12) : stf f s a b c (144 * s + 12 * p + q) = if (p = a ∧ q = b) ∨ (p = b ∧ q = a) then c else f (144 * s + 12 * p + q) := by
  split
  · rename_i h
    rcases h with ⟨e1, e2⟩ | ⟨e1, e2⟩ <;> subst e1 <;> subst e2
    · exact (stf_a f s _ _ c).1
    · exact (stf_a f s _ _ c).2
  · exact stf_o (by omega) (by omega)
theorem tvS1 {V : Nat → Nat → Option Int} (H1 : ∀ p q r x y, p < 12 → q < 12 → r < 12 → V p r = some x → V (ne r) q = some y → ∃ z, TV V p q = some z ∧ z ≤ x + y) : ∀ p q r x y, p < 12 → q < 12 → r < 12 → TV V p r = some x → TV V (ne r) q = some y → ∃ z, TV V p q = some z ∧ z ≤ x + y := by
  intro p q r x y hp hq hr hx hy
  unfold TV at hx
  split at hx
  · rename_i e; subst e; rw [ne_ne] at hy; cases hx; exact ⟨y, hy, by omega⟩
  · rename_i e
    unfold TV at hy
    split at hy
    · rename_i e2; rw [ne_ne] at e2; subst e2; cases hy
      exact ⟨x, by unfold TV; rw [if_neg e]; exact hx, by omega⟩
    · exact H1 p q r x y hp hq hr hx hy
def Iw (x : Int64) (o : Option Int) : Prop := (o = none ∧ x = INF) ∨ ∃ z : Int, o = some (2 * z) ∧ x.toInt = z ∧ -4000000 ≤ z ∧ z ≤ 4000000
theorem ccT {g : Nat → Int64} {s : Nat} {V : Nat → Nat → Option Int} (h1 : ∀ p q, p < 12 → q < 12 → p ≠ q → q ≠ ne p → Iv (g (144 * s + 12 * p + q)) (V p q)) (h2 : ∀ p, p < 12 → Iw (g (144 * s + 12 * p + p)) (V p p))
    (H1 : ∀ p q r x y, p < 12 → q < 12 → r < 12 → V p r = some x → V (ne r) q = some y → ∃ z, TV V p q = some z ∧ z ≤ x + y)
    (H3 : ∀ p q x y, p < 12 → q < 12 → V p p = some x → V q q = some y → ∃ z, TV V p q = some z ∧ z ≤ x / 2 + y / 2) : CC g s := by
  have S1 := tvS1 H1
  have iv : ∀ p q, p < 12 → q < 12 → Iv (so g s p q) (TV V p q) := by
    intro p q hp hq
    unfold so TV
    by_cases e : q = ne p
    · rw [if_pos e, if_pos e]; exact Or.inr ⟨0, rfl, by decide, by decide, by decide⟩
    · rw [if_neg e, if_neg e]
      by_cases e2 : p = q
      · subst e2
        rw [if_pos rfl]
        rcases h2 p hp with ⟨a1, a2⟩ | ⟨z, a1, a2, a3, a4⟩
        · exact Or.inl ⟨a1, by rw [a2]; rfl⟩
        · exact Or.inr ⟨2 * z, a1, by rw [sm_v (by omega) (by omega) (by omega) (by omega), a2]; omega, by omega, by omega⟩
      · rw [if_neg e2]; exact h1 p q hp hq e2 e
  have low : ∀ p q z, p < 12 → q < 12 → p ≠ q → q ≠ ne p → TV V p q = some z → (g (144 * s + 12 * p + q)).toInt = z := by
    intro p q z hp hq e1 e2 hz
    unfold TV at hz
    rw [if_neg e2] at hz
    rcases h1 p q hp hq e1 e2 with ⟨a1, -⟩ | ⟨w, a1, a2, -⟩
    · rw [a1] at hz; cases hz
    · rw [a1] at hz; cases hz; exact a2
  intro p q hp hq
  refine ⟨fun hpq => ?_, fun r hr => ?_⟩
  · rcases h2 p hp with ⟨-, a2⟩ | ⟨z1, a1, a2, a3, a4⟩
    · have e : sm (g (144 * s + 12 * p + p)) (g (144 * s + 12 * q + q)) = INF := by unfold sm; rw [if_pos (Or.inl a2)]
      exact ⟨fun _ h => absurd e h, fun h => absurd e h⟩
    · rcases h2 q hq with ⟨-, b2⟩ | ⟨z2, b1, b2, b3, b4⟩
      · have e : sm (g (144 * s + 12 * p + p)) (g (144 * s + 12 * q + q)) = INF := by unfold sm; rw [if_pos (Or.inr b2)]
        exact ⟨fun _ h => absurd e h, fun h => absurd e h⟩
      · have e : (sm (g (144 * s + 12 * p + p)) (g (144 * s + 12 * q + q))).toInt = z1 + z2 := by rw [sm_v (by omega) (by omega) (by omega) (by omega), a2, b2]
        obtain ⟨z, t1, t2⟩ := H3 p q _ _ hp hq a1 b1
        have t3 : z ≤ z1 + z2 := by omega
        refine ⟨fun h _ => ?_, fun _ h => ?_⟩
        · unfold TV at t1; rw [if_pos h] at t1; cases t1
          rw [Int64.lt_iff_toInt_lt, e]; show ¬ z1 + z2 < 0; omega
        · unfold lv
          rw [if_neg hpq, Int64.lt_iff_toInt_lt, e, low p q z hp hq hpq h t1]; omega
  · rcases iv p r hp hr with ⟨-, a2⟩ | ⟨x, a1, a2, a3, a4⟩
    · have e : sm (so g s p r) (so g s (ne r) q) = INF := by unfold sm; rw [if_pos (Or.inl a2)]
      exact ⟨fun _ h => absurd e h, fun h => absurd e h⟩
    · rcases iv (ne r) q (ne_lt hr) hq with ⟨-, b2⟩ | ⟨y, b1, b2, b3, b4⟩
      · have e : sm (so g s p r) (so g s (ne r) q) = INF := by unfold sm; rw [if_pos (Or.inr b2)]
        exact ⟨fun _ h => absurd e h, fun h => absurd e h⟩
      · have e : (sm (so g s p r) (so g s (ne r) q)).toInt = x + y := by rw [sm_v (by omega) (by omega) (by omega) (by omega), a2, b2]
        obtain ⟨z, t1, t2⟩ := S1 p q r x y hp hq hr a1 b1
        refine ⟨fun h _ => ?_, fun _ h => ?_⟩
        · unfold TV at t1; rw [if_pos h] at t1; cases t1
          rw [Int64.lt_iff_toInt_lt, e]; show ¬ x + y < 0; omega
        · unfold lv
          by_cases hpq : p = q
          · subst hpq
            rw [if_pos rfl, Int64.lt_iff_toInt_lt, hf_ok, e]
            unfold TV at t1
            rw [if_neg h] at t1
            rcases h2 p hp with ⟨c1, -⟩ | ⟨w, c1, c2, -⟩
            · rw [c1] at t1; cases t1
            · rw [c1] at t1; cases t1; rw [c2]; omega
          · rw [if_neg hpq, Int64.lt_iff_toInt_lt, e, low p q z hp hq hpq h t1]; omega
theorem CC.ai {g : Nat → Int64} {s : Nat} (h : AI g s) : CC g s :=
  ccT (V := fun _ _ => none) (fun p q hp hq _ _ => Or.inl ⟨rfl, h.g hp hq⟩) (fun p hp => Or.inl ⟨rfl, h.g hp hp⟩) (fun _ _ _ _ _ _ _ _ h => by cases h) (fun _ _ _ _ _ _ h => by cases h)
theorem v0_H1 {a t : Nat} {v : Int} (hat : a ≠ ne t) : ∀ p q r x y, p < 12 → q < 12 → r < 12 → V0 a t v p r = some x → V0 a t v (ne r) q = some y → ∃ z, TV (V0 a t v) p q = some z ∧ z ≤ x + y := by
  have hta : t ≠ ne a := fun e => hat (by rw [e, ne_ne])
  intro p q r x y hp hq hr hx hy
  exfalso
  unfold V0 at hx hy
  split at hx
  · split at hy
    · rename_i h1 h2
      have na := ne_no a
      have nt := ne_no t
      rcases h1 with ⟨-, e1⟩ | ⟨-, e1⟩ <;> subst e1 <;> rcases h2 with ⟨e2, -⟩ | ⟨e2, -⟩
      · exact hat e2.symm
      · exact nt e2.symm
      · exact na e2.symm
      · exact hta e2.symm
    · cases hy
  · cases hx
theorem v0_H3 {a t : Nat} {v : Int} (hev : a = t → v % 2 = 0) : ∀ p q x y, p < 12 → q < 12 → V0 a t v p p = some x → V0 a t v q q = some y → ∃ z, TV (V0 a t v) p q = some z ∧ z ≤ x / 2 + y / 2 := by
  intro p q x y hp hq hx hy
  unfold V0 at hx hy
  split at hx
  · split at hy
    · rename_i h1 h2
      have e1 : a = t ∧ p = a ∧ q = a := by omega
      obtain ⟨e1, e2, e3⟩ := e1
      have := hev e1
      cases hx; cases hy
      refine ⟨v, ?_, by omega⟩
      subst e2; subst e3
      unfold TV V0
      rw [if_neg (ne_no q), if_pos (Or.inl ⟨rfl, e1⟩)]
    · cases hy
  · cases hx
theorem v2_inv {a : Nat} {l u : Int} : ∀ p q x, V2 a l u p q = some x → (p = a ∧ q = a ∧ x = 2 * u) ∨ (p = ne a ∧ q = ne a ∧ x = -2 * l) := by
  intro p q x hx
  unfold V2 at hx
  split at hx
  · rename_i h1; cases hx; exact Or.inl ⟨h1.1, h1.2, rfl⟩
  · split at hx
    · rename_i h1; cases hx; exact Or.inr ⟨h1.1, h1.2, rfl⟩
    · cases hx
theorem v2_H {a : Nat} {l u : Int} (hlu : l ≤ u) : (∀ p q r x y, p < 12 → q < 12 → r < 12 → V2 a l u p r = some x → V2 a l u (ne r) q = some y → ∃ z, TV (V2 a l u) p q = some z ∧ z ≤ x + y) ∧ (∀ p q x y, p < 12 → q < 12 → V2 a l u p p = some x → V2 a l u q q = some y → ∃ z, TV (V2 a l u) p q = some z ∧ z ≤ x / 2 + y / 2) := by
  have na := ne_no a
  have z1 : TV (V2 a l u) a (ne a) = some 0 := by unfold TV; rw [if_pos rfl]
  have z2 : TV (V2 a l u) (ne a) a = some 0 := by unfold TV; rw [if_pos (ne_ne a).symm]
  have z3 : TV (V2 a l u) a a = some (2 * u) := by unfold TV V2; rw [if_neg na, if_pos ⟨rfl, rfl⟩]
  have z4 : TV (V2 a l u) (ne a) (ne a) = some (-2 * l) := by unfold TV V2; rw [if_neg (ne_no _), if_neg (fun h => na h.1.symm), if_pos ⟨rfl, rfl⟩]
  refine ⟨fun p q r x y hp hq hr hx hy => ?_, fun p q x y hp hq hx hy => ?_⟩
  · rcases v2_inv _ _ _ hx with ⟨e1, e2, e3⟩ | ⟨e1, e2, e3⟩ <;> rcases v2_inv _ _ _ hy with ⟨d1, d2, d3⟩ | ⟨d1, d2, d3⟩
    · rw [e2] at d1; exact absurd d1 (Ne.symm na)
    · subst e1; subst d2; exact ⟨0, z1, by omega⟩
    · subst e1; subst d2; exact ⟨0, z2, by omega⟩
    · rw [e2, ne_ne] at d1; exact absurd d1 na
  · rcases v2_inv _ _ _ hx with ⟨e1, -, e3⟩ | ⟨e1, -, e3⟩ <;> rcases v2_inv _ _ _ hy with ⟨d1, -, d3⟩ | ⟨d1, -, d3⟩ <;> subst e1 <;> subst d1
    · exact ⟨_, z3, by omega⟩
    · exact ⟨_, z1, by omega⟩
    · exact ⟨_, z2, by omega⟩
    · exact ⟨_, z4, by omega⟩
def V1 (X b : Nat) (c : Int) (p q : Nat) : Option Int := if (p = X ∧ q = ne b) ∨ (p = ne b ∧ q = X) then some c else if (p = ne X ∧ q = b) ∨ (p = b ∧ q = ne X) then some (-c) else none
theorem v1_H {X b : Nat} {c : Int} (h1 : b ≠ X) (h2 : b ≠ ne X) : (∀ p q r x y, p < 12 → q < 12 → r < 12 → V1 X b c p r = some x → V1 X b c (ne r) q = some y → ∃ z, TV (V1 X b c) p q = some z ∧ z ≤ x + y) ∧ (∀ p q x y, p < 12 → q < 12 → V1 X b c p p = some x → V1 X b c q q = some y → ∃ z, TV (V1 X b c) p q = some z ∧ z ≤ x / 2 + y / 2) := by
  have nX := ne_no X
  have nb := ne_no b
  have h3 : ne b ≠ X := fun e => h2 (by rw [← e, ne_ne])
  have h4 : ne b ≠ ne X := fun e => h1 (by rw [← ne_ne b, e, ne_ne])
  have inv : ∀ p q x, V1 X b c p q = some x → (p = X ∧ q = ne b ∧ x = c) ∨ (p = ne b ∧ q = X ∧ x = c) ∨ (p = ne X ∧ q = b ∧ x = -c) ∨ (p = b ∧ q = ne X ∧ x = -c) := by
    intro p q x hx
    unfold V1 at hx
    split at hx
    · rename_i e; cases hx; rcases e with ⟨e1, e2⟩ | ⟨e1, e2⟩
      · exact Or.inl ⟨e1, e2, rfl⟩
      · exact Or.inr (Or.inl ⟨e1, e2, rfl⟩)
    · split at hx
      · rename_i e; cases hx; rcases e with ⟨e1, e2⟩ | ⟨e1, e2⟩
        · exact Or.inr (Or.inr (Or.inl ⟨e1, e2, rfl⟩))
        · exact Or.inr (Or.inr (Or.inr ⟨e1, e2, rfl⟩))
      · cases hx
  have tz0 : ∀ p q, q = ne p → TV (V1 X b c) p q = some 0 := fun p q e => by unfold TV; rw [if_pos e]
  refine ⟨fun p q r x y hp hq hr hx hy => ?_, fun p q x y hp hq hx hy => ?_⟩
  · rcases inv _ _ _ hx with ⟨e1, e2, e3⟩ | ⟨e1, e2, e3⟩ | ⟨e1, e2, e3⟩ | ⟨e1, e2, e3⟩ <;> rcases inv _ _ _ hy with ⟨d1, d2, d3⟩ | ⟨d1, d2, d3⟩ | ⟨d1, d2, d3⟩ | ⟨d1, d2, d3⟩ <;> subst e2 <;> (try rw [ne_ne] at d1) <;> first
      | exact absurd d1 h1
      | exact absurd d1 h2
      | exact absurd d1 h3
      | exact absurd d1 h4
      | exact absurd d1.symm h1
      | exact absurd d1.symm h2
      | exact absurd d1.symm h3
      | exact absurd d1.symm h4
      | exact absurd d1 nX
      | exact absurd d1 nb
      | exact absurd d1.symm nX
      | exact absurd d1.symm nb
      | exact ⟨0, tz0 _ _ (by simp only [e1, d2, ne_ne]), by omega⟩
  · exfalso
    rcases inv _ _ _ hx with ⟨e1, e2, e3⟩ | ⟨e1, e2, e3⟩ | ⟨e1, e2, e3⟩ | ⟨e1, e2, e3⟩
    · exact h3 (e2.symm.trans e1)
    · exact h3 (e1.symm.trans e2)
    · exact h2 (e2.symm.trans e1)
    · exact h2 (e1.symm.trans e2)
theorem n64 {c : Int32} (h : okN c) : (-c.toInt64).toInt = -c.toInt := by
  obtain ⟨h1, h2⟩ := h.b
  rw [Int64.toInt_neg, Int32.toInt_toInt64]
  exact Int.bmod_eq_of_le_mul_two (by omega) (by omega)
theorem cc_0 {f : Nat → Int64} {s a t : Nat} {c : Int32} (h : AI f s) (ha : a < 12) (ht : t < 12) (hat : a ≠ ne t) (hc : okN c) : CC (stf f s a t c.toInt64) s := by
  obtain ⟨c1, c2⟩ := hc.b
  have hta : t ≠ ne a := fun e => hat (by rw [e, ne_ne])
  refine ccT (V := V0 a t (if a = t then 2 * c.toInt else c.toInt)) (fun p q hp hq hpq hne => ?_) (fun p hp => ?_) (v0_H1 hat) (v0_H3 (fun e => by rw [if_pos e]; omega))
  · rw [stf_e hp hq ha ht]
    unfold V0
    by_cases e : (p = a ∧ q = t) ∨ (p = t ∧ q = a)
    · rw [if_pos e, if_pos e, if_neg (by omega)]
      exact Or.inr ⟨_, rfl, Int32.toInt_toInt64 c, by omega, by omega⟩
    · rw [if_neg e, if_neg e]; exact Or.inl ⟨rfl, h.g hp hq⟩
  · rw [stf_e hp hp ha ht]
    unfold V0
    by_cases e : (p = a ∧ p = t) ∨ (p = t ∧ p = a)
    · rw [if_pos e, if_pos e, if_pos (by omega)]
      exact Or.inr ⟨_, rfl, Int32.toInt_toInt64 c, by omega, by omega⟩
    · rw [if_neg e, if_neg e]; exact Or.inl ⟨rfl, h.g hp hp⟩
theorem cc_2 {f : Nat → Int64} {s a : Nat} {l c : Int32} (h : AI f s) (ha : a < 6) (hl : okN l) (hc : okN c) (hlc : l ≤ c) : CC (stf (stf f s (2 * a) (2 * a) c.toInt64) s (2 * a + 1) (2 * a + 1) (-l.toInt64)) s := by
  obtain ⟨c1, c2⟩ := hc.b
  obtain ⟨l1, l2⟩ := hl.b
  rw [Int32.le_iff_toInt_le] at hlc
  have n1 : ne (2 * a) = 2 * a + 1 := by unfold ne; rw [if_pos (by omega)]
  refine ccT (V := V2 (2 * a) l.toInt c.toInt) (fun p q hp hq hpq hne => ?_) (fun p hp => ?_) (v2_H hlc).1 (v2_H hlc).2
  · rw [stf_e hp hq (by omega) (by omega), stf_e hp hq (by omega) (by omega), if_neg (by omega), if_neg (by omega)]
    unfold V2
    rw [n1, if_neg (by omega), if_neg (by omega)]; exact Or.inl ⟨rfl, h.g hp hq⟩
  · rw [stf_e hp hp (by omega) (by omega), stf_e hp hp (by omega) (by omega)]
    unfold V2
    rw [n1]
    by_cases e1 : p = 2 * a + 1
    · rw [if_pos (by omega), if_neg (by omega), if_pos ⟨e1, e1⟩]
      exact Or.inr ⟨-l.toInt, by congr 1; omega, n64 hl, by omega, by omega⟩
    · rw [if_neg (by omega)]
      by_cases e2 : p = 2 * a
      · rw [if_pos (by omega), if_pos ⟨e2, e2⟩]
        exact Or.inr ⟨c.toInt, rfl, Int32.toInt_toInt64 c, by omega, by omega⟩
      · rw [if_neg (by omega), if_neg (by omega), if_neg (by omega)]; exact Or.inl ⟨rfl, h.g hp hp⟩
theorem cc_1 {f : Nat → Int64} {s a b : Nat} {c : Int32} (h : AI f s) (ha : a < 6) (hb : b < 12) (hab : ¬ b / 2 = a) (hc : okN c) : CC (stf (stf f s (2 * a) (ne b) c.toInt64) s (2 * a + 1) b (-c.toInt64)) s := by
  obtain ⟨c1, c2⟩ := hc.b
  have n1 : ne (2 * a) = 2 * a + 1 := by unfold ne; rw [if_pos (by omega)]
  have nb := ne_lt hb
  have nb2 : ne b / 2 = b / 2 := by unfold ne; split <;> omega
  have nbb := ne_no b
  have H := v1_H (X := 2 * a) (b := b) (c := c.toInt) (by omega) (by rw [n1]; omega)
  refine ccT (V := V1 (2 * a) b c.toInt) (fun p q hp hq hpq hne => ?_) (fun p hp => ?_) H.1 H.2
  · rw [stf_e hp hq (by omega) hb, stf_e hp hq (by omega) nb]
    unfold V1
    rw [n1]
    by_cases e1 : (p = 2 * a + 1 ∧ q = b) ∨ (p = b ∧ q = 2 * a + 1)
    · rw [if_pos e1, if_neg (by omega), if_pos e1]
      exact Or.inr ⟨_, rfl, n64 hc, by omega, by omega⟩
    · rw [if_neg e1]
      by_cases e2 : (p = 2 * a ∧ q = ne b) ∨ (p = ne b ∧ q = 2 * a)
      · rw [if_pos e2, if_pos e2]; exact Or.inr ⟨_, rfl, Int32.toInt_toInt64 c, by omega, by omega⟩
      · rw [if_neg e2, if_neg e2, if_neg e1]; exact Or.inl ⟨rfl, h.g hp hq⟩
  · rw [stf_e hp hp (by omega) hb, stf_e hp hp (by omega) nb]
    unfold V1
    rw [n1, if_neg (by omega), if_neg (by omega), if_neg (by omega), if_neg (by omega)]; exact Or.inl ⟨rfl, h.g hp hp⟩
theorem smI {x y : Int64} (h : x = INF) : sm x y = INF := by unfold sm; rw [if_pos (Or.inl h)]
theorem AI.st2 {f : Nat → Int64} {s p q : Nat} {c : Int64} (h : AI f s) (hc : c = INF) : AI (stf f s p q c) s := by rw [hc]; exact h.st
theorem AI.oth {f : Nat → Int64} {s t p q : Nat} {c : Int64} (h : AI f t) (hp : p < 12) (hq : q < 12) (hst : s ≠ t) : AI (stf f s p q c) t := fun k hk => by rw [stf_o (by omega) (by omega)]; exact h k hk
theorem AI.ld {f g : Nat → Int64} {t a : Nat} (hL : Ld f g t a 144) (h : AI f a) : AI g t := fun k hk => (hL.1 k hk).trans (h k hk)
theorem AI.ldo {f g : Nat → Int64} {t a s : Nat} (hL : Ld f g t a 144) (hst : s ≠ t) (h : AI f s) : AI g s := fun k hk => (hL.2 _ (by omega)).trans (h k hk)
theorem okN.inf {c : Int32} (h : okN c) : c.toInt64 < INF := by
  obtain ⟨h1, h2⟩ := h.b
  rw [Int64.lt_iff_toInt_lt, Int32.toInt_toInt64, INF_toInt]; omega
def AA (f : Nat → Int64) : Prop := ∀ s, s < 26 → AI f s
theorem AA.x {f : Nat → Int64} (h : AA f) {x : Nat} (hx : x < 3744) : f x = INF := by
  have h1 := h (x / 144) (by omega) (x % 144) (by omega)
  rw [show 144 * (x / 144) + x % 144 = x by omega] at h1
  exact h1
theorem AA.up {f : Nat → Int64} {x : Nat} {c : Int64} (h : AA f) (hc : c = INF) : AA (vp_updL f x c) := fun s hs k hk => by
  by_cases e : 144 * s + k = x
  · rw [e, pk_uLs, hc]
  · rw [pk_uLn e]; exact h s hs k hk
theorem AA.ld {f g : Nat → Int64} {t a : Nat} (h : AA f) (hL : Ld f g t a 144) (ha : a < 26) : AA g := fun s hs => by
  by_cases e : s = t
  · subst e; exact AI.ld hL (h a ha)
  · exact AI.ldo hL e (h s hs)
theorem AA.al {f g : Nat → Int64} {t : Nat} (h : AA f) (hL : Al4 f g t 144) : AA g := fun s hs k hk => by
  by_cases e : s = t
  · subst e; exact hL.1 k hk
  · rw [hL.2 _ (by omega)]; exact h s hs k hk
theorem Zs.ld {f g : Nat → Int64} {t a : Nat} (hL : Ld f g t a 144) (h : AI f a) : Zs g t := fun k hk => Or.inl ((hL.1 k hk).trans (h k hk))
