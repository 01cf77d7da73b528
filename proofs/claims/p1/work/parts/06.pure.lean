/-! Tables of terms: the cell of p and q lies at ix p q. Closed tables; tables of zeros and infinities. -/
def ne (p : Nat) : Nat := if p % 2 = 0 then p + 1 else p - 1
theorem ne_lt {p : Nat} (h : p < 12) : ne p < 12 := by unfold ne; split <;> omega
theorem ne_ne (p : Nat) : ne (ne p) = p := by unfold ne; split <;> split <;> omega
theorem ne_no (p : Nat) : p ≠ ne p := by unfold ne; split <;> omega
theorem ne_x : ∀ p, p < 12 → nI p ^^^ nI 1 = nI (ne p) := by decide +kernel
def ix (p q : Nat) : Nat := if p < q then q * (q + 1) / 2 + p else p * (p + 1) / 2 + q
def rwc (c : Nat) : Nat := if c < 1 then 0 else if c < 3 then 1 else if c < 6 then 2 else if c < 10 then 3 else if c < 15 then 4 else if c < 21 then 5 else if c < 28 then 6 else if c < 36 then 7 else if c < 45 then 8 else if c < 55 then 9 else if c < 66 then 10 else 11
def clc (c : Nat) : Nat := c - rwc c * (rwc c + 1) / 2
theorem ix_lt0 : ∀ p, p < 12 → ∀ q, q < 12 → ix p q < 78 := by decide +kernel
theorem ix_lt {p q : Nat} (hp : p < 12) (hq : q < 12) : ix p q < 78 := ix_lt0 p hp q hq
theorem ix_row0 : ∀ p, p < 12 → ∀ q, q < 12 → rwc (ix p q) = (if p < q then q else p) ∧ clc (ix p q) = (if p < q then p else q) := by decide +kernel
theorem ix_c0 : ∀ c, c < 78 → rwc c < 12 ∧ clc c < 12 ∧ ix (rwc c) (clc c) = c := by decide +kernel
theorem ix_s (p q : Nat) : ix p q = ix q p := by
  unfold ix
  by_cases h1 : p < q
  · rw [if_pos h1, if_neg (by omega)]
  · rw [if_neg h1]
    by_cases h2 : q < p
    · rw [if_pos h2]
    · rw [if_neg h2, show p = q by omega]
theorem ix_inj {p q x y : Nat} (hp : p < 12) (hq : q < 12) (hx : x < 12) (hy : y < 12) (h : ix p q = ix x y) : (p = x ∧ q = y) ∨ (p = y ∧ q = x) := by
  obtain ⟨a1, a2⟩ := ix_row0 p hp q hq
  obtain ⟨b1, b2⟩ := ix_row0 x hx y hy
  rw [h, b1] at a1
  rw [h, b2] at a2
  by_cases h1 : p < q <;> by_cases h2 : x < y <;> simp only [h1, h2, if_true, if_false] at a1 a2 <;> omega
def tz (c : Nat) : Int64 := if clc c = ne (rwc c) then 0 else INF
theorem tz_ix {p q : Nat} (hp : p < 12) (hq : q < 12) : tz (ix p q) = if q = ne p then 0 else INF := by
  obtain ⟨a1, a2⟩ := ix_row0 p hp q hq
  unfold tz
  rw [a1, a2]
  by_cases h1 : p < q
  · rw [if_pos h1, if_pos h1]
    by_cases h2 : q = ne p
    · rw [if_pos h2, if_pos (by rw [h2, ne_ne])]
    · rw [if_neg h2, if_neg (fun h => h2 (by rw [h, ne_ne]))]
  · rw [if_neg h1, if_neg h1]
def Za (f : Nat → Int64) : Prop := ∀ c, c < 78 → f c = INF ∨ f c = 0
def Bo (f : Nat → Int64) : Prop := ∀ c, c < 78 → f c = INF ∨ (-8000000 ≤ (f c).toInt ∧ (f c).toInt ≤ 8000000)
def Ps (f : Nat → Int64) : Prop := ∀ c, c < 78 → NG (f c)
def Sn (g : Nat → Int64) : Prop := ∀ c, c < 13 → Pn (g c)
/-- a table in which no chain of two or three bounds, and no two halves, say less than a bound does -/
def Cl (f : Nat → Int64) : Prop := (∀ p q r, p < 12 → q < 12 → r < 12 → ¬ sm (f (ix p r)) (f (ix (ne r) q)) < f (ix p q)) ∧
  (∀ i j p q, i < 12 → j < 12 → p < 12 → q < 12 → ¬ sm (sm (f (ix i (ne p))) (f (ix p q))) (f (ix (ne q) j)) < f (ix i j)) ∧
  (∀ p q, p < 12 → q < 12 → ¬ sm (hf (f (ix p p))) (hf (f (ix q q))) < f (ix p q)) ∧
  (∀ p, p < 12 → ¬ f (ix p (ne p)) < 0) ∧ (∀ p q, p < 12 → q < 12 → ¬ sm (f (ix p q)) (f (ix (ne q) (ne p))) < 0)
def Ok (f : Nat → Int64) : Prop := Za f ∨ (Cl f ∧ Bo f)
/-- what a method does that only lowers: zeros stay, and only zeros come; a closed table stays as it is -/
def MD (f g : Nat → Int64) : Prop := (Za f ∧ Za g ∧ ∀ c, c < 78 → f c = 0 → g c = 0) ∨ (Cl f ∧ Bo f ∧ ∀ c, c < 78 → g c = f c)
theorem Za.of {f g : Nat → Int64} (h : Za f) (e : ∀ c, c < 78 → g c = f c) : Za g := fun c hc => by rw [e c hc]; exact h c hc
theorem Bo.of {f g : Nat → Int64} (h : Bo f) (e : ∀ c, c < 78 → g c = f c) : Bo g := fun c hc => by rw [e c hc]; exact h c hc
theorem Cl.of {f g : Nat → Int64} (h : Cl f) (e : ∀ c, c < 78 → g c = f c) : Cl g := by
  obtain ⟨h1, h2, h3, h4, h5⟩ := h
  refine ⟨fun p q r hp hq hr => ?_, fun i j p q hi hj hp hq => ?_, fun p q hp hq => ?_, fun p hp => ?_, fun p q hp hq => ?_⟩
  · rw [e _ (ix_lt hp hr), e _ (ix_lt (ne_lt hr) hq), e _ (ix_lt hp hq)]; exact h1 p q r hp hq hr
  · rw [e _ (ix_lt hi (ne_lt hp)), e _ (ix_lt hp hq), e _ (ix_lt (ne_lt hq) hj), e _ (ix_lt hi hj)]; exact h2 i j p q hi hj hp hq
  · rw [e _ (ix_lt hp hp), e _ (ix_lt hq hq), e _ (ix_lt hp hq)]; exact h3 p q hp hq
  · rw [e _ (ix_lt hp (ne_lt hp))]; exact h4 p hp
  · rw [e _ (ix_lt hp hq), e _ (ix_lt (ne_lt hq) (ne_lt hp))]; exact h5 p q hp hq
theorem Ok.of {f g : Nat → Int64} (h : Ok f) (e : ∀ c, c < 78 → g c = f c) : Ok g := h.imp (fun h => h.of e) (fun h => ⟨h.1.of e, h.2.of e⟩)
theorem MD.rf {f : Nat → Int64} (h : Ok f) : MD f f := h.imp (fun h => ⟨h, h, fun _ _ h => h⟩) (fun h => ⟨h.1, h.2, fun _ _ => rfl⟩)
theorem MD.ok {f g : Nat → Int64} (h : MD f g) : Ok g := h.imp (fun h => h.2.1) (fun h => ⟨h.1.of h.2.2, h.2.1.of h.2.2⟩)
theorem MD.za {f g : Nat → Int64} (h : MD f g) (hz : Za f) : Za g ∧ ∀ c, c < 78 → f c = 0 → g c = 0 := by
  rcases h with h | h
  · exact h.2
  · exact ⟨hz.of h.2.2, fun c hc h0 => (h.2.2 c hc).trans h0⟩
theorem MD.tr {f g h : Nat → Int64} (h1 : MD f g) (h2 : MD g h) : MD f h := by
  rcases h1 with ⟨a1, a2, a3⟩ | ⟨a1, a2, a3⟩
  · obtain ⟨b1, b2⟩ := h2.za a2
    exact Or.inl ⟨a1, b1, fun c hc h0 => b2 c hc (a3 c hc h0)⟩
  · rcases h2 with ⟨b1, b2, b3⟩ | ⟨b1, b2, b3⟩
    · exact Or.inl ⟨b1.of (fun c hc => (a3 c hc).symm), b2, fun c hc h0 => b3 c hc ((a3 c hc).trans h0)⟩
    · exact Or.inr ⟨a1, a2, fun c hc => (b3 c hc).trans (a3 c hc)⟩
theorem Pn.bo {x : Int64} (h : x = INF ∨ (-8000000 ≤ x.toInt ∧ x.toInt ≤ 8000000)) : Pn x := h.imp id (fun h => ⟨by omega, by omega⟩)
theorem Ok.pn {f : Nat → Int64} (h : Ok f) {c : Nat} (hc : c < 78) : Pn (f c) := h.elim (fun h => Pn.of (h c hc)) (fun h => Pn.bo (h.2 c hc))
theorem MD.pn {f g : Nat → Int64} (h : MD f g) {c : Nat} (hc : c < 78) : Pn (g c) := h.ok.pn hc
theorem Ok.ps {f : Nat → Int64} (h : Ok f) : Ps f := fun _ hc => (h.pn hc).ng
theorem Za.ps {f : Nat → Int64} (h : Za f) : Ps f := Ok.ps (Or.inl h)
theorem Ps.upd {f : Nat → Int64} (h : Ps f) {c : Nat} {v : Int64} (hv : NG v) : Ps (vp_updL f c v) := by
  intro x hx
  by_cases e : x = c
  · subst e; rw [pk_uLs]; exact hv
  · rw [pk_uLn e]; exact h x hx
theorem Ps.of {f g : Nat → Int64} (h : Ps f) (e : ∀ c, c < 78 → g c = f c) : Ps g := fun c hc => by rw [e c hc]; exact h c hc
theorem Sn.upd {f : Nat → Int64} (h : Sn f) {c : Nat} {v : Int64} (hv : Pn v) : Sn (vp_updL f c v) := by
  intro x hx
  by_cases e : x = c
  · subst e; rw [pk_uLs]; exact hv
  · rw [pk_uLn e]; exact h x hx
theorem Za.upd {f : Nat → Int64} (h : Za f) {c : Nat} {v : Int64} (hv : v = INF ∨ v = 0) : Za (vp_updL f c v) := by
  intro x hx
  by_cases e : x = c
  · subst e; rw [pk_uLs]; exact hv
  · rw [pk_uLn e]; exact h x hx
theorem sm_z {x y : Int64} (hx : x = INF ∨ x = 0) (hy : y = INF ∨ y = 0) : sm x y = INF ∨ sm x y = 0 := by
  unfold sm
  rcases hx with hx | hx
  · left; rw [if_pos (Or.inl hx)]
  · rcases hy with hy | hy
    · left; rw [if_pos (Or.inr hy)]
    · right; subst hx; subst hy; rfl
theorem hf_z {x : Int64} (h : x = INF ∨ x = 0) : hf x = INF ∨ hf x = 0 := by
  rcases h with h | h <;> subst h
  · left; rfl
  · right; decide
theorem ng_z {x : Int64} (h : x = INF ∨ x = 0) : ng x = INF ∨ ng x = 0 := by
  rcases h with h | h <;> subst h
  · left; decide
  · right; decide
theorem hf_ok (x : Int64) : (x >>> ((nI 1).toInt64 &&& 63)).toInt = x.toInt / 2 := by
  have e : (nI 1).toInt64 &&& 63 = 1 := by decide
  rw [e]
  have h : (x >>> (1 : Int64)).toBitVec = x.toBitVec.sshiftRight 1 := by rw [Int64.toBitVec_shiftRight]; rfl
  rw [← Int64.toInt_toBitVec, h, BitVec.toInt_sshiftRight, Int.shiftRight_eq_div_pow]
  rfl
theorem hf_pn {x : Int64} (h : Pn x) : Pn (hf x) := by
  unfold hf
  split
  · exact Pn.i
  · rename_i e
    rcases h with h | h
    · exact absurd h e
    · right; rw [hf_ok]; omega
theorem sm_ng {x y : Int64} (hx : Pn x) (hy : Pn y) : NG (sm x y) := by
  unfold sm
  split
  · exact Or.inl rfl
  · rename_i e
    obtain ⟨e1, a, b⟩ := pn_add hx hy (fun h => e (Or.inl h)) (fun h => e (Or.inr h))
    right
    rw [Int64.lt_iff_toInt_lt, e1, show (4611686018427387904 : Int64).toInt = 4611686018427387904 by decide]
    omega
theorem sm_bo {x y : Int64} (hx : x = INF ∨ (-8000000 ≤ x.toInt ∧ x.toInt ≤ 8000000)) (hy : y = INF ∨ (-8000000 ≤ y.toInt ∧ y.toInt ≤ 8000000)) : Pn (sm x y) := by
  unfold sm
  split
  · exact Pn.i
  · rename_i e
    obtain ⟨e1, -⟩ := pn_add (Pn.bo hx) (Pn.bo hy) (fun h => e (Or.inl h)) (fun h => e (Or.inr h))
    right
    rw [e1]
    rcases hx with hx | hx
    · exact absurd (Or.inl hx) e
    · rcases hy with hy | hy
      · exact absurd (Or.inr hy) e
      · omega
theorem z_lt0 {x : Int64} (h : x = INF ∨ x = 0) : ¬ x < 0 := by
  rcases h with h | h <;> subst h <;> decide
theorem Ok.nn {f : Nat → Int64} (h : Ok f) {p : Nat} (hp : p < 12) : ¬ f (ix p (ne p)) < 0 := h.elim (fun h => z_lt0 (h _ (ix_lt hp (ne_lt hp)))) (fun h => h.1.2.2.2.1 p hp)
theorem Ok.pp {f : Nat → Int64} (h : Ok f) {p q : Nat} (hp : p < 12) (hq : q < 12) : ¬ sm (f (ix p q)) (f (ix (ne q) (ne p))) < 0 := h.elim (fun h => z_lt0 (sm_z (h _ (ix_lt hp hq)) (h _ (ix_lt (ne_lt hq) (ne_lt hp))))) (fun h => h.1.2.2.2.2 p q hp hq)
theorem zup {f g : Nat → Int64} {c : Nat} {v : Int64} (hc : c < 78) (a1 : Za f) (a2 : Za g) (a3 : ∀ c, c < 78 → f c = 0 → g c = 0) (hv : v = INF ∨ v = 0) (h3 : v < g c) : Za f ∧ Za (vp_updL g c v) ∧ ∀ x, x < 78 → f x = 0 → vp_updL g c v x = 0 := by
  refine ⟨a1, a2.upd hv, fun x hx h0 => ?_⟩
  by_cases e : x = c
  · subst e
    rw [a3 x hx h0] at h3
    exact absurd h3 (z_lt0 hv)
  · rw [pk_uLn e]; exact a3 x hx h0
theorem cs_l {f g s : Nat → Int64} {p q : Nat} {r : Int32} {v : Int64} (hp : p < 12) (hq : q < 12) (h : MD f g) (hs : ∀ x, x < 12 → s x = hf (f (ix x x))) (hr : r = if sm (s p) (s q) < g (ix p q) then (1 : Int32) else 0) (hc : ¬ r = 0) (hv : v = sm (s p) (s q)) : MD f (vp_updL g (ix p q) v) := by
  have h3 := b1_1 hr hc
  subst hv
  rcases h with ⟨a1, a2, a3⟩ | ⟨a1, a2, a3⟩
  · exact Or.inl (zup (ix_lt hp hq) a1 a2 a3 (by rw [hs p hp, hs q hq]; exact sm_z (hf_z (a1 _ (ix_lt hp hp))) (hf_z (a1 _ (ix_lt hq hq)))) h3)
  · exact absurd h3 (by rw [hs p hp, hs q hq, a3 _ (ix_lt hp hq)]; exact a1.2.2.1 p q hp hq)
theorem cs_h {f s : Nat → Int64} {p : Nat} {v : Int64} (h : ∀ q, q < p → s q = hf (f (ix q q))) (hv : v = hf (f (ix p p))) : ∀ q, q < p + 1 → vp_updL s p v q = hf (f (ix q q)) := by
  intro q hq
  by_cases e : q = p
  · subst e; rw [pk_uLs]; exact hv
  · rw [pk_uLn e]; exact h q (by omega)
/-- .. with the number of the chain that goes through the cell of p and q -/
def TD (f g : Nat → Int64) (i p q : Nat) (t : Int64) : Prop := (Za f ∧ Za g ∧ (∀ c, c < 78 → f c = 0 → g c = 0) ∧ (t = INF ∨ t = 0)) ∨ (Cl f ∧ Bo f ∧ (∀ c, c < 78 → g c = f c) ∧ t = sm (f (ix i (ne p))) (f (ix p q)))
theorem TD.mk0 {f g : Nat → Int64} {i p q : Nat} {t : Int64} (hi : i < 12) (hp : p < 12) (hq : q < 12) (h : MD f g) (ht : t = sm (g (ix i (ne p))) (g (ix p q))) : TD f g i p q t := by
  have l1 := ix_lt hi (ne_lt hp)
  have l2 := ix_lt hp hq
  rcases h with ⟨a1, a2, a3⟩ | ⟨a1, a2, a3⟩
  · exact Or.inl ⟨a1, a2, a3, by rw [ht]; exact sm_z (a2 _ l1) (a2 _ l2)⟩
  · rw [a3 _ l1, a3 _ l2] at ht
    exact Or.inr ⟨a1, a2, a3, ht⟩
theorem TD.md {f g : Nat → Int64} {i p q : Nat} {t : Int64} (h : TD f g i p q t) : MD f g := h.imp (fun h => ⟨h.1, h.2.1, h.2.2.1⟩) (fun h => ⟨h.1, h.2.1, h.2.2.1⟩)
theorem TD.pn {f g : Nat → Int64} {i p q : Nat} {t : Int64} (hi : i < 12) (hp : p < 12) (hq : q < 12) (h : TD f g i p q t) : Pn t := by
  rcases h with h | h
  · exact Pn.of h.2.2.2
  · rw [h.2.2.2]; exact sm_bo (h.2.1 _ (ix_lt hi (ne_lt hp))) (h.2.1 _ (ix_lt hp hq))
theorem TD.up {f g : Nat → Int64} {i j p q : Nat} {t o v : Int64} {r : Int32} (hi : i < 12) (hj : j < 12) (hp : p < 12) (hq : q < 12) (h : TD f g i p q t) (ho : o = g (ix (ne q) j)) (hr : r = if sm t o < g (ix i j) then (1 : Int32) else 0) (hc : ¬ r = 0) (hv : v = sm t o) : TD f (vp_updL g (ix i j) v) i p q t := by
  have h3 := b1_1 hr hc
  have l1 := ix_lt hi hj
  have l2 := ix_lt (ne_lt hq) hj
  subst hv; subst ho
  rcases h with ⟨a1, a2, a3, a4⟩ | ⟨a1, a2, a3, a4⟩
  · obtain ⟨b1, b2, b3⟩ := zup l1 a1 a2 a3 (sm_z a4 (a2 _ l2)) h3
    exact Or.inl ⟨b1, b2, b3, a4⟩
  · exact absurd h3 (by rw [a3 _ l1, a3 _ l2, a4]; exact a1.2.1 i j p q hi hj hp hq)
theorem cl_1 {f g : Nat → Int64} {p q r : Nat} {a b v : Int64} {x : Int32} (hp : p < 12) (hq : q < 12) (hr : r < 12) (h : MD f g) (ha : a = g (ix p r)) (hb : b = g (ix (ne r) q)) (hx : x = if sm a b < g (ix p q) then (1 : Int32) else 0) (hc : ¬ x = 0) (hv : v = sm a b) : MD f (vp_updL g (ix p q) v) := by
  have h3 := b1_1 hx hc
  have l1 := ix_lt hp hr
  have l2 := ix_lt (ne_lt hr) hq
  subst hv; subst ha; subst hb
  rcases h with ⟨a1, a2, a3⟩ | ⟨a1, a2, a3⟩
  · exact Or.inl (zup (ix_lt hp hq) a1 a2 a3 (sm_z (a2 _ l1) (a2 _ l2)) h3)
  · exact absurd h3 (by rw [a3 _ (ix_lt hp hq), a3 _ l1, a3 _ l2]; exact a1.1 p q r hp hq hr)
/-- release -/
def RD (i p q x y : Nat) : Prop := (2 * i ≤ x ∧ x < p) ∨ (2 * i ≤ y ∧ y < p) ∨ (x = p ∧ y < q) ∨ (y = p ∧ x < q)
def Rl (f g : Nat → Int64) (i p q : Nat) : Prop := ∀ x y, x < 12 → y < 12 → (RD i p q x y → g (ix x y) = if y = ne x then 0 else INF) ∧ (¬ RD i p q x y → g (ix x y) = f (ix x y))
theorem Rl.z (f : Nat → Int64) (i : Nat) : Rl f f i (2 * i) 0 := fun x y _ _ => ⟨fun h => by unfold RD at h; omega, fun _ => rfl⟩
theorem ne_sw {x y : Nat} : y = ne x ↔ x = ne y := ⟨fun h => by rw [h, ne_ne], fun h => by rw [h, ne_ne]⟩
theorem Rl.s {f g : Nat → Int64} {i p q : Nat} {v : Int64} (hi : 2 * i ≤ p) (hp : p < 12) (hq : q < 12) (h : Rl f g i p q) (hv : v = if q = ne p then 0 else INF) : Rl f (vp_updL g (ix p q) v) i p (q + 1) := by
  intro x y hx hy
  obtain ⟨h1, h2⟩ := h x y hx hy
  by_cases e : ix x y = ix p q
  · rw [e, pk_uLs, hv]
    have hd : RD i p (q + 1) x y := by rcases ix_inj hx hy hp hq e with ⟨e1, e2⟩ | ⟨e1, e2⟩ <;> unfold RD <;> omega
    refine ⟨fun _ => ?_, fun h3 => absurd hd h3⟩
    rcases ix_inj hx hy hp hq e with ⟨e1, e2⟩ | ⟨e1, e2⟩ <;> subst e1 <;> subst e2
    · rfl
    · by_cases h9 : x = ne y
      · rw [if_pos h9, if_pos (ne_sw.mp h9)]
      · rw [if_neg h9, if_neg (fun h8 => h9 (ne_sw.mp h8))]
  · rw [pk_uLn e]
    have n1 : ¬ (x = p ∧ y = q) := fun h9 => e (by rw [h9.1, h9.2])
    have n2 : ¬ (y = p ∧ x = q) := fun h9 => e (by rw [h9.1, h9.2, ix_s])
    refine ⟨fun h3 => h1 ?_, fun h3 => h2 (fun h4 => h3 ?_)⟩
    · unfold RD at *; omega
    · unfold RD at *; omega
theorem Rl.n {f g : Nat → Int64} {i p : Nat} (hi : 2 * i ≤ p) (h : Rl f g i p 12) : Rl f g i (p + 1) 0 := by
  intro x y hx hy
  obtain ⟨h1, h2⟩ := h x y hx hy
  refine ⟨fun h3 => h1 ?_, fun h3 => h2 (fun h4 => h3 ?_)⟩
  · unfold RD at *; omega
  · unfold RD at *; omega
def rl (f : Nat → Int64) (i p q : Nat) : Int64 := if p / 2 = i ∨ q / 2 = i then (if q = ne p then 0 else INF) else f (ix p q)
theorem Rl.e {f g : Nat → Int64} {i p : Nat} (hp : p = 2 * i + 2) (h : Rl f g i p 0) : ∀ x y, x < 12 → y < 12 → g (ix x y) = rl f i x y := by
  intro x y hx hy
  subst hp
  obtain ⟨h1, h2⟩ := h x y hx hy
  unfold rl
  by_cases h3 : RD i (2 * i + 2) 0 x y
  · rw [h1 h3, if_pos (show x / 2 = i ∨ y / 2 = i by unfold RD at h3; omega)]
  · rw [h2 h3, if_neg (show ¬ (x / 2 = i ∨ y / 2 = i) by unfold RD at h3; omega)]
theorem aa_s {f g : Nat → Int64} {i : Nat} (h : ∀ x y, x < 12 → y < 12 → (x / 2 < i ∨ y / 2 < i) → f (ix x y) = tz (ix x y)) (hg : ∀ x y, x < 12 → y < 12 → g (ix x y) = rl f i x y) : ∀ x y, x < 12 → y < 12 → (x / 2 < i + 1 ∨ y / 2 < i + 1) → g (ix x y) = tz (ix x y) := by
  intro x y hx hy hi
  rw [hg x y hx hy, rl]
  by_cases h1 : x / 2 = i ∨ y / 2 = i
  · rw [if_pos h1, tz_ix hx hy]
  · rw [if_neg h1]; exact h x y hx hy (by omega)
theorem ix_all {P : Nat → Prop} (h : ∀ x y, x < 12 → y < 12 → P (ix x y)) : ∀ c, c < 78 → P c := by
  intro c hc
  obtain ⟨h1, h2, h3⟩ := ix_c0 c hc
  rw [← h3]; exact h _ _ h1 h2
theorem Ps.rel {f g : Nat → Int64} {i : Nat} (h : Ps f) (hg : ∀ x y, x < 12 → y < 12 → g (ix x y) = rl f i x y) : Ps g := by
  refine ix_all (fun x y hx hy => ?_)
  rw [hg x y hx hy]
  unfold rl
  split
  · split
    · exact Pn.z.ng
    · exact Or.inl rfl
  · exact h _ (ix_lt hx hy)
theorem zb_n {b : Nat} (h : b ≤ 1) : narrow .boolean (.int (nI b)) = .int (nI b) := by
  rcases (show b = 0 ∨ b = 1 by omega) with rfl | rfl <;> rfl
theorem zb_f {b : Nat} (h : b ≤ 1) : fits .boolean (.int (nI b)) = true := by
  rcases (show b = 0 ∨ b = 1 by omega) with rfl | rfl <;> rfl
theorem zb_r {r : Int32} (h : r = 0 ∨ r = 1) : narrow .boolean (.int r) = .int r := by rcases h with e | e <;> subst e <;> rfl
theorem zb_a {c : Prop} [Decidable c] {r : Int32} (h : r = if c then (1 : Int32) else 0) : narrow .boolean (.int r) = .int r := by rcases if_01 c with e | e <;> rw [e] at h <;> subst h <;> rfl
/-- holdToSpare -/
def HP (f g F : Nat → Int64) (p q : Nat) : Prop := (¬ g 12 < f (ix p q) ∧ ∀ c, c < 78 → F c = f c) ∨ (g 12 < f (ix p q) ∧ MD (vp_updL f (ix p q) (g 12)) F)
theorem HP.za {f g F : Nat → Int64} {p q : Nat} (hp : p < 12) (hq : q < 12) (h : HP f g F p q) (hz : Za f) (hg : g 12 = INF ∨ g 12 = 0) : Za F ∧ (∀ c, c < 78 → f c = 0 → F c = 0) ∧ (g 12 = 0 → F (ix p q) = 0) := by
  have l1 := ix_lt hp hq
  rcases h with ⟨h1, h2⟩ | ⟨h1, h2⟩
  · refine ⟨hz.of h2, fun c hc h0 => (h2 c hc).trans h0, fun e => ?_⟩
    rw [e] at h1
    rw [h2 _ l1]
    exact (hz _ l1).resolve_left (fun e => h1 (by rw [e]; decide))
  · obtain ⟨a1, a2⟩ := h2.za (hz.upd hg)
    refine ⟨a1, fun c hc h0 => a2 c hc ?_, fun e => a2 _ l1 (by rw [pk_uLs]; exact e)⟩
    by_cases e : c = ix p q
    · subst e
      rw [h0] at h1
      exact absurd h1 (z_lt0 hg)
    · rw [pk_uLn e]; exact h0
theorem Ps.up2 {f g : Nat → Int64} (h : ∀ c, c < 78 → NG (f c)) (e : ∀ c, c < 78 → g c = f c) : Ps g := Ps.of h e
theorem up_id {f g : Nat → Int64} {c : Nat} (hc : c < 78) (h : ∀ c, c < 78 → g c = f c) : ∀ x, x < 78 → vp_updL g c (g c) x = f x := by
  intro x hx
  by_cases e : x = c
  · subst e; rw [pk_uLs]; exact h x hx
  · rw [pk_uLn e]; exact h x hx
theorem up_nx {f g : Nat → Int64} {i : Nat} {v : Int64} (h : ∀ c, c < i → g c = f c) (hv : v = f i) : ∀ c, c < i + 1 → vp_updL g i v c = f c := by
  intro c hc
  by_cases e : c = i
  · subst e; rw [pk_uLs]; exact hv
  · rw [pk_uLn e]; exact h c (by omega)
def sc (f : Nat → Int64) (i : Nat) (l9 u9 : Int64) (p q : Nat) : Int64 := if p = 2 * i + 1 ∧ q = 2 * i + 1 then -2 * l9 else if p = 2 * i ∧ q = 2 * i then 2 * u9 else rl f i p q
theorem sc_e {f g : Nat → Int64} {i : Nat} {l9 u9 : Int64} (hi : i < 6) (h : ∀ x y, x < 12 → y < 12 → g (ix x y) = rl f i x y) : ∀ x y, x < 12 → y < 12 → vp_updL (vp_updL g (ix (2 * i) (2 * i)) (2 * u9)) (ix (2 * i + 1) (2 * i + 1)) (-2 * l9) (ix x y) = sc f i l9 u9 x y := by
  intro x y hx hy
  unfold sc
  by_cases e1 : x = 2 * i + 1 ∧ y = 2 * i + 1
  · rw [if_pos e1, e1.1, e1.2, pk_uLs]
  · rw [if_neg e1, pk_uLn (fun h9 => e1 (by rcases ix_inj hx hy (by omega) (by omega) h9 with h8 | h8 <;> exact h8))]
    by_cases e2 : x = 2 * i ∧ y = 2 * i
    · rw [if_pos e2, e2.1, e2.2, pk_uLs]
    · rw [if_neg e2, pk_uLn (fun h9 => e2 (by rcases ix_inj hx hy (by omega) (by omega) h9 with h8 | h8 <;> exact h8))]; exact h x y hx hy
theorem OkT {f : Nat → Int64} {V : Nat → Nat → Int64} (e : ∀ x y, x < 12 → y < 12 → f (ix x y) = V x y) (h : ∀ f2 : Nat → Int64, (∀ x y, x < 12 → y < 12 → f2 (ix x y) = V x y) → Ok f2) : Ok f := h f e
def M6 (x : Int32) : Prop := -1000000 ≤ x.toInt ∧ x.toInt ≤ 1000000
theorem M6.neg {x : Int32} (h : M6 x) : M6 (-x) := by
  unfold M6 at *
  rw [Int32.toInt_neg, Int.bmod_eq_of_le_mul_two (by omega) (by omega)]; omega
theorem M6.z : M6 (nI 0) := by unfold M6; decide
theorem M6.add {x y : Int32} (hx : M6 x) (hy : M6 y) : Pn (x + y).toInt64 := by
  unfold M6 at *
  right
  rw [Int32.toInt_toInt64, Int32.toInt_add, Int.bmod_eq_of_le_mul_two (by omega) (by omega)]; omega
theorem up12 {g : Nat → Int64} {v : Int64} : vp_updL g 12 v 12 = v := pk_uLs
theorem hp_ps {f g F : Nat → Int64} {p q : Nat} (h : HP f g F p q) (h1 : Ps f) (h2 : Ps (vp_updL f (ix p q) (g 12))) : Ps F := by
  rcases h with ⟨-, h⟩ | ⟨-, h⟩
  · exact h1.of h
  · exact h.ok.ps
theorem add_ok {x y : Int64} (h1 : -4611686018427387904 ≤ x.toInt) (h2 : x.toInt ≤ 4611686018427387903) (h3 : -4611686018427387904 ≤ y.toInt) (h4 : y.toInt ≤ 4611686018427387903) : (x + y).toInt = x.toInt + y.toInt := by
  rw [Int64.toInt_add]
  exact Int.bmod_eq_of_le_mul_two (by omega) (by omega)
/-- a cell's number -/
def Iv (x : Int64) (o : Option Int) : Prop := (o = none ∧ x = INF) ∨ ∃ z : Int, o = some z ∧ x.toInt = z ∧ -8000000 ≤ z ∧ z ≤ 8000000
theorem Iv.ne {x : Int64} {z : Int} (h : x.toInt = z) (h1 : z ≤ 4611686018427387903) : ¬ x = INF := fun e => by rw [e, INF_toInt] at h; omega
theorem sm_v {x y : Int64} (hx : x.toInt ≤ 4611686018427387903) (hx2 : -4611686018427387904 ≤ x.toInt) (hy : y.toInt ≤ 4611686018427387903) (hy2 : -4611686018427387904 ≤ y.toInt) : (sm x y).toInt = x.toInt + y.toInt := by
  unfold sm
  rw [if_neg (fun h => h.elim (Iv.ne rfl hx) (Iv.ne rfl hy))]
  exact add_ok hx2 hx hy2 hy
theorem hf_v {x : Int64} (hx : x.toInt ≤ 4611686018427387903) : (hf x).toInt = x.toInt / 2 := by
  unfold hf
  rw [if_neg (Iv.ne rfl hx)]
  exact hf_ok x
def TV (V : Nat → Nat → Option Int) (p q : Nat) : Option Int := if q = ne p then some 0 else V p q
theorem clT {f : Nat → Int64} {V : Nat → Nat → Option Int} (hf0 : ∀ p q, p < 12 → q < 12 → Iv (f (ix p q)) (TV V p q))
    (H1 : ∀ p q r x y, p < 12 → q < 12 → r < 12 → V p r = some x → V (ne r) q = some y → ∃ z, TV V p q = some z ∧ z ≤ x + y)
    (H3 : ∀ p q x y, p < 12 → q < 12 → V p p = some x → V q q = some y → ∃ z, TV V p q = some z ∧ z ≤ x / 2 + y / 2) : Cl f := by
  have S1 : ∀ p q r x y, p < 12 → q < 12 → r < 12 → TV V p r = some x → TV V (ne r) q = some y → ∃ z, TV V p q = some z ∧ z ≤ x + y := by
    intro p q r x y hp hq hr hx hy
    unfold TV at hx
    split at hx
    · rename_i e; subst e; rw [ne_ne] at hy; cases hx; exact ⟨y, hy, by omega⟩
    · rename_i e
      unfold TV at hy
      split at hy
      · rename_i e2; rw [ne_ne] at e2; subst e2; cases hy
        exact ⟨x, by unfold TV; rw [if_neg e]; exact hx, by omega⟩
      · exact H1 p q r x y hp hq hr hx hy
  have val : ∀ p q, p < 12 → q < 12 → f (ix p q) = INF ∨ ∃ z, TV V p q = some z ∧ (f (ix p q)).toInt = z ∧ -8000000 ≤ z ∧ z ≤ 8000000 := by
    intro p q hp hq
    rcases hf0 p q hp hq with ⟨-, h⟩ | ⟨z, h1, h2, h3, h4⟩
    · exact Or.inl h
    · exact Or.inr ⟨z, h1, h2, h3, h4⟩
  have out : ∀ p q, p < 12 → q < 12 → ∀ z, TV V p q = some z → (f (ix p q)).toInt = z ∧ -8000000 ≤ z ∧ z ≤ 8000000 := by
    intro p q hp hq z hz
    rcases hf0 p q hp hq with ⟨h, -⟩ | ⟨z2, h1, h2, h3, h4⟩
    · rw [h] at hz; cases hz
    · rw [h1] at hz; cases hz; exact ⟨h2, h3, h4⟩
  have sinf : ∀ x y : Int64, (x = INF ∨ y = INF) → ∀ w, ¬ sm x y < w := by
    intro x y h w; unfold sm; rw [if_pos h]; exact no_lt
  refine ⟨fun p q r hp hq hr => ?_, fun i j p q hi hj hp hq => ?_, fun p q hp hq => ?_, fun p hp => ?_, fun p q hp hq => ?_⟩
  · rcases val p r hp hr with h | ⟨x, x1, x2, x3, x4⟩
    · exact sinf _ _ (Or.inl h) _
    · rcases val (ne r) q (ne_lt hr) hq with h | ⟨y, y1, y2, y3, y4⟩
      · exact sinf _ _ (Or.inr h) _
      · obtain ⟨z, z1, z2⟩ := S1 p q r x y hp hq hr x1 y1
        obtain ⟨w1, w2, w3⟩ := out p q hp hq z z1
        rw [Int64.lt_iff_toInt_lt, sm_v (by omega) (by omega) (by omega) (by omega), w1, x2, y2]; omega
  · rcases val i (ne p) hi (ne_lt hp) with h | ⟨x, x1, x2, x3, x4⟩
    · exact sinf _ _ (Or.inl (by unfold sm; rw [if_pos (Or.inl h)])) _
    · rcases val p q hp hq with h | ⟨y, y1, y2, y3, y4⟩
      · exact sinf _ _ (Or.inl (by unfold sm; rw [if_pos (Or.inr h)])) _
      · rcases val (ne q) j (ne_lt hq) hj with h | ⟨w, v1, v2, v3, v4⟩
        · exact sinf _ _ (Or.inr h) _
        · obtain ⟨z, z1, z2⟩ := S1 i q (ne p) x y hi hq (ne_lt hp) x1 (by rw [ne_ne]; exact y1)
          obtain ⟨u, u1, u2⟩ := S1 i j q z w hi hj hq z1 v1
          obtain ⟨w1, w2, w3⟩ := out i j hi hj u u1
          have e1 : (sm (f (ix i (ne p))) (f (ix p q))).toInt = x + y := by rw [sm_v (by omega) (by omega) (by omega) (by omega), x2, y2]
          rw [Int64.lt_iff_toInt_lt, sm_v (by omega) (by omega) (by omega) (by omega), w1, e1, v2]; omega
  · rcases val p p hp hp with h | ⟨x, x1, x2, x3, x4⟩
    · exact sinf _ _ (Or.inl (by rw [h]; rfl)) _
    · rcases val q q hq hq with h | ⟨y, y1, y2, y3, y4⟩
      · exact sinf _ _ (Or.inr (by rw [h]; rfl)) _
      · have no : ∀ x, ¬ x = ne x := fun x => by unfold ne; split <;> omega
        unfold TV at x1 y1
        rw [if_neg (no p)] at x1
        rw [if_neg (no q)] at y1
        obtain ⟨z, z1, z2⟩ := H3 p q x y hp hq x1 y1
        obtain ⟨w1, w2, w3⟩ := out p q hp hq z z1
        have a1 := hf_v (x := f (ix p p)) (by omega)
        have a2 := hf_v (x := f (ix q q)) (by omega)
        rw [Int64.lt_iff_toInt_lt, sm_v (by omega) (by omega) (by omega) (by omega), w1, a1, a2, x2, y2]; omega
  · obtain ⟨w1, -⟩ := out p (ne p) hp (ne_lt hp) 0 (by unfold TV; rw [if_pos rfl])
    rw [Int64.lt_iff_toInt_lt, w1]; decide
  · rcases val p q hp hq with h | ⟨x, x1, x2, x3, x4⟩
    · exact sinf _ _ (Or.inl h) _
    · rcases val (ne q) (ne p) (ne_lt hq) (ne_lt hp) with h | ⟨y, y1, y2, y3, y4⟩
      · exact sinf _ _ (Or.inr h) _
      · obtain ⟨z, z1, z2⟩ := S1 p (ne p) q x y hp (ne_lt hp) hq x1 y1
        unfold TV at z1
        rw [if_pos rfl] at z1
        cases z1
        rw [Int64.lt_iff_toInt_lt, sm_v (by omega) (by omega) (by omega) (by omega), x2, y2]
        show ¬ (x + y < 0)
        omega
def V0 (a t : Nat) (v : Int) (p q : Nat) : Option Int := if (p = a ∧ q = t) ∨ (p = t ∧ q = a) then some v else none
def V2 (a : Nat) (l u : Int) (p q : Nat) : Option Int := if p = a ∧ q = a then some (2 * u) else if p = ne a ∧ q = ne a then some (-2 * l) else none
theorem clo_0 {f : Nat → Int64} {a t : Nat} {v : Int} (hat : a ≠ ne t) (hev : a = t → v % 2 = 0) (h : ∀ p q, p < 12 → q < 12 → Iv (f (ix p q)) (TV (V0 a t v) p q)) : Cl f := by
  have hta : t ≠ ne a := fun e => hat (by rw [e, ne_ne])
  refine clT h (fun p q r x y hp hq hr hx hy => ?_) (fun p q x y hp hq hx hy => ?_)
  · exfalso
    unfold V0 at hx hy
    split at hx
    · split at hy
      · rename_i h1 h2
        have na := ne_no a
        have nt := ne_no t
        rcases h1 with ⟨-, e1⟩ | ⟨-, e1⟩ <;> subst e1 <;> rcases h2 with ⟨e2, -⟩ | ⟨e2, -⟩
        · exact hat e2.symm
        · exact nt e2.symm
        · exact na e2.symm
        · exact hta e2.symm
      · cases hy
    · cases hx
  · unfold V0 at hx hy
    split at hx
    · split at hy
      · rename_i h1 h2
        have e1 : a = t ∧ p = a ∧ q = a := by omega
        obtain ⟨e1, e2, e3⟩ := e1
        have := hev e1
        cases hx; cases hy
        refine ⟨v, ?_, by omega⟩
        subst e2; subst e3
        unfold TV V0
        rw [if_neg (ne_no q), if_pos (Or.inl ⟨rfl, e1⟩)]
      · cases hy
    · cases hx
theorem clo_2 {f : Nat → Int64} {a : Nat} {l u : Int} (hlu : l ≤ u) (h : ∀ p q, p < 12 → q < 12 → Iv (f (ix p q)) (TV (V2 a l u) p q)) : Cl f := by
  have na := ne_no a
  have z1 : TV (V2 a l u) a (ne a) = some 0 := by unfold TV; rw [if_pos rfl]
  have z2 : TV (V2 a l u) (ne a) a = some 0 := by unfold TV; rw [if_pos (ne_ne a).symm]
  have z3 : TV (V2 a l u) a a = some (2 * u) := by unfold TV V2; rw [if_neg na, if_pos ⟨rfl, rfl⟩]
  have z4 : TV (V2 a l u) (ne a) (ne a) = some (-2 * l) := by unfold TV V2; rw [if_neg (ne_no _), if_neg (fun h => na h.1.symm), if_pos ⟨rfl, rfl⟩]
  have inv : ∀ p q x, V2 a l u p q = some x → (p = a ∧ q = a ∧ x = 2 * u) ∨ (p = ne a ∧ q = ne a ∧ x = -2 * l) := by
    intro p q x hx
    unfold V2 at hx
    split at hx
    · rename_i h1; cases hx; exact Or.inl ⟨h1.1, h1.2, rfl⟩
    · split at hx
      · rename_i h1; cases hx; exact Or.inr ⟨h1.1, h1.2, rfl⟩
      · cases hx
  refine clT h (fun p q r x y hp hq hr hx hy => ?_) (fun p q x y hp hq hx hy => ?_)
  · rcases inv _ _ _ hx with ⟨e1, e2, e3⟩ | ⟨e1, e2, e3⟩ <;> rcases inv _ _ _ hy with ⟨d1, d2, d3⟩ | ⟨d1, d2, d3⟩
    · rw [e2] at d1; exact absurd d1 (Ne.symm na)
    · subst e1; subst d2; exact ⟨0, z1, by omega⟩
    · subst e1; subst d2; exact ⟨0, z2, by omega⟩
    · rw [e2, ne_ne] at d1; exact absurd d1 na
  · rcases inv _ _ _ hx with ⟨e1, -, e3⟩ | ⟨e1, -, e3⟩ <;> rcases inv _ _ _ hy with ⟨d1, -, d3⟩ | ⟨d1, -, d3⟩ <;> subst e1 <;> subst d1
    · exact ⟨_, z3, by omega⟩
    · exact ⟨_, z1, by omega⟩
    · exact ⟨_, z2, by omega⟩
    · exact ⟨_, z4, by omega⟩
theorem iv_ok {f : Nat → Int64} {V : Nat → Nat → Option Int} (h : Cl f) (h1 : ∀ p q, p < 12 → q < 12 → Iv (f (ix p q)) (TV V p q)) : Ok f := by
  refine Or.inr ⟨h, ix_all (fun x y hx hy => ?_)⟩
  rcases h1 x y hx hy with ⟨-, e⟩ | ⟨z, -, e1, e2, e3⟩
  · exact Or.inl e
  · exact Or.inr (by rw [e1]; exact ⟨e2, e3⟩)
theorem mul2_32 {c : Int32} (h : M6 c) : (nI 2 * c).toInt = 2 * c.toInt := by
  unfold M6 at h
  rw [Int32.toInt_mul, show (nI 2).toInt = 2 by decide]
  exact Int.bmod_eq_of_le_mul_two (by omega) (by omega)
theorem mul64 {x : Int64} {w : Int} (n : Int64) (hn : n.toInt = w) (hw : w = 2 ∨ w = -2) (h1 : -1000000 ≤ x.toInt) (h2 : x.toInt ≤ 1000000) : (n * x).toInt = w * x.toInt := by
  rw [Int64.toInt_mul, hn]
  rcases hw with e | e <;> subst e <;> exact Int.bmod_eq_of_le_mul_two (by omega) (by omega)
theorem m64v {x : Int32} (h : M6 x) : (2 * x.toInt64).toInt = 2 * x.toInt ∧ (-2 * x.toInt64).toInt = -2 * x.toInt := by
  unfold M6 at h
  have e : x.toInt64.toInt = x.toInt := Int32.toInt_toInt64 x
  exact ⟨by rw [mul64 (w := 2) 2 (by decide) (Or.inl rfl) (by rw [e]; exact h.1) (by rw [e]; exact h.2), e], by rw [mul64 (w := -2) (-2) (by decide) (Or.inr rfl) (by rw [e]; exact h.1) (by rw [e]; exact h.2), e]⟩
theorem m64 {x : Int32} (h : M6 x) : True ∧ NG (2 * x.toInt64) ∧ NG (-2 * x.toInt64) := by
  obtain ⟨e1, e2⟩ := m64v h
  unfold M6 at h
  refine ⟨trivial, Pn.ng (Or.inr (by rw [e1]; omega)), Pn.ng (Or.inr (by rw [e2]; omega))⟩
theorem ac_v {a t : Nat} {c9 : Int32} {v : Int64} (hM : M6 c9) (hv : v = if a = t then (nI 2 * c9).toInt64 else c9.toInt64) : ∃ z : Int, v.toInt = z ∧ -2000000 ≤ z ∧ z ≤ 2000000 ∧ (a = t → z % 2 = 0) := by
  have h2 := mul2_32 hM
  unfold M6 at hM
  by_cases e : a = t
  · rw [if_pos e] at hv
    refine ⟨2 * c9.toInt, ?_, by omega, by omega, fun _ => by omega⟩
    rw [hv, Int32.toInt_toInt64, h2]
  · rw [if_neg e] at hv
    exact ⟨c9.toInt, by rw [hv, Int32.toInt_toInt64], by omega, by omega, fun h => absurd h e⟩
theorem ac_pn {a t : Nat} {c9 : Int32} (hM : M6 c9) : Pn (if a = t then (nI 2 * c9).toInt64 else c9.toInt64) := by
  obtain ⟨z, e, h1, h2, -⟩ := ac_v (a := a) (t := t) hM rfl
  exact Or.inr (by rw [e]; omega)
theorem ivtz {x : Int64} {p q : Nat} (hp : p < 12) (hq : q < 12) (h : x = tz (ix p q)) : Iv x (if q = ne p then some 0 else none) := by
  rw [h, tz_ix hp hq]
  split
  · exact Or.inr ⟨0, rfl, by decide, by decide, by decide⟩
  · exact Or.inl ⟨rfl, rfl⟩
theorem act_0 {f2 f1 : Nat → Int64} {a t : Nat} {c9 : Int32} {v : Int64} (hT : ∀ c, c < 78 → f2 c = tz c) (hf : ∀ c, c < 78 → f1 c = f2 c) (ha : a < 12) (ht : t < 12) (hat : a ≠ ne t) (hM : M6 c9) (hv : v = if a = t then (nI 2 * c9).toInt64 else c9.toInt64) : Ok (vp_updL f1 (ix a t) v) := by
  obtain ⟨z, v1, v2, v3, v4⟩ := ac_v hM hv
  have hta : t ≠ ne a := fun e => hat (by rw [e, ne_ne])
  have key : ∀ p q, p < 12 → q < 12 → Iv (vp_updL f1 (ix a t) v (ix p q)) (TV (V0 a t z) p q) := by
    intro p q hp hq
    by_cases e1 : ix p q = ix a t
    · rw [e1, pk_uLs]
      refine Or.inr ⟨z, ?_, v1, by omega, by omega⟩
      unfold TV V0
      rcases ix_inj hp hq ha ht e1 with ⟨e2, e3⟩ | ⟨e2, e3⟩ <;> subst e2 <;> subst e3
      · rw [if_neg hta, if_pos (Or.inl ⟨rfl, rfl⟩)]
      · rw [if_neg hat, if_pos (Or.inr ⟨rfl, rfl⟩)]
    · rw [pk_uLn e1]
      have e3 : V0 a t z p q = none := by
        unfold V0
        refine if_neg (fun h9 => e1 ?_)
        rcases h9 with ⟨h1, h2⟩ | ⟨h1, h2⟩
        · rw [h1, h2]
        · rw [h1, h2, ix_s]
      unfold TV
      rw [e3]
      exact ivtz hp hq (by rw [hf _ (ix_lt hp hq), hT _ (ix_lt hp hq)])
  exact iv_ok (clo_0 hat v4 key) key
theorem act_2 {f2 f0 f1 : Nat → Int64} {a : Nat} {l9 c9 : Int32} (hT : ∀ c, c < 78 → f2 c = tz c) (hf : ∀ c, c < 78 → f0 c = f2 c) (h1 : ∀ x y, x < 12 → y < 12 → f1 (ix x y) = sc f0 a l9.toInt64 c9.toInt64 x y) (ha : a < 6) (hL : M6 l9) (hM : M6 c9) (hlc : l9.toInt ≤ c9.toInt) : Ok f1 := by
  have n1 : ne (2 * a) = 2 * a + 1 := by unfold ne; rw [if_pos (by omega)]
  have t1 := (m64v hM).1
  have t2 := (m64v hL).2
  unfold M6 at hL hM
  have key : ∀ p q, p < 12 → q < 12 → Iv (f1 (ix p q)) (TV (V2 (2 * a) l9.toInt c9.toInt) p q) := by
    intro p q hp hq
    rw [h1 p q hp hq]
    unfold sc
    by_cases e1 : p = 2 * a + 1 ∧ q = 2 * a + 1
    · rw [if_pos e1]
      refine Or.inr ⟨_, ?_, t2, by omega, by omega⟩
      unfold TV V2
      rw [n1, e1.1, e1.2, if_neg (ne_no _), if_neg (by omega), if_pos ⟨rfl, rfl⟩]
    · rw [if_neg e1]
      by_cases e2 : p = 2 * a ∧ q = 2 * a
      · rw [if_pos e2]
        refine Or.inr ⟨_, ?_, t1, by omega, by omega⟩
        unfold TV V2
        rw [e2.1, e2.2, if_neg (ne_no _), if_pos ⟨rfl, rfl⟩]
      · rw [if_neg e2]
        have e3 : V2 (2 * a) l9.toInt c9.toInt p q = none := by unfold V2; rw [n1, if_neg (by omega), if_neg (by omega)]
        have e4 : rl f0 a p q = tz (ix p q) := by
          unfold rl
          split
          · rw [tz_ix hp hq]
          · rw [hf _ (ix_lt hp hq), hT _ (ix_lt hp hq)]
        unfold TV
        rw [e3]
        exact ivtz hp hq e4
  exact iv_ok (clo_2 (a := 2 * a) hlc key) key
