/-! The model in any state: its tables are symmetric, its marks 0 or 1 -/
def Sym (f : Nat → Int64) : Prop := ∀ s p q, s < 26 → p < 12 → q < 12 → f (144 * s + 12 * p + q) = f (144 * s + 12 * q + p)
theorem stf_v (f : Nat → Int64) (s p q : Nat) (c : Int64) (x : Nat) : stf f s p q c x = if x = 144 * s + 12 * p + q ∨ x = 144 * s + 12 * q + p then c else f x := by
  by_cases h1 : x = 144 * s + 12 * q + p
  · rw [if_pos (Or.inr h1), h1, (stf_a f s p q c).2]
  · by_cases h2 : x = 144 * s + 12 * p + q
    · rw [if_pos (Or.inl h2), h2, (stf_a f s p q c).1]
    · rw [if_neg (fun h => h.elim h2 h1), stf_o h2 h1]
theorem Sym.st {f : Nat → Int64} {s p q : Nat} {c : Int64} (h : Sym f) (hp : p < 12) (hq : q < 12) : Sym (stf f s p q c) := by
  intro s1 p1 q1 h1 h2 h3
  rw [stf_v, stf_v]
  by_cases e : 144 * s1 + 12 * p1 + q1 = 144 * s + 12 * p + q ∨ 144 * s1 + 12 * p1 + q1 = 144 * s + 12 * q + p
  · rw [if_pos e, if_pos (by omega)]
  · rw [if_neg e, if_neg (by omega)]
    exact h s1 p1 q1 h1 h2 h3
theorem Sym.ld {f g : Nat → Int64} {t a : Nat} (h : Sym f) (hL : Ld f g t a 144) (ha : a < 26) : Sym g := by
  intro s p q h1 h2 h3
  by_cases e : s = t
  · subst e
    have e1 := hL.1 (12 * p + q) (by omega)
    have e2 := hL.1 (12 * q + p) (by omega)
    rw [← Nat.add_assoc, ← Nat.add_assoc] at e1 e2
    rw [e1, e2]
    exact h a p q ha h2 h3
  · rw [hL.2 _ (by omega), hL.2 _ (by omega)]
    exact h s p q h1 h2 h3
theorem Sym.al {f g : Nat → Int64} {t : Nat} (h : Sym f) (hL : Al4 f g t 144) : Sym g := by
  intro s p q h1 h2 h3
  by_cases e : s = t
  · subst e
    have e1 := hL.1 (12 * p + q) (by omega)
    have e2 := hL.1 (12 * q + p) (by omega)
    rw [← Nat.add_assoc] at e1 e2
    rw [e1, e2]
  · rw [hL.2 _ (by omega), hL.2 _ (by omega)]
    exact h s p q h1 h2 h3
/-- what a table's cells come to -/
def tn (x : Int64) : Nat := (x.toInt + 9223372036854775808).toNat
theorem tn_lt {x y : Int64} (h : x < y) : tn x < tn y := by
  have h1 := Int64.lt_iff_toInt_lt.mp h
  have h2 := x.le_toInt
  unfold tn
  omega
def msum (f : Nat → Int64) (s : Nat) : Nat → Nat
  | 0 => 0
  | n + 1 => msum f s n + tn (f (144 * s + n))
theorem msum_le {f g : Nat → Int64} {s : Nat} (h : ∀ j, j < 144 → tn (g (144 * s + j)) ≤ tn (f (144 * s + j))) : ∀ n, n ≤ 144 → msum g s n ≤ msum f s n := by
  intro n
  induction n with
  | zero => intro _; exact Nat.le_refl _
  | succ n ih => intro hn; exact Nat.add_le_add (ih (by omega)) (h n (by omega))
theorem msum_lt {f g : Nat → Int64} {s i : Nat} (h : ∀ j, j < 144 → tn (g (144 * s + j)) ≤ tn (f (144 * s + j))) (h2 : tn (g (144 * s + i)) < tn (f (144 * s + i))) : ∀ n, i < n → n ≤ 144 → msum g s n < msum f s n := by
  intro n
  induction n with
  | zero => intro h9; exact absurd h9 (Nat.not_lt_zero _)
  | succ n ih =>
    intro h3 hn
    by_cases e : i = n
    · subst e
      exact Nat.add_lt_add_of_le_of_lt (msum_le h i (by omega)) h2
    · exact Nat.add_lt_add_of_lt_of_le (ih (by omega) (by omega)) (h n (by omega))
theorem ls_g {f : Nat → Int64} {s p q : Nat} {c : Int64} (hs : Sym f) (h1 : s < 26) (hp : p < 12) (hq : q < 12) (h : c < f (144 * s + 12 * p + q)) : msum (stf f s p q c) s 144 + 1 ≤ msum f s 144 := by
  have hsy := hs s p q h1 hp hq
  refine msum_lt (i := 12 * p + q) (fun j hj => ?_) ?_ 144 (by omega) (by omega)
  · rw [stf_v]
    split
    · rename_i e
      rcases e with e | e
      · rw [e]; exact Nat.le_of_lt (tn_lt h)
      · rw [e, ← hsy]; exact Nat.le_of_lt (tn_lt h)
    · exact Nat.le_refl _
  · rw [← Nat.add_assoc, (stf_a f s p q c).1]; exact tn_lt h
/-- a table made cell by cell of two of them -/
def Tw (f g0 g : Nat → Int64) (t a : Nat) (op : Int64 → Int64 → Int64) (n : Nat) : Prop := (∀ j, j < n → g (144 * t + j) = op (f (144 * a + j)) (g0 (144 * t + j))) ∧ ∀ x, (x < 144 * t ∨ 144 * t + n ≤ x) → g x = g0 x
theorem Tw.z (f g0 : Nat → Int64) (t a : Nat) (op : Int64 → Int64 → Int64) : Tw f g0 g0 t a op 0 := ⟨fun _ h => absurd h (Nat.not_lt_zero _), fun _ _ => rfl⟩
theorem Tw.s {f g0 g : Nat → Int64} {t a n : Nat} {op : Int64 → Int64 → Int64} {x : Int64} (h : Tw f g0 g t a op n) (e : x = op (f (144 * a + n)) (g0 (144 * t + n))) : Tw f g0 (vp_updL g (144 * t + n) x) t a op (n + 1) := by
  refine ⟨fun j hj => ?_, fun y hy => ?_⟩
  · by_cases ej : j = n
    · subst ej; rw [pk_uLs, e]
    · rw [pk_uLn (by omega)]; exact h.1 j (by omega)
  · rw [pk_uLn (by omega)]; exact h.2 y (by omega)
theorem Sym.tw {f g0 g : Nat → Int64} {t a : Nat} {op : Int64 → Int64 → Int64} (hf : Sym f) (h0 : Sym g0) (hT : Tw f g0 g t a op 144) (ha : a < 26) (ht : t < 26) : Sym g := by
  intro s p q h1 h2 h3
  by_cases e : s = t
  · subst e
    have e1 := hT.1 (12 * p + q) (by omega)
    have e2 := hT.1 (12 * q + p) (by omega)
    rw [← Nat.add_assoc, ← Nat.add_assoc] at e1 e2
    rw [e1, e2, hf a p q ha h2 h3, h0 s p q h1 h2 h3]
  · rw [hT.2 _ (by omega), hT.2 _ (by omega)]
    exact h0 s p q h1 h2 h3
def Th (g0 g : Nat → Int64) (t : Nat) (h : Nat → Int64) (n : Nat) : Prop := (∀ j, j < n → g (144 * t + j) = h j) ∧ ∀ x, (x < 144 * t ∨ 144 * t + n ≤ x) → g x = g0 x
theorem Th.z (g0 : Nat → Int64) (t : Nat) (h : Nat → Int64) : Th g0 g0 t h 0 := ⟨fun _ h => absurd h (Nat.not_lt_zero _), fun _ _ => rfl⟩
theorem Th.s {g0 g h : Nat → Int64} {t n : Nat} {x : Int64} (hT : Th g0 g t h n) (e : x = h n) : Th g0 (vp_updL g (144 * t + n) x) t h (n + 1) := by
  refine ⟨fun j hj => ?_, fun y hy => ?_⟩
  · by_cases ej : j = n
    · subst ej; rw [pk_uLs, e]
    · rw [pk_uLn (by omega)]; exact hT.1 j (by omega)
  · rw [pk_uLn (by omega)]; exact hT.2 y (by omega)
theorem Sym.j {g : Nat → Int64} (h : Sym g) {s p q : Nat} (hs : s < 26) (hp : p < 12) (hq : q < 12) : g (144 * s + (12 * p + q)) = g (144 * s + (12 * q + p)) := by
  rw [← Nat.add_assoc, ← Nat.add_assoc]; exact h s p q hs hp hq
theorem Sym.th {g0 g h : Nat → Int64} {t : Nat} (h0 : Sym g0) (hT : Th g0 g t h 144) (hh : ∀ p q, p < 12 → q < 12 → h (12 * p + q) = h (12 * q + p)) : Sym g := by
  intro s p q h1 h2 h3
  by_cases e : s = t
  · subst e
    have e1 := hT.1 (12 * p + q) (by omega)
    have e2 := hT.1 (12 * q + p) (by omega)
    rw [← Nat.add_assoc] at e1 e2
    rw [e1, e2]; exact hh p q h2 h3
  · rw [hT.2 _ (by omega), hT.2 _ (by omega)]
    exact h0 s p q h1 h2 h3
/-- the greater, the smaller, and widening's cell -/
def hJ (g : Nat → Int64) (b : Nat) (j : Nat) : Int64 := if g (144 * b + j) ≤ g (144 * 22 + j) then g (144 * 22 + j) else g (144 * b + j)
def hM (g : Nat → Int64) (b : Nat) (j : Nat) : Int64 := if g (144 * b + j) < g (144 * 22 + j) then g (144 * b + j) else g (144 * 22 + j)
def hW (g : Nat → Int64) (a b : Nat) (j : Nat) : Int64 := if g (144 * a + j) < g (144 * b + j) then INF else g (144 * a + j)
theorem hJ_s {g : Nat → Int64} {b : Nat} (h : Sym g) (hb : b < 26) : ∀ p q, p < 12 → q < 12 → hJ g b (12 * p + q) = hJ g b (12 * q + p) := by
  intro p q hp hq; unfold hJ; rw [h.j hb hp hq, h.j (s := 22) (by omega) hp hq]
theorem hM_s {g : Nat → Int64} {b : Nat} (h : Sym g) (hb : b < 26) : ∀ p q, p < 12 → q < 12 → hM g b (12 * p + q) = hM g b (12 * q + p) := by
  intro p q hp hq; unfold hM; rw [h.j hb hp hq, h.j (s := 22) (by omega) hp hq]
theorem hW_s {g : Nat → Int64} {a b : Nat} (h : Sym g) (ha : a < 26) (hb : b < 26) : ∀ p q, p < 12 → q < 12 → hW g a b (12 * p + q) = hW g a b (12 * q + p) := by
  intro p q hp hq; unfold hW; rw [h.j hb hp hq, h.j ha hp hq]
theorem Th.jt {g0 g : Nat → Int64} {b n : Nat} {x y : Int64} (hT : Th g0 g 22 (hJ g0 b) n) (hb : b ≠ 22) (hn : n < 144) (ex : x = g (144 * b + n)) (ey : y = g (144 * 22 + n)) : (x ≤ y → y = hJ g0 b n) ∧ (¬ x ≤ y → x = hJ g0 b n) := by
  rw [hT.2 _ (by omega)] at ex ey
  subst ex; subst ey
  exact ⟨fun h => (if_pos h).symm, fun h => (if_neg h).symm⟩
theorem Th.mt {g0 g : Nat → Int64} {b n : Nat} {x y : Int64} (hT : Th g0 g 22 (hM g0 b) n) (hb : b ≠ 22) (hn : n < 144) (ex : x = g (144 * b + n)) (ey : y = g (144 * 22 + n)) : (x < y → x = hM g0 b n) ∧ (¬ x < y → y = hM g0 b n) := by
  rw [hT.2 _ (by omega)] at ex ey
  subst ex; subst ey
  exact ⟨fun h => (if_pos h).symm, fun h => (if_neg h).symm⟩
theorem Th.wt {g0 g : Nat → Int64} {a b n : Nat} {x y : Int64} (hT : Th g0 g 23 (hW g0 a b) n) (ha : a ≠ 23) (hb : b ≠ 23) (hn : n < 144) (ex : x = g (144 * b + n)) (ey : y = g (144 * a + n)) : (y < x → INF = hW g0 a b n) ∧ (¬ y < x → y = hW g0 a b n) := by
  rw [hT.2 _ (by omega)] at ex ey
  subst ex; subst ey
  exact ⟨fun h => (if_pos h).symm, fun h => (if_neg h).symm⟩
theorem tb_01 {t : Nat} (h : t ≤ 1) : nI t = 0 ∨ nI t = 1 := by
  rcases (show t = 0 ∨ t = 1 by omega) with e | e
  · subst e; exact Or.inl rfl
  · subst e; exact Or.inr rfl
/-- the steps that stand say an action each -/
def SM (i1 i2 i3 i4 i5 i6 : Nat → Int32) (n : Nat) : Prop := ∀ j, j < n → ∃ p q : Nat, p < 8 ∧ q < 8 ∧ i1 j = nI p ∧ i2 j = nI q ∧ okA (i3 j) (i4 j) (i5 j) (i6 j)
theorem SM.s {i1 i2 i3 i4 i5 i6 : Nat → Int32} {n p q : Nat} {kd a b c : Int32} (h : SM i1 i2 i3 i4 i5 i6 n) (hp : p < 8) (hq : q < 8) (ho : okA kd a b c) : SM (upd i1 n (nI p)) (upd i2 n (nI q)) (upd i3 n kd) (upd i4 n a) (upd i5 n b) (upd i6 n c) (n + 1) := by
  intro j hj
  by_cases e : j = n
  · subst e
    exact ⟨p, q, hp, hq, upd_s _ _ _, upd_s _ _ _, by rw [upd_s, upd_s, upd_s, upd_s]; exact ho⟩
  · obtain ⟨p', q', h1, h2, h3, h4, h5⟩ := h j (by omega)
    exact ⟨p', q', h1, h2, (upd_n e).trans h3, (upd_n e).trans h4, by rw [upd_n e, upd_n e, upd_n e, upd_n e]; exact h5⟩
/-! places: what divides is not 0 -/
def wd (lo hi : Nat → Int64) (j : Nat) : Int64 := hi j - lo j + 1
def Dv (lo hi : Nat → Int64) (m : Int64) (n : Nat) : Prop := ∀ j, j < n → (wd lo hi j).toInt32 = 0 → m.toInt32 = 0
theorem Dv.s {lo hi : Nat → Int64} {m m' x y : Int64} {n : Nat} (h : Dv lo hi m n) (e : m' = m * (x + y + 1)) : Dv (vp_updL lo n (-y)) (vp_updL hi n x) m' (n + 1) := by
  intro j hj hw
  rw [e, Int64.toInt32_mul]
  by_cases ej : j = n
  · subst ej
    have hw2 : (x + y + 1).toInt32 = 0 := by
      have e2 : wd (vp_updL lo j (-y)) (vp_updL hi j x) j = x + y + 1 := by
        unfold wd; rw [pk_uLs, pk_uLs, Int64.sub_eq_add_neg, Int64.neg_neg]
      rw [← e2]; exact hw
    rw [hw2, Int32.mul_zero]
  · have hw2 : (wd lo hi j).toInt32 = 0 := by
      unfold wd at hw ⊢
      rw [pk_uLn ej, pk_uLn ej] at hw; exact hw
    rw [h j (by omega) hw2, Int32.zero_mul]
theorem kI {k : Nat} (hk : k ≤ 4096) : (nI k).toInt64.toInt = k := by
  have h1 : (nI k).toInt = k := by
    show (Int32.ofNat k).toInt = k
    rw [Int32.toInt_ofNat_of_lt (by omega)]
  rw [Int32.toInt_toInt64, h1]
theorem Dv.nz {lo hi : Nat → Int64} {m : Int64} {k j : Nat} (h : Dv lo hi m 6) (hm : m ≤ 4096) (hk : k ≤ 4096) (hl : ¬ m ≤ (nI k).toInt64) (hj : j < 6) : ¬ (hi j - lo j + 1).toInt32 = 0 := by
  intro hw
  have h0 := h j hj hw
  rw [Int64.le_iff_toInt_le] at hm hl
  rw [kI hk] at hl
  have h4 : (4096 : Int64).toInt = 4096 := by decide
  rw [h4] at hm
  have e1 : m.toInt32.toInt = m.toInt := by
    rw [Int64.toInt_toInt32, Int.bmod_eq_of_le (by omega) (by omega)]
  rw [h0] at e1
  have e2 : (0 : Int32).toInt = 0 := by decide
  omega
theorem Dv.k {m : Int64} {k : Nat} (hm : m ≤ 4096) (hk : k ≤ 4096) (hl : ¬ m ≤ (nI k).toInt64) : k < 4096 := by
  rw [Int64.le_iff_toInt_le] at hm hl
  rw [kI hk] at hl
  have h4 : (4096 : Int64).toInt = 4096 := by decide
  omega
