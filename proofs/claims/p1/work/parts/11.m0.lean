/-! The model: tables of 144 longs, one behind the other; its faults -/
abbrev isI (x lo hi : Int32) : Prop := lo ≤ x ∧ x ≤ hi
theorem isI_S {x : Int32} : isI x (nI 0) (nI 5) ↔ okS x := by
  unfold isI okS
  rw [Int32.le_iff_toInt_le, Int32.le_iff_toInt_le, Int32.lt_iff_toInt_lt, Int32.lt_iff_toInt_lt, show (nI 0).toInt = 0 by decide, show (nI 5).toInt = 5 by decide, show (0 : Int32).toInt = 0 by decide, show (nI 6).toInt = 6 by decide]; omega
theorem isI_T {x : Int32} : isI x (nI 0) (nI 11) ↔ okT x := by
  unfold isI okT
  rw [Int32.le_iff_toInt_le, Int32.le_iff_toInt_le, Int32.lt_iff_toInt_lt, Int32.lt_iff_toInt_lt, show (nI 0).toInt = 0 by decide, show (nI 11).toInt = 11 by decide, show (0 : Int32).toInt = 0 by decide, show (nI 12).toInt = 12 by decide]; omega
theorem isI_J {x : Int32} : isI x (nI 0) (nI 7) ↔ okJ x := by
  unfold isI okJ
  rw [Int32.le_iff_toInt_le, Int32.le_iff_toInt_le, Int32.lt_iff_toInt_lt, Int32.lt_iff_toInt_lt, show (nI 0).toInt = 0 by decide, show (nI 7).toInt = 7 by decide, show (0 : Int32).toInt = 0 by decide, show (nI 8).toInt = 8 by decide]; omega
theorem isI_W {x : Int32} : isI x (nI 0) (nI 63) ↔ okW x := by
  unfold isI okW
  rw [Int32.le_iff_toInt_le, Int32.le_iff_toInt_le, Int32.lt_iff_toInt_lt, Int32.lt_iff_toInt_lt, show (nI 0).toInt = 0 by decide, show (nI 63).toInt = 63 by decide, show (0 : Int32).toInt = 0 by decide, show (nI 64).toInt = 64 by decide]; omega
theorem isI_N {x : Int32} : isI x (-1000000) (nI 1000000) ↔ okN x := by
  unfold isI okN
  rw [Int32.le_iff_toInt_le, Int32.le_iff_toInt_le, Int32.lt_iff_toInt_lt, Int32.le_iff_toInt_le, show (-1000000 : Int32).toInt = -1000000 by decide, show (nI 1000000).toInt = 1000000 by decide, show (1000000 : Int32).toInt = 1000000 by decide]; omega
theorem yn_iff {r : Int32} {A B : Prop} (h : (r = 1 ∧ A) ∨ (r = 0 ∧ ¬ A)) (e : A ↔ B) : (r = 1 ∧ B) ∨ (r = 0 ∧ ¬ B) := h.imp (fun h => ⟨h.1, e.mp h.2⟩) (fun h => ⟨h.1, fun b => h.2 (e.mpr b)⟩)
theorem yn_t {r : Int32} {A : Prop} (h : (r = 1 ∧ A) ∨ (r = 0 ∧ ¬ A)) (hr : ¬ r = 0) : A := h.elim And.right (fun h => absurd h.1 hr)
theorem yn_f {r : Int32} {A : Prop} (h : (r = 1 ∧ A) ∨ (r = 0 ∧ ¬ A)) (hr : r = 0) : ¬ A := h.elim (fun h => by rw [hr] at h; exact absurd h.1 (by decide)) And.right
theorem yn_b {r : Int32} {A : Prop} (h : (r = 1 ∧ A) ∨ (r = 0 ∧ ¬ A)) : r = 0 ∨ r = 1 := h.elim (fun h => Or.inr h.1) (fun h => Or.inl h.1)
def stf (f : Nat → Int64) (s p q : Nat) (c : Int64) : Nat → Int64 := vp_updL (vp_updL f (144 * s + 12 * p + q) c) (144 * s + 12 * q + p) c
def so (f : Nat → Int64) (s p q : Nat) : Int64 := if q = ne p then 0 else if p = q then sm (f (144 * s + 12 * p + q)) (f (144 * s + 12 * p + q)) else f (144 * s + 12 * p + q)
def lv (p q : Nat) (c : Int64) : Int64 := if p = q then c >>> ((nI 1).toInt64 &&& 63) else c
theorem upd_id {v : Nat → Int32} {s : Nat} {x : Int32} (h : v s = x) : upd v s x = v := by
  funext i
  unfold upd
  split
  · rename_i e; rw [e, h]
  · rfl
def NL (f : Nat → Int64) (s p q : Nat) (c : Int64) : Prop := (q = ne p → ¬ c = INF → ¬ c < 0) ∧ (¬ c = INF → q ≠ ne p → ¬ lv p q c < f (144 * s + 12 * p + q))
def CC (f : Nat → Int64) (s : Nat) : Prop := ∀ p q, p < 12 → q < 12 → (p ≠ q → NL f s p q (sm (f (144 * s + 12 * p + p)) (f (144 * s + 12 * q + q)))) ∧ ∀ r, r < 12 → NL f s p q (sm (so f s p r) (so f s (ne r) q))
def Zs (f : Nat → Int64) (s : Nat) : Prop := ∀ k, k < 144 → f (144 * s + k) = INF ∨ f (144 * s + k) = 0
theorem Zs.g {f : Nat → Int64} {s p q : Nat} (h : Zs f s) (hp : p < 12) (hq : q < 12) : f (144 * s + 12 * p + q) = INF ∨ f (144 * s + 12 * p + q) = 0 := by
  have := h (12 * p + q) (by omega)
  rw [← Nat.add_assoc] at this
  exact this
theorem smz {x y : Int64} (hx : x = INF ∨ x = 0) (hy : y = INF ∨ y = 0) : sm x y = INF ∨ sm x y = 0 := (sm_zz hx hy).imp id And.left
theorem Zs.so {f : Nat → Int64} {s p q : Nat} (h : Zs f s) (hp : p < 12) (hq : q < 12) : so f s p q = INF ∨ so f s p q = 0 := by
  unfold _root_.Jvm.Pilot.COctagonDeskLaw_law_r9197_bc9154.so
  split
  · exact Or.inr rfl
  · split
    · exact smz (h.g hp hq) (h.g hp hq)
    · exact h.g hp hq
theorem z_nn {c : Int64} (h : c = INF ∨ c = 0) : ¬ c < 0 := by rcases h with e | e <;> rw [e] <;> decide
theorem stf_o {f : Nat → Int64} {s p q x : Nat} {c : Int64} (h1 : x ≠ 144 * s + 12 * p + q) (h2 : x ≠ 144 * s + 12 * q + p) : stf f s p q c x = f x := by unfold stf; rw [pk_uLn h2, pk_uLn h1]
theorem stf_a (f : Nat → Int64) (s p q : Nat) (c : Int64) : stf f s p q c (144 * s + 12 * p + q) = c ∧ stf f s p q c (144 * s + 12 * q + p) = c := by
  unfold stf
  refine ⟨?_, pk_uLs⟩
  by_cases e : 144 * s + 12 * p + q = 144 * s + 12 * q + p
  · rw [e, pk_uLs]
  · rw [pk_uLn e, pk_uLs]
theorem stf_c {f : Nat → Int64} {s p q : Nat} {c : Int64} (x : Nat) : stf f s p q c x = c ∨ stf f s p q c x = f x := by
  by_cases e1 : x = 144 * s + 12 * p + q
  · rw [e1]; exact Or.inl (stf_a f s p q c).1
  · by_cases e2 : x = 144 * s + 12 * q + p
    · rw [e2]; exact Or.inl (stf_a f s p q c).2
    · exact Or.inr (stf_o e1 e2)
theorem Zs.st {f : Nat → Int64} {s p q : Nat} {c : Int64} (h : Zs f s) (hc : c = INF ∨ c = 0) : Zs (stf f s p q c) s := fun k hk => by
  rcases stf_c (f := f) (s := s) (p := p) (q := q) (c := c) (144 * s + k) with e | e <;> rw [e]
  · exact hc
  · exact h k hk
/-- how many of a table's cells are infinite -/
def cn (f : Nat → Int64) (s : Nat) : Nat → Nat
  | 0 => 0
  | n + 1 => cn f s n + if f (144 * s + n) = INF then 1 else 0
theorem cn_le {f g : Nat → Int64} {s : Nat} (h : ∀ k, g (144 * s + k) = INF → f (144 * s + k) = INF) : ∀ n, cn g s n ≤ cn f s n
  | 0 => Nat.le_refl _
  | n + 1 => by
    have := cn_le h n
    unfold cn
    by_cases e : g (144 * s + n) = INF
    · rw [if_pos e, if_pos (h n e)]; omega
    · rw [if_neg e]; omega
theorem cn_lt {f g : Nat → Int64} {s k : Nat} (h : ∀ k, g (144 * s + k) = INF → f (144 * s + k) = INF) (h1 : f (144 * s + k) = INF) (h2 : ¬ g (144 * s + k) = INF) : ∀ n, k < n → cn g s n < cn f s n
  | 0 => fun hk => absurd hk (Nat.not_lt_zero _)
  | n + 1 => fun hk => by
    unfold cn
    by_cases e : k = n
    · subst e
      rw [if_neg h2, if_pos h1]
      have := cn_le h k
      omega
    · have := cn_lt h h1 h2 n (by omega)
      by_cases e : g (144 * s + n) = INF
      · rw [if_pos e, if_pos (h n e)]; omega
      · rw [if_neg e]; omega
theorem lv0 (p q : Nat) : lv p q 0 = 0 := by unfold lv; split <;> decide
/-- a cell falls from infinite to 0 -/
theorem ls_z {f : Nat → Int64} {s p q : Nat} {c : Int64} (hz : Zs f s) (hp : p < 12) (hq : q < 12) (hc : c = INF ∨ c = 0) (h1 : ¬ c = INF) (h2 : lv p q c < f (144 * s + 12 * p + q)) : Zs (stf f s p q (lv p q c)) s ∧ cn (stf f s p q (lv p q c)) s 144 < cn f s 144 := by
  have e : c = 0 := hc.elim (fun h => absurd h h1) id
  subst e
  rw [lv0] at h2 ⊢
  refine ⟨hz.st (Or.inr rfl), ?_⟩
  have h3 : f (144 * s + 12 * p + q) = INF := by
    rcases hz.g hp hq with h | h
    · exact h
    · rw [h] at h2; exact absurd h2 (by decide)
  refine cn_lt (k := 12 * p + q) (fun k hk => ?_) ?_ ?_ 144 (by omega)
  · rcases stf_c (f := f) (s := s) (p := p) (q := q) (c := 0) (144 * s + k) with e | e
    · rw [e] at hk; exact absurd hk (by decide)
    · rw [e] at hk; exact hk
  · rw [← Nat.add_assoc]; exact h3
  · rw [← Nat.add_assoc, (stf_a f s p q 0).1]; decide
/-- table t of g is table a of f; the other tables are f's -/
def Ld (f g : Nat → Int64) (t a n : Nat) : Prop := (∀ k, k < n → g (144 * t + k) = f (144 * a + k)) ∧ ∀ x, (x < 144 * t ∨ 144 * t + n ≤ x) → g x = f x
theorem Ld.z (f : Nat → Int64) (t a : Nat) : Ld f f t a 0 := ⟨fun _ h => absurd h (Nat.not_lt_zero _), fun _ _ => rfl⟩
theorem Ld.s {f g : Nat → Int64} {t a k : Nat} (h : Ld f g t a k) (hk : k < 144) : Ld f (vp_updL g (144 * t + k) (g (144 * a + k))) t a (k + 1) := by
  refine ⟨fun i hi => ?_, fun x hx => ?_⟩
  · by_cases e : i = k
    · subst e
      rw [pk_uLs]
      by_cases e2 : t = a
      · subst e2; exact h.2 _ (by omega)
      · exact h.2 _ (by omega)
    · rw [pk_uLn (by omega)]; exact h.1 i (by omega)
  · rw [pk_uLn (by omega)]; exact h.2 x (by omega)
/-- all of table s infinite, the other tables f's -/
def Al4 (f g : Nat → Int64) (s n : Nat) : Prop := (∀ k, k < n → g (144 * s + k) = INF) ∧ ∀ x, (x < 144 * s ∨ 144 * s + n ≤ x) → g x = f x
theorem Al4.z (f : Nat → Int64) (s : Nat) : Al4 f f s 0 := ⟨fun _ h => absurd h (Nat.not_lt_zero _), fun _ _ => rfl⟩
theorem Al4.s {f g : Nat → Int64} {s k : Nat} (h : Al4 f g s k) : Al4 f (vp_updL g (144 * s + k) INF) s (k + 1) := by
  refine ⟨fun i hi => ?_, fun x hx => ?_⟩
  · by_cases e : i = k
    · subst e; exact pk_uLs
    · rw [pk_uLn (by omega)]; exact h.1 i (by omega)
  · rw [pk_uLn (by omega)]; exact h.2 x (by omega)
def AI (f : Nat → Int64) (s : Nat) : Prop := ∀ k, k < 144 → f (144 * s + k) = INF
theorem AI.st {f : Nat → Int64} {s p q : Nat} (h : AI f s) : AI (stf f s p q INF) s := fun k hk => by
  rcases stf_c (f := f) (s := s) (p := p) (q := q) (c := INF) (144 * s + k) with e | e <;> rw [e]
  exact h k hk
theorem nz_r {r : Int32} (h : r = 0 ∨ r = 1) : r &&& 1 = r := by rcases h with e | e <;> subst e <;> decide
theorem zb_q {r : Int32} (h : r = 0 ∨ r = 1) : fits .boolean (.int r) = true := by rcases h with e | e <;> subst e <;> rfl
def VB (v : Nat → Int32) : Prop := ∀ i, v i = 0 ∨ v i = 1
theorem upd_s (v : Nat → Int32) (i : Nat) (x : Int32) : upd v i x i = x := by unfold upd; rw [if_pos rfl]
theorem upd_n {v : Nat → Int32} {i j : Nat} {x : Int32} (h : j ≠ i) : upd v i x j = v j := by unfold upd; rw [if_neg h]
theorem VB.u {v : Nat → Int32} {i : Nat} {x : Int32} (h : VB v) (hx : x = 0 ∨ x = 1) : VB (upd v i x) := fun j => by
  by_cases e : j = i
  · subst e; rw [upd_s]; exact hx
  · rw [upd_n e]; exact h j
/-- a new model -/
def NM (f : Nat → Int64) (v : Nat → Int32) : Prop := (∀ s, s < 26 → AI f s) ∧ (∀ j, j < 6 → v j = 0) ∧ (∀ j, 6 ≤ j → j < 14 → v j = 1) ∧ VB v
theorem AI.g {f : Nat → Int64} {s p q : Nat} (h : AI f s) (hp : p < 12) (hq : q < 12) : f (144 * s + 12 * p + q) = INF := by
  have := h (12 * p + q) (by omega)
  rw [← Nat.add_assoc] at this
  exact this
