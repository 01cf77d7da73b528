/-! What mostOf answers, for every width: a function of the cells alone -/
def nlr (f : Nat → Int64) (i : Nat) : Nat → Int64 → Int64
  | 0, v => v
  | n + 1, v => if ¬ v ≤ 7 then 9223372036854775807 else if ¬ -8 ≤ v then -9223372036854775808 else nlr f i n (v <<< ((nI 60).toInt64 &&& 63) + f (158 * n + i))
def NLk (k : Nat) (f : Nat → Int64) (i : Nat) : Int64 := if f (158 * k + i) = INF then INF else nlr f i k (f (158 * k + i))
theorem nlr_cong {f g : Nat → Int64} {i j : Nat} : ∀ (n : Nat) (v : Int64), (∀ m, m < n → f (158 * m + i) = g (158 * m + j)) → nlr f i n v = nlr g j n v := by
  intro n
  induction n with
  | zero => intro v _; rfl
  | succ n ih =>
    intro v h
    show (if ¬ v ≤ 7 then (9223372036854775807 : Int64) else if ¬ -8 ≤ v then -9223372036854775808 else nlr f i n (v <<< ((nI 60).toInt64 &&& 63) + f (158 * n + i))) = (if ¬ v ≤ 7 then (9223372036854775807 : Int64) else if ¬ -8 ≤ v then -9223372036854775808 else nlr g j n (v <<< ((nI 60).toInt64 &&& 63) + g (158 * n + j)))
    rw [h n (by omega), ih _ (fun m hm => h m (by omega))]
theorem NLk_cong {k : Nat} {f g : Nat → Int64} {i j : Nat} (h : ∀ m, m ≤ k → f (158 * m + i) = g (158 * m + j)) : NLk k f i = NLk k g j := by
  unfold NLk
  rw [h k (by omega), nlr_cong k _ (fun m hm => h m (by omega))]
theorem nlr_s {f : Nat → Int64} {i n : Nat} {v w : Int64} (h1 : v ≤ 7) (h2 : -8 ≤ v) (e : w = v <<< ((nI 60).toInt64 &&& 63) + f (158 * n + i)) : nlr f i (n + 1) v = nlr f i n w := by
  show (if ¬ v ≤ 7 then (9223372036854775807 : Int64) else if ¬ -8 ≤ v then -9223372036854775808 else nlr f i n (v <<< ((nI 60).toInt64 &&& 63) + f (158 * n + i))) = _
  rw [if_neg (fun h => h h1), if_neg (fun h => h h2), e]
theorem nlr_h {f : Nat → Int64} {i n : Nat} {v : Int64} (h1 : ¬ v ≤ 7) : nlr f i (n + 1) v = 9223372036854775807 := if_pos h1
theorem nlr_l {f : Nat → Int64} {i n : Nat} {v : Int64} (h1 : v ≤ 7) (h2 : ¬ -8 ≤ v) : nlr f i (n + 1) v = -9223372036854775808 := by
  show (if ¬ v ≤ 7 then (9223372036854775807 : Int64) else if ¬ -8 ≤ v then -9223372036854775808 else nlr f i n (v <<< ((nI 60).toInt64 &&& 63) + f (158 * n + i))) = _
  rw [if_neg (fun h => h h1), if_pos h2]
def hR (f : Nat → Int64) (i k : Nat) : Nat → Int64
  | 0 => f (158 * k + i) &&& 1
  | m + 1 => (f (158 * (k - (m + 1)) + i) + hR f i k m <<< ((nI 60).toInt64 &&& 63)) &&& 1
def hV (f : Nat → Int64) (i k : Nat) : Nat → Int64
  | 0 => f (158 * k + i) >>> ((nI 1).toInt64 &&& 63)
  | m + 1 => (f (158 * (k - (m + 1)) + i) + hR f i k m <<< ((nI 60).toInt64 &&& 63)) >>> ((nI 1).toInt64 &&& 63)
theorem hR_cong {f g : Nat → Int64} {i k : Nat} (h : ∀ m, m ≤ k → f (158 * m + i) = g (158 * m + i)) : ∀ m, hR f i k m = hR g i k m := by
  intro m
  induction m with
  | zero => show _ &&& _ = _ &&& _; rw [h k (by omega)]
  | succ m ih => show (f _ + hR f i k m <<< _) &&& _ = (g _ + hR g i k m <<< _) &&& _; rw [h _ (by omega), ih]
theorem hV_cong {f g : Nat → Int64} {i k : Nat} (h : ∀ m, m ≤ k → f (158 * m + i) = g (158 * m + i)) (m : Nat) : hV f i k m = hV g i k m := by
  cases m with
  | zero => show _ >>> _ = _ >>> _; rw [h k (by omega)]
  | succ m => show (f _ + hR f i k m <<< _) >>> _ = (g _ + hR g i k m <<< _) >>> _; rw [h _ (by omega), hR_cong h]
/-- only cells at t differ -/
def Off (t : Nat) (f g : Nat → Int64) : Prop := ∀ j, j % 158 ≠ t → g j = f j
theorem Off.rf (t : Nat) (f : Nat → Int64) : Off t f f := fun _ _ => rfl
theorem Off.tr {t : Nat} {f g h : Nat → Int64} (a : Off t f g) (b : Off t g h) : Off t f h := fun j hj => (b j hj).trans (a j hj)
theorem Off.up {t q : Nat} {f g : Nat → Int64} {v : Int64} (a : Off t f g) (ht : t < 158) : Off t f (vp_updL g (158 * q + t) v) := by
  intro j hj
  rw [pk_uLn (by intro h; subst h; omega)]
  exact a j hj
def HZ (f g : Nat → Int64) (t i k q : Nat) (x : Int64) : Prop := Off t f g ∧ (∀ n, n ≤ k → q ≤ n → g (158 * n + t) = hV f i k (k - n)) ∧ x = hR f i k (k - q)
theorem HZ.z {f : Nat → Int64} {t i k : Nat} (ht : t < 158) : HZ f (vp_updL f (158 * k + t) (f (158 * k + i) >>> ((nI 1).toInt64 &&& 63))) t i k k (f (158 * k + i) &&& 1) := by
  refine ⟨(Off.rf t f).up ht, fun n h1 h2 => ?_, by rw [Nat.sub_self]; rfl⟩
  have e : n = k := by omega
  subst e
  rw [pk_uLs, Nat.sub_self]; rfl
theorem HZ.s {f g : Nat → Int64} {t i k q : Nat} {x y : Int64} (h : HZ f g t i k (q + 1) x) (hq : q + 1 ≤ k) (hi : i < 158) (ht : t < 158) (hne : i ≠ t) (ey : y = g (158 * q + i) + x <<< ((nI 60).toInt64 &&& 63)) : HZ f (vp_updL g (158 * q + t) (y >>> ((nI 1).toInt64 &&& 63))) t i k q (y &&& 1) := by
  obtain ⟨h1, h2, h3⟩ := h
  have eg : g (158 * q + i) = f (158 * q + i) := h1 _ (by omega)
  have em : k - q = (k - (q + 1)) + 1 := by omega
  have ei : k - ((k - (q + 1)) + 1) = q := by omega
  refine ⟨h1.up ht, fun n h4 h5 => ?_, ?_⟩
  · by_cases e : n = q
    · subst e
      rw [pk_uLs, em, ey, eg, h3]
      show _ = (f (158 * (k - ((k - (n + 1)) + 1)) + i) + hR f i k (k - (n + 1)) <<< _) >>> _
      rw [ei]
    · rw [pk_uLn (by omega)]
      exact h2 n h4 (by omega)
  · rw [em, ey, eg, h3]
    show _ = (f (158 * (k - ((k - (q + 1)) + 1)) + i) + hR f i k (k - (q + 1)) <<< _) &&& _
    rw [ei]
/-- what putHalf leaves -/
def HP (k : Nat) (f g : Nat → Int64) (t i : Nat) : Prop := Off t f g ∧ (f (158 * k + i) = INF → g (158 * k + t) = INF) ∧ (¬ f (158 * k + i) = INF → ∀ n, n ≤ k → g (158 * n + t) = hV f i k (k - n))
def MV (k : Nat) (f : Nat → Int64) (p q : Nat) : Int64 := if p = q then (if f (158 * k + (p * 12 + p)) = INF then INF else NLk k (fun j => hV f (p * 12 + p) k (k - j / 158)) 156) else NLk k f (p * 12 + q)
theorem MV_cong {k : Nat} {f g : Nat → Int64} {p q : Nat} (hp : p < 12) (hq : q < 12) (h : Off 156 f g) : MV k g p q = MV k f p q := by
  have e1 : ∀ m, m ≤ k → g (158 * m + (p * 12 + p)) = f (158 * m + (p * 12 + p)) := fun m _ => h _ (by omega)
  have e2 : ∀ m, m ≤ k → g (158 * m + (p * 12 + q)) = f (158 * m + (p * 12 + q)) := fun m _ => h _ (by
    have h9 : p * 12 + q < 144 := by omega
    generalize p * 12 + q = x at h9 ⊢
    omega)
  unfold MV
  rw [e1 k (by omega)]
  congr 1
  · congr 1
    exact NLk_cong (fun m hm => hV_cong e1 _)
  · exact NLk_cong e2
theorem MV_n {k p q : Nat} {f : Nat → Int64} (h : ¬ p = q) : NLk k f (p * 12 + q) = MV k f p q := (if_neg h).symm
theorem MV_h {k p q : Nat} {f g : Nat → Int64} (e : p = q) (h : HP k f g 156 (p * 12 + p)) : NLk k g 156 = MV k f p q := by
  unfold MV
  rw [if_pos e]
  by_cases hi : f (158 * k + (p * 12 + p)) = INF
  · rw [if_pos hi, NLk, if_pos (h.2.1 hi)]
  · rw [if_neg hi]
    refine NLk_cong (fun m hm => ?_)
    rw [h.2.2 hi m hm]
    show _ = hV f (p * 12 + p) k (k - (158 * m + 156) / 158)
    rw [show (158 * m + 156) / 158 = m by omega]
theorem pi_2 {k i : Nat} {f : Nat → Int64} {r : Int32} (hr : r = if f (158 * k + i) = INF then (1 : Int32) else 0) (hc : ¬ r = 0) : f (158 * k + i) = INF := by
  by_cases h : f (158 * k + i) = INF
  · exact h
  · rw [if_neg h] at hr; exact absurd hr hc
theorem DK.ao {G : GG} {μ : mp} {d aS aL aR aT aO k sc : Nat} {sa na la bE : Nat → Nat} {F : Nat → Nat → Int64} {fS fL fR fT : Nat → Option Nat} {sp : Nat → Nat} {fO fo : Nat → Int64} (h : DK G μ d aS aL aR aT aO k sc sa na la bE F fS fL fR fT sp fO) : DK G (mu μ aO (.inl (G.2 0, 6, .inr (.inl fo)))) d aS aL aR aT aO k sc sa na la bE F fS fL fR fT sp fo := by
  obtain ⟨h1, ⟨a1, a2, a3, a4, a5⟩, b1, b2, b3, b4⟩ := h
  refine ⟨(mu_n (mp_ne h1 a4 (by simp))).trans h1, ⟨(mu_n (mp_ne a1 a4 (by simp))).trans a1, (mu_n (mp_ne a2 a4 (by simp))).trans a2, (mu_n (mp_ne a3 a4 (by simp))).trans a3, mu_s _ _ _, a5⟩, (mu_n (mp_ne b1 a4 (by simp))).trans b1, fun j hj => ?_, ⟨fun j hj => ?_, b3.2⟩, b4⟩
  · obtain ⟨c1, x1, x2, x3, x4, x5, x6, c2⟩ := b2 j hj
    exact ⟨c1, x1, x2, x3, x4, x5, x6, (mu_n (mp_ne c2 a4 (by simp))).trans c2⟩
  · obtain ⟨⟨j1, j2, j3⟩, jb⟩ := b3.1 j hj
    exact ⟨⟨(mu_n (mp_ne j1 a4 (by simp))).trans j1, (mu_n (mp_ne j2 a4 (by simp))).trans j2, (mu_n (Ne.symm (mp_ne a4 j3 (by intro h; injection h with h; injection h with h1 h2; injection h2 with h2 h3; exact J6 k h2)))).trans j3⟩, jb⟩
theorem DK.lo {G : GG} {μ : mp} {d aS aL aR aT aO k sc : Nat} {sa na la bE : Nat → Nat} {F : Nat → Nat → Int64} {fS fL fR fT : Nat → Option Nat} {sp : Nat → Nat} {fO : Nat → Int64} (h : DK G μ d aS aL aR aT aO k sc sa na la bE F fS fL fR fT sp fO) {j : Nat} (hj : j < 23) : la j ≠ aO := by
  obtain ⟨⟨j1, j2, j3⟩, jb⟩ := h.2.2.2.2.1.1 j hj
  exact Ne.symm (mp_ne h.2.1.2.2.2.1 j3 (by intro h; injection h with h; injection h with h1 h2; injection h2 with h2 h3; exact J6 k h2))
theorem cf_min {x y w : Int64} (e : w = if y < x then y else x) (h : x < 4096) : w < 4096 := by
  subst e
  rw [Int64.lt_iff_toInt_lt] at *
  split
  · rename_i h2; rw [Int64.lt_iff_toInt_lt] at h2; omega
  · exact h
theorem cf_m {x y hi : Int64} (h : ¬ hi < x) (hh : hi < 4096) (e : y = x + 1) : (hi.toInt - y.toInt + 1).toNat < (hi.toInt - x.toInt + 1).toNat := by
  subst e
  rw [Int64.lt_iff_toInt_lt] at h hh
  have h4 : (4096 : Int64).toInt = 4096 := by decide
  have h1 : (1 : Int64).toInt = 1 := by decide
  have hx := x.le_toInt
  rw [h4] at hh
  have e2 : (x + 1).toInt = x.toInt + 1 := by
    rw [Int64.toInt_add, h1, Int.bmod_eq_of_le]
    · have : Int64.minValue.toInt = -9223372036854775808 := by decide
      omega
    · omega
  rw [e2]
  omega
theorem all_s {P : Nat → Prop} {n : Nat} (h : ∀ i, i < n → P i) (hn : P n) : ∀ i, i < n + 1 → P i := by
  intro i hi
  by_cases e : i = n
  · subst e; exact hn
  · exact h i (by omega)
