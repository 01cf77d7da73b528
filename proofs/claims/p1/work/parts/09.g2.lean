/-! A table of bounds over whole numbers (none: infinite) stands for cells; when it is closed, so are they -/
theorem add_ok {x y : Int64} (h1 : -4611686018427387904 ≤ x.toInt) (h2 : x.toInt ≤ 4611686018427387903) (h3 : -4611686018427387904 ≤ y.toInt) (h4 : y.toInt ≤ 4611686018427387903) : (x + y).toInt = x.toInt + y.toInt := by
  rw [Int64.toInt_add]
  exact Int.bmod_eq_of_le_mul_two (by omega) (by omega)
theorem hf_ok (x : Int64) : (x >>> ((nI 1).toInt64 &&& 63)).toInt = x.toInt / 2 := by
  have e : (nI 1).toInt64 &&& 63 = 1 := by decide
  rw [e]
  have h : (x >>> (1 : Int64)).toBitVec = x.toBitVec.sshiftRight 1 := by rw [Int64.toBitVec_shiftRight]; rfl
  rw [← Int64.toInt_toBitVec, h, BitVec.toInt_sshiftRight, Int.shiftRight_eq_div_pow]
  rfl
theorem INF_toInt : (INF : Int64).toInt = 9223372036854775807 := by decide
theorem no_lt {x : Int64} : ¬ INF < x := by
  rw [Int64.lt_iff_toInt_lt, INF_toInt]
  have := x.toInt_lt
  omega
/-- a cell's number -/
def Iv (x : Int64) (o : Option Int) : Prop := (o = none ∧ x = INF) ∨ ∃ z : Int, o = some z ∧ x.toInt = z ∧ -8000000 ≤ z ∧ z ≤ 8000000
theorem Iv.ne {x : Int64} {z : Int} (h : x.toInt = z) (h1 : z ≤ 4611686018427387903) : ¬ x = INF := fun e => by rw [e, INF_toInt] at h; omega
theorem sm_v {x y : Int64} (hx : x.toInt ≤ 4611686018427387903) (hx2 : -4611686018427387904 ≤ x.toInt) (hy : y.toInt ≤ 4611686018427387903) (hy2 : -4611686018427387904 ≤ y.toInt) : (sm x y).toInt = x.toInt + y.toInt := by
  unfold sm
  rw [if_neg (fun h => h.elim (Iv.ne rfl hx) (Iv.ne rfl hy))]
  exact add_ok hx2 hx hy2 hy
theorem hf_v {x : Int64} (hx : x.toInt ≤ 4611686018427387903) : (hf x).toInt = x.toInt / 2 := by
  unfold hf
  rw [if_neg (Iv.ne rfl hx)]
  exact hf_ok x
def TV (V : Nat → Nat → Option Int) (p q : Nat) : Option Int := if q = ne p then some 0 else V p q
theorem clT {f : Nat → Int64} {V : Nat → Nat → Option Int} (hf0 : ∀ p q, p < 12 → q < 12 → Iv (f (p * 12 + q)) (TV V p q))
    (H1 : ∀ p q r x y, p < 12 → q < 12 → r < 12 → V p r = some x → V (ne r) q = some y → ∃ z, TV V p q = some z ∧ z ≤ x + y)
    (H3 : ∀ p q x y, p < 12 → q < 12 → V p p = some x → V q q = some y → ∃ z, TV V p q = some z ∧ z ≤ x / 2 + y / 2) : Cl f := by
  have S1 : ∀ p q r x y, p < 12 → q < 12 → r < 12 → TV V p r = some x → TV V (ne r) q = some y → ∃ z, TV V p q = some z ∧ z ≤ x + y := by
    intro p q r x y hp hq hr hx hy
    unfold TV at hx
    split at hx
    · rename_i e; subst e; rw [ne_ne] at hy; cases hx; exact ⟨y, hy, by omega⟩
    · rename_i e
      unfold TV at hy
      split at hy
      · rename_i e2; rw [ne_ne] at e2; subst e2; cases hy
        exact ⟨x, by unfold TV; rw [if_neg e]; exact hx, by omega⟩
      · exact H1 p q r x y hp hq hr hx hy
  have val : ∀ p q, p < 12 → q < 12 → f (p * 12 + q) = INF ∨ ∃ z, TV V p q = some z ∧ (f (p * 12 + q)).toInt = z ∧ -8000000 ≤ z ∧ z ≤ 8000000 := by
    intro p q hp hq
    rcases hf0 p q hp hq with ⟨-, h⟩ | ⟨z, h1, h2, h3, h4⟩
    · exact Or.inl h
    · exact Or.inr ⟨z, h1, h2, h3, h4⟩
  have out : ∀ p q, p < 12 → q < 12 → ∀ z, TV V p q = some z → (f (p * 12 + q)).toInt = z ∧ -8000000 ≤ z ∧ z ≤ 8000000 := by
    intro p q hp hq z hz
    rcases hf0 p q hp hq with ⟨h, -⟩ | ⟨z2, h1, h2, h3, h4⟩
    · rw [h] at hz; cases hz
    · rw [h1] at hz; cases hz; exact ⟨h2, h3, h4⟩
  have sinf : ∀ x y : Int64, (x = INF ∨ y = INF) → ∀ w, ¬ sm x y < w := by
    intro x y h w; unfold sm; rw [if_pos h]; exact no_lt
  refine ⟨fun p q r hp hq hr => ?_, fun i j p q hi hj hp hq => ?_, fun p q hp hq => ?_, fun p hp => ?_, fun p q hp hq => ?_⟩
  · rcases val p r hp hr with h | ⟨x, x1, x2, x3, x4⟩
    · exact sinf _ _ (Or.inl h) _
    · rcases val (ne r) q (ne_lt hr) hq with h | ⟨y, y1, y2, y3, y4⟩
      · exact sinf _ _ (Or.inr h) _
      · obtain ⟨z, z1, z2⟩ := S1 p q r x y hp hq hr x1 y1
        obtain ⟨w1, w2, w3⟩ := out p q hp hq z z1
        rw [Int64.lt_iff_toInt_lt, sm_v (by omega) (by omega) (by omega) (by omega), w1, x2, y2]; omega
  · rcases val i (ne p) hi (ne_lt hp) with h | ⟨x, x1, x2, x3, x4⟩
    · exact sinf _ _ (Or.inl (by unfold sm; rw [if_pos (Or.inl h)])) _
    · rcases val p q hp hq with h | ⟨y, y1, y2, y3, y4⟩
      · exact sinf _ _ (Or.inl (by unfold sm; rw [if_pos (Or.inr h)])) _
      · rcases val (ne q) j (ne_lt hq) hj with h | ⟨w, v1, v2, v3, v4⟩
        · exact sinf _ _ (Or.inr h) _
        · obtain ⟨z, z1, z2⟩ := S1 i q (ne p) x y hi hq (ne_lt hp) x1 (by rw [ne_ne]; exact y1)
          obtain ⟨u, u1, u2⟩ := S1 i j q z w hi hj hq z1 v1
          obtain ⟨w1, w2, w3⟩ := out i j hi hj u u1
          have e1 : (sm (f (i * 12 + ne p)) (f (p * 12 + q))).toInt = x + y := by rw [sm_v (by omega) (by omega) (by omega) (by omega), x2, y2]
          rw [Int64.lt_iff_toInt_lt, sm_v (by omega) (by omega) (by omega) (by omega), w1, e1, v2]; omega
  · rcases val p p hp hp with h | ⟨x, x1, x2, x3, x4⟩
    · exact sinf _ _ (Or.inl (by rw [h]; rfl)) _
    · rcases val q q hq hq with h | ⟨y, y1, y2, y3, y4⟩
      · exact sinf _ _ (Or.inr (by rw [h]; rfl)) _
      · have no : ∀ x, ¬ x = ne x := fun x => by unfold ne; split <;> omega
        unfold TV at x1 y1
        rw [if_neg (no p)] at x1
        rw [if_neg (no q)] at y1
        obtain ⟨z, z1, z2⟩ := H3 p q x y hp hq x1 y1
        obtain ⟨w1, w2, w3⟩ := out p q hp hq z z1
        have a1 := hf_v (x := f (p * 12 + p)) (by omega)
        have a2 := hf_v (x := f (q * 12 + q)) (by omega)
        rw [Int64.lt_iff_toInt_lt, sm_v (by omega) (by omega) (by omega) (by omega), w1, a1, a2, x2, y2]; omega
  · obtain ⟨w1, -⟩ := out p (ne p) hp (ne_lt hp) 0 (by unfold TV; rw [if_pos rfl])
    rw [Int64.lt_iff_toInt_lt, w1]; decide
  · rcases val p q hp hq with h | ⟨x, x1, x2, x3, x4⟩
    · exact sinf _ _ (Or.inl h) _
    · rcases val (ne q) (ne p) (ne_lt hq) (ne_lt hp) with h | ⟨y, y1, y2, y3, y4⟩
      · exact sinf _ _ (Or.inr h) _
      · obtain ⟨z, z1, z2⟩ := S1 p (ne p) q x y hp (ne_lt hp) hq x1 y1
        unfold TV at z1
        rw [if_pos rfl] at z1
        cases z1
        rw [Int64.lt_iff_toInt_lt, sm_v (by omega) (by omega) (by omega) (by omega), x2, y2]
        show ¬ (x + y < 0)
        omega
def V0 (a t : Nat) (v : Int) (p q : Nat) : Option Int := if (p = a ∧ q = t) ∨ (p = t ∧ q = a) then some v else none
def V2 (a : Nat) (l u : Int) (p q : Nat) : Option Int := if p = a ∧ q = a then some (2 * u) else if p = ne a ∧ q = ne a then some (-2 * l) else none
theorem clo_0 {f : Nat → Int64} {a t : Nat} {v : Int} (hat : a ≠ ne t) (hev : a = t → v % 2 = 0) (h : ∀ p q, p < 12 → q < 12 → Iv (f (p * 12 + q)) (TV (V0 a t v) p q)) : Cl f := by
  have hta : t ≠ ne a := fun e => hat (by rw [e, ne_ne])
  refine clT h (fun p q r x y hp hq hr hx hy => ?_) (fun p q x y hp hq hx hy => ?_)
  · exfalso
    unfold V0 at hx hy
    split at hx
    · split at hy
      · rename_i h1 h2
        have na := ne_no a
        have nt := ne_no t
        rcases h1 with ⟨-, e1⟩ | ⟨-, e1⟩ <;> subst e1 <;> rcases h2 with ⟨e2, -⟩ | ⟨e2, -⟩
        · exact hat e2.symm
        · exact nt e2.symm
        · exact na e2.symm
        · exact hta e2.symm
      · cases hy
    · cases hx
  · unfold V0 at hx hy
    split at hx
    · split at hy
      · rename_i h1 h2
        have e1 : a = t ∧ p = a ∧ q = a := by omega
        obtain ⟨e1, e2, e3⟩ := e1
        have := hev e1
        cases hx; cases hy
        refine ⟨v, ?_, by omega⟩
        subst e2; subst e3
        unfold TV V0
        rw [if_neg (ne_no q), if_pos (Or.inl ⟨rfl, e1⟩)]
      · cases hy
    · cases hx
theorem clo_2 {f : Nat → Int64} {a : Nat} {l u : Int} (hlu : l ≤ u) (h : ∀ p q, p < 12 → q < 12 → Iv (f (p * 12 + q)) (TV (V2 a l u) p q)) : Cl f := by
  have na := ne_no a
  have z1 : TV (V2 a l u) a (ne a) = some 0 := by unfold TV; rw [if_pos rfl]
  have z2 : TV (V2 a l u) (ne a) a = some 0 := by unfold TV; rw [if_pos (ne_ne a).symm]
  have z3 : TV (V2 a l u) a a = some (2 * u) := by unfold TV V2; rw [if_neg na, if_pos ⟨rfl, rfl⟩]
  have z4 : TV (V2 a l u) (ne a) (ne a) = some (-2 * l) := by unfold TV V2; rw [if_neg (ne_no _), if_neg (fun h => na h.1.symm), if_pos ⟨rfl, rfl⟩]
  have inv : ∀ p q x, V2 a l u p q = some x → (p = a ∧ q = a ∧ x = 2 * u) ∨ (p = ne a ∧ q = ne a ∧ x = -2 * l) := by
    intro p q x hx
    unfold V2 at hx
    split at hx
    · rename_i h1; cases hx; exact Or.inl ⟨h1.1, h1.2, rfl⟩
    · split at hx
      · rename_i h1; cases hx; exact Or.inr ⟨h1.1, h1.2, rfl⟩
      · cases hx
  refine clT h (fun p q r x y hp hq hr hx hy => ?_) (fun p q x y hp hq hx hy => ?_)
  · rcases inv _ _ _ hx with ⟨e1, e2, e3⟩ | ⟨e1, e2, e3⟩ <;> rcases inv _ _ _ hy with ⟨d1, d2, d3⟩ | ⟨d1, d2, d3⟩
    · rw [e2] at d1; exact absurd d1 (Ne.symm na)
    · subst e1; subst d2; exact ⟨0, z1, by omega⟩
    · subst e1; subst d2; exact ⟨0, z2, by omega⟩
    · rw [e2, ne_ne] at d1; exact absurd d1 na
  · rcases inv _ _ _ hx with ⟨e1, -, e3⟩ | ⟨e1, -, e3⟩ <;> rcases inv _ _ _ hy with ⟨d1, -, d3⟩ | ⟨d1, -, d3⟩ <;> subst e1 <;> subst d1
    · exact ⟨_, z3, by omega⟩
    · exact ⟨_, z1, by omega⟩
    · exact ⟨_, z2, by omega⟩
    · exact ⟨_, z4, by omega⟩
theorem okN.b {c : Int32} (h : okN c) : -1000000 ≤ c.toInt ∧ c.toInt ≤ 1000000 := by
  obtain ⟨h1, h2⟩ := h
  rw [Int32.lt_iff_toInt_lt] at h1
  rw [Int32.le_iff_toInt_le] at h2
  have e1 : (-1000000 : Int32).toInt = -1000000 := by decide
  have e2 : (1000000 : Int32).toInt = 1000000 := by decide
  rw [e1] at h1
  rw [e2] at h2
  omega
theorem mul2_32 {c : Int32} (h1 : -1000000 ≤ c.toInt) (h2 : c.toInt ≤ 1000000) : (nI 2 * c).toInt = 2 * c.toInt := by
  rw [Int32.toInt_mul, show (nI 2).toInt = 2 by decide]
  exact Int.bmod_eq_of_le_mul_two (by omega) (by omega)
theorem mul64 {x : Int64} {w : Int} (n : Int64) (hn : n.toInt = w) (hw : w = 2 ∨ w = -2) (h1 : -1000000 ≤ x.toInt) (h2 : x.toInt ≤ 1000000) : (n * x).toInt = w * x.toInt := by
  rw [Int64.toInt_mul, hn]
  rcases hw with e | e <;> subst e <;> exact Int.bmod_eq_of_le_mul_two (by omega) (by omega)
theorem ivtz {f : Nat → Int64} {p q : Nat} (hp : p < 12) (hq : q < 12) (h : f (p * 12 + q) = tz (p * 12 + q)) : Iv (f (p * 12 + q)) (if q = ne p then some 0 else none) := by
  rw [h]
  unfold tz
  rw [show (p * 12 + q) % 12 = q by omega, show (p * 12 + q) / 12 = p by omega]
  split
  · exact Or.inr ⟨0, rfl, by decide, by decide, by decide⟩
  · exact Or.inl ⟨rfl, rfl⟩
theorem act_0 {F : Nat → Nat → Int64} {bE : Nat → Nat} {j a t : Nat} {f1 : Nat → Int64} {c9 : Int32} {v9 : Int64} (fr : Fr F bE j) (hf1 : ∀ c, c < 158 → f1 c = F j c) (ha : a < 12) (ht : t < 12) (hat : a ≠ ne t) (hc : okN c9) (hv : v9 = if a = t then (nI 2 * c9).toInt64 else c9.toInt64) : Cl (hs (vp_updL f1 156 v9) a t 0) := by
  obtain ⟨c1, c2⟩ := hc.b
  have hta : t ≠ ne a := fun e => hat (by rw [e, ne_ne])
  have hvi : ∃ v : Int, v9.toInt = v ∧ -2000000 ≤ v ∧ v ≤ 2000000 ∧ (a = t → v % 2 = 0) := by
    by_cases e : a = t
    · rw [if_pos e] at hv
      refine ⟨2 * c9.toInt, ?_, by omega, by omega, fun _ => by omega⟩
      rw [hv, Int32.toInt_toInt64, mul2_32 c1 c2]
    · rw [if_neg e] at hv
      exact ⟨c9.toInt, by rw [hv, Int32.toInt_toInt64], by omega, by omega, fun h => absurd h e⟩
  obtain ⟨v, v1, v2, v3, v4⟩ := hvi
  have l1 := lt144 ha ht
  have l2 := lt144 ht ha
  have hg : ∀ c, c < 144 → vp_updL f1 156 v9 c = tz c := fun c hc2 => by rw [pk_uLn (by omega), hf1 c (by omega), fr.2.1 c hc2]
  have hlt : vp_updL f1 156 v9 156 < vp_updL f1 156 v9 (a * 12 + t) := by
    rw [pk_uLs, hg _ l1, tz, show (a * 12 + t) % 12 = t by omega, show (a * 12 + t) / 12 = a by omega, if_neg hta, Int64.lt_iff_toInt_lt, INF_toInt, v1]
    omega
  unfold hs
  rw [if_pos ⟨rfl, hlt⟩, pk_uLs]
  refine clo_0 hat v4 (fun p q hp hq => ?_)
  have lp := lt144 hp hq
  by_cases e1 : p * 12 + q = t * 12 + a
  · rw [e1, pk_uLs]
    refine Or.inr ⟨v, ?_, v1, by omega, by omega⟩
    have e2 : p = t := by omega
    have e3 : q = a := by omega
    subst e2; subst e3
    unfold TV V0
    rw [if_neg hat, if_pos (Or.inr ⟨rfl, rfl⟩)]
  · rw [pk_uLn e1]
    by_cases e2 : p * 12 + q = a * 12 + t
    · rw [e2, pk_uLs]
      refine Or.inr ⟨v, ?_, v1, by omega, by omega⟩
      have e3 : p = a := by omega
      have e4 : q = t := by omega
      subst e3; subst e4
      unfold TV V0
      rw [if_neg hta, if_pos (Or.inl ⟨rfl, rfl⟩)]
    · rw [pk_uLn e2]
      have e3 : V0 a t v p q = none := by unfold V0; rw [if_neg (by omega)]
      unfold TV
      rw [e3]
      exact ivtz (f := vp_updL f1 156 v9) hp hq (hg _ lp)
theorem act_2 {F : Nat → Nat → Int64} {bE : Nat → Nat} {j a : Nat} {f1 : Nat → Int64} {l9 c9 : Int32} (fr : Fr F bE j) (hf1 : ∀ c, c < 158 → f1 c = F j c) (ha : a < 6) (hl : okN l9) (hc : okN c9) (hlc : l9 ≤ c9) : Cl (sc f1 a l9.toInt64 c9.toInt64) := by
  obtain ⟨c1, c2⟩ := hc.b
  obtain ⟨l1, l2⟩ := hl.b
  rw [Int32.le_iff_toInt_le] at hlc
  have n1 : ne (2 * a) = 2 * a + 1 := by unfold ne; rw [if_pos (by omega)]
  have t1 : (2 * c9.toInt64).toInt = 2 * c9.toInt := by rw [mul64 (w := 2) 2 (by decide) (Or.inl rfl) (by rw [Int32.toInt_toInt64]; exact c1) (by rw [Int32.toInt_toInt64]; exact c2), Int32.toInt_toInt64]
  have t2 : (-2 * l9.toInt64).toInt = -2 * l9.toInt := by rw [mul64 (w := -2) (-2) (by decide) (Or.inr rfl) (by rw [Int32.toInt_toInt64]; exact l1) (by rw [Int32.toInt_toInt64]; exact l2), Int32.toInt_toInt64]
  refine clo_2 (a := 2 * a) hlc (fun p q hp hq => ?_)
  have lp := lt144 hp hq
  unfold sc
  by_cases e1 : p * 12 + q = (2 * a + 1) * 12 + (2 * a + 1)
  · have e2 : p = 2 * a + 1 := by omega
    have e3 : q = 2 * a + 1 := by omega
    rw [if_pos e1]
    refine Or.inr ⟨_, ?_, t2, by omega, by omega⟩
    unfold TV V2
    rw [n1, e2, e3, if_neg (ne_no _), if_neg (by omega), if_pos ⟨rfl, rfl⟩]
  · rw [if_neg e1]
    by_cases e2 : p * 12 + q = 2 * a * 12 + 2 * a
    · have e3 : p = 2 * a := by omega
      have e4 : q = 2 * a := by omega
      rw [if_pos e2]
      refine Or.inr ⟨_, ?_, t1, by omega, by omega⟩
      unfold TV V2
      rw [e3, e4, if_neg (ne_no _), if_pos ⟨rfl, rfl⟩]
    · rw [if_neg e2]
      have e3 : V2 (2 * a) l9.toInt c9.toInt p q = none := by unfold V2; rw [n1, if_neg (by omega), if_neg (by omega)]
      have e4 : rl f1 a (p * 12 + q) = tz (p * 12 + q) := by
        unfold rl
        split
        · rfl
        · rw [hf1 _ (by omega), fr.2.1 _ lp]
      unfold TV
      rw [e3]
      exact ivtz (f := rl f1 a) hp hq e4
