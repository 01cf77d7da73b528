/-- Numbers: sums with infinity, halves, what 'lower' makes of the cells; how far a loop that goes down has come -/
abbrev INF : Int64 := 9223372036854775807
def sm (x y : Int64) : Int64 := if x = INF ∨ y = INF then INF else x + y
def hf (x : Int64) : Int64 := if x = INF then INF else x >>> ((nI 1).toInt64 &&& 63)
def ng (x : Int64) : Int64 := if x = INF then INF else 0 - x
def lw (f : Nat → Int64) (i j m : Nat) : Nat → Int64 := if sm (f j) (f m) < f i then vp_updL (vp_updL f 157 (sm (f j) (f m))) i (sm (f j) (f m)) else vp_updL f 157 (sm (f j) (f m))
def dn : Nat → Int32 | 0 => -158 | j + 1 => nI (158 * j)
theorem dn_sub (j : Nat) : nI (158 * j) - nI 158 = dn j := by
  cases j with
  | zero => rfl
  | succ j => show nI (158 * (j + 1)) - nI 158 = nI (158 * j); rw [pk_sub (by omega), show 158 * (j + 1) - 158 = 158 * j by omega]
theorem if_01 (c : Prop) [Decidable c] : (if c then (1 : Int32) else 0) = 0 ∨ (if c then (1 : Int32) else 0) = 1 := by
  by_cases h : c <;> simp [h]

theorem il_keep {k q i j : Nat} {f g : Nat → Int64} {x y : Int64} (hz : k = 0 → q + 1 = 1 ∨ (q + 1 = 0 ∧ f i = g j)) (hx : x = f (158 * q + i)) (hy : y = g (158 * q + j)) (h : x = y) : k = 0 → q = 1 ∨ (q = 0 ∧ f i = g j) := by
  intro h0
  rcases hz h0 with h1 | ⟨h1, -⟩
  · have hq : q = 0 := by omega
    subst hq
    rw [hx, hy] at h
    exact Or.inr ⟨rfl, by simpa using h⟩
  · omega
theorem il_end {k i j : Nat} {f g : Nat → Int64} (hz : k = 0 → 0 = 1 ∨ (0 = 0 ∧ f i = g j)) : k = 0 → nI 0 = if f i < g j then (1 : Int32) else 0 := by
  intro h0
  rcases hz h0 with h1 | ⟨-, h1⟩
  · omega
  · rw [h1, if_neg (fun h => absurd (Int64.lt_iff_toInt_lt.mp h) (Int.lt_irrefl _))]; rfl
theorem il_1 {k q i j : Nat} {f g : Nat → Int64} {x y : Int64} (hz : k = 0 → q + 1 = 1 ∨ (q + 1 = 0 ∧ f i = g j)) (hx : x = f (158 * q + i)) (hy : y = g (158 * q + j)) (h : ¬ y ≤ x) : k = 0 → nI 1 = if f i < g j then (1 : Int32) else 0 := by
  intro h0
  rcases hz h0 with h1 | ⟨h1, -⟩
  · have hq : q = 0 := by omega
    subst hq
    rw [hx, hy] at h
    rw [if_pos (by simpa using Int64.not_le.mp h)]; rfl
  · omega
theorem il_0 {k q i j : Nat} {f g : Nat → Int64} {x y : Int64} (hz : k = 0 → q + 1 = 1 ∨ (q + 1 = 0 ∧ f i = g j)) (hx : x = f (158 * q + i)) (hy : y = g (158 * q + j)) (h : y ≤ x) : k = 0 → nI 0 = if f i < g j then (1 : Int32) else 0 := by
  intro h0
  rcases hz h0 with h1 | ⟨h1, -⟩
  · have hq : q = 0 := by omega
    subst hq
    rw [hx, hy] at h
    rw [if_neg (by simpa using Int64.not_lt.mpr h)]; rfl
  · omega

theorem ps_1 {k to i j b : Nat} {f g : Nat → Int64} (h0 : k = 0) (hg : g = f) (hb : (b = 1 ∧ (f (158 * k + i) = INF ∨ f (158 * k + j) = INF)) ∨ (b = 0 ∧ ¬ (f (158 * k + i) = INF ∨ f (158 * k + j) = INF))) (hn : ¬ nI b = 0) : vp_updL g (158 * k + to) 9223372036854775807 = vp_updL f to (sm (f i) (f j)) := by
  subst h0; subst hg
  rcases hb with ⟨-, h1⟩ | ⟨h1, -⟩
  · have h2 : g i = INF ∨ g j = INF := by simpa using h1
    rw [sm, if_pos h2, Nat.mul_zero, Nat.zero_add]
  · subst h1; exact absurd rfl hn
theorem ps_0 {k to i j b : Nat} {f g : Nat → Int64} {x v : Int64} (h0 : k = 0) (hg : g = f ∧ x = 0) (hb : (b = 1 ∧ (f (158 * k + i) = INF ∨ f (158 * k + j) = INF)) ∨ (b = 0 ∧ ¬ (f (158 * k + i) = INF ∨ f (158 * k + j) = INF))) (hn : nI b = 0) (hv : v = (g (158 * k + i) + g (158 * k + j)) + x) : vp_updL g (158 * k + to) v = vp_updL f to (sm (f i) (f j)) := by
  obtain ⟨hg, hx⟩ := hg
  subst h0; subst hg; subst hx
  rcases hb with ⟨h1, -⟩ | ⟨-, h1⟩
  · subst h1; exact absurd hn (by decide)
  · have h2 : ¬ (g i = INF ∨ g j = INF) := by simpa using h1
    rw [hv, sm, if_neg h2, Nat.mul_zero, Nat.zero_add, Nat.zero_add, Nat.zero_add, Int64.add_zero]
theorem lo_0 {k i j m : Nat} {f g : Nat → Int64} {r : Int32} (hg : k = 0 → g = vp_updL f 157 (sm (f j) (f m))) (hr : k = 0 → r = if g 157 < g i then (1 : Int32) else 0) (hi : i < 157) (h : r = 0) : k = 0 → g = lw f i j m := by
  intro h0
  have hr := hr h0
  have hg := hg h0
  subst hg
  rw [h] at hr
  have hne : i ≠ 157 := by omega
  rw [pk_uLs, pk_uLn hne] at hr
  by_cases hc : sm (f j) (f m) < f i
  · rw [if_pos hc] at hr; exact absurd hr (by decide)
  · rw [lw, if_neg hc]
theorem lo_1 {k i j m : Nat} {f g g2 : Nat → Int64} {r : Int32} (hg : k = 0 → g = vp_updL f 157 (sm (f j) (f m))) (hr : k = 0 → r = if g 157 < g i then (1 : Int32) else 0) (hi : i < 157) (h : ¬ r = 0) (hg2 : k = 0 → g2 = vp_updL g i (g 157)) : k = 0 → g2 = lw f i j m := by
  intro h0
  have hr := hr h0
  have hg2 := hg2 h0
  have hg := hg h0
  subst hg2; subst hg
  have hne : i ≠ 157 := by omega
  rw [pk_uLs, pk_uLn hne] at hr
  by_cases hc : sm (f j) (f m) < f i
  · rw [lw, if_pos hc, pk_uLs]
  · rw [if_neg hc] at hr; exact absurd hr h

theorem pi_1 {k to i : Nat} {f g g0 : Nat → Int64} {r : Int32} {w : Int64} (hr : r = if f (158 * k + i) = INF then (1 : Int32) else 0) (hc : ¬ r = 0) (hg : k = 0 → g = vp_updL g0 to INF) (hw : f i = INF → w = INF) : k = 0 → g = vp_updL g0 to w := by
  intro h0
  have hg1 := hg h0
  subst h0
  rw [Nat.mul_zero, Nat.zero_add] at hr
  by_cases h : f i = INF
  · rw [hg1, hw h]
  · rw [if_neg h] at hr; exact absurd hr hc
theorem pi_0 {k i : Nat} {f : Nat → Int64} {r : Int32} (hr : r = if f (158 * k + i) = INF then (1 : Int32) else 0) (hc : r = 0) : ¬ f (158 * k + i) = INF := by
  intro h
  rw [if_pos h, hc] at hr
  exact absurd hr (by decide)

theorem ic_1 {k q : Nat} {f : Nat → Int64} {x : Int64} {r : Int32} (hq : q < 158) (hx : x = f (158 * k + q)) (h1 : ¬ x = INF) (h2 : 18014398509481984 ≤ x ∨ ¬ -18014398509481984 ≤ x) : (k = 0 ∧ ∀ c9 < 158, f c9 = INF ∨ (-18014398509481984 ≤ f c9 ∧ f c9 < 18014398509481984)) → r = 0 := by
  rintro ⟨h0, h⟩
  subst h0
  rw [Nat.mul_zero, Nat.zero_add] at hx
  rcases h q hq with h3 | ⟨h3, h4⟩
  · rw [hx] at h1; exact absurd h3 h1
  · rw [← hx] at h3 h4
    rcases h2 with h2 | h2
    · exact absurd h4 (Int64.not_lt.mpr h2)
    · exact absurd h3 h2
abbrev rm_X0_isInfinite : Room := { frames := 0, cells := 0, slots := 0, locals := 0 }
set_option maxHeartbeats 4000000 in
set_option maxRecDepth 100000 in
theorem c_X0_isInfinite (l : Launch) (G : GG) (B : Nat) (μ : mp) (h la k : Nat) (f : Nat → Int64) (i : Nat) (hh : μ h = some (.inr (0, [.int (nI 158), .int (nI 157), .ref la, .int (nI (158 * k))]))) (ha : μ la = some (.inl (G.2 0, 158 * k + 158, .inr (.inl f)))) (hk : k ≤ 1022) (hi : i < 158) : Met l yX0_isInfinite wsX0_isInfinite rm_X0_isInfinite (va_Pc [.ref h, .int (nI i)] (KW G B μ)) (va_Qi (fun r μ2 => μ2 = μ ∧ r = if f (158 * k + i) = INF then (1 : Int32) else 0) (BB G B) (fun q => B ≤ q)) 0 0 (fun q => B ≤ q) := by
  refine Met.ofW (cc := cX0_isInfinite) (maxL := 2) (ret := (some .boolean)) (by decide) rfl ?_
  intro p e s m args below meth c s₁ B9 hml hv
  obtain ⟨hargs, hBs, hP, hKK⟩ := hv
  have hx := B9.exec
  have hb := B9.bytes
  have hr := B9.returns
  have hts := atoms_spec (ws := wsX0_isInfinite) B9.pre
  have hown : s.vm.findClass RX0 = some m.cls := findClass_of_methodNamed B9.named
  have hlocks := B9.notSynchronized
  have hK := hKK.k
  have hS : va_S (fun q => B ≤ q) s.heap s.heap [] := va_S.rf
  obtain ⟨Q, hQ⟩ : ∃ Q, Q = MQ below (va_Qi (fun r μ2 => μ2 = μ ∧ r = if f (158 * k + i) = INF then (1 : Int32) else 0) (BB G B) (fun q => B ≤ q)) args s 0 0 (fun q => B ≤ q) := ⟨_, rfl⟩
  rw [← hQ]
  have ne0_1 : h ≠ la := mp_ne hh ha (by simp)
  have in_X0_isInfinite_X0 : ∀ w ∈ wsX00, w ∈ wsX0_isInfinite := by decide +kernel
  have hl := lv_entry ([.ref h, .int (nI i)]) (n := 2) (Nat.le_of_ble_eq_true rfl)
  have he9 : entryFrame m args 2 = entryFrame m ([.ref h, .int (nI i)] : List Value).toArray 2 := by rw [hargs]
  rw [he9, lg_entry_eq]
  generalize (lg_sl ([.ref h, .int (nI i)]) ++ List.replicate (2 - (lg_sl ([.ref h, .int (nI i)])).length) Slot.unset).toArray = ls at hl ⊢
  have hl : lv_has ls 2 [(0, .ref h), (1, .int (nI i))] := hl
  refine lv_aload_n hx hb dX0_isInfinite_0 rfl (lv_at hl 0 rfl) ?_
  refine mw_get (C := RX0) (T := TX0) (N := 4) hx hb hts in_X0_isInfinite_X0 hown hK hP (hh) rfl 2 (by decide) (hts (.fieldLink RX0 18 "OctagonDesk$Numbers" "limbs" "[J") (by decide +kernel)) (fun _ h9 => h9) rfl dX0_isInfinite_1 ?_
  refine lv_aload_n hx hb dX0_isInfinite_4 rfl (lv_at hl 0 rfl) ?_
  refine mw_get (C := RX0) (T := TX0) (N := 4) hx hb hts in_X0_isInfinite_X0 hown hK hP (hh) rfl 3 (by decide) (hts (.fieldLink RX0 22 "OctagonDesk$Numbers" "top" "I") (by decide +kernel)) (fun _ h9 => h9) rfl dX0_isInfinite_5 ?_
  refine lv_iload_n hx hb dX0_isInfinite_8 rfl (lv_at hl 1 rfl) ?_
  refine nv_iadd hx hb dX0_isInfinite_9 ?_
  refine mw_lald hx hb hK hP 0 (ha) rfl (by omega) (by omega) dX0_isInfinite_10 ?_
  refine lv_ldc2 (v := (9223372036854775807)) hx hb hown (hts (.constantLong RX0 25 (9223372036854775807)) (by decide +kernel)) dX0_isInfinite_11 ?_
  refine nl_if_ne (tgt := 22) hx hb dX0_isInfinite_14 dX0_isInfinite_15 (by decide) (fun hc14 => ?_) (fun hc14 => ?_)
  · refine lv_iconst (v := nI 0) hx hb dX0_isInfinite_22 (by decide) ?_
    rw [hQ]
    exact W.zret (v := nI 0) (ty := .boolean) hx hb hr (by first | rfl | decide) (fun t99 ht99 hW99 => ⟨⟨nI 0, μ, rfl, (⟨rfl, by first | (rw [if_pos hc14]; rfl) | (rw [if_neg hc14]; rfl)⟩), by show mw _ _ _ _ t99.heap; rw [ht99]; exact hP⟩, hS.F ht99⟩) hS.2.2 dX0_isInfinite_23
  · refine lv_iconst (v := nI 1) hx hb dX0_isInfinite_18 (by decide) ?_
    refine lv_goto (tgt := 23) hx hb dX0_isInfinite_19 (by decide) ?_
    rw [hQ]
    exact W.zret (v := nI 1) (ty := .boolean) hx hb hr (by first | rfl | decide) (fun t99 ht99 hW99 => ⟨⟨nI 1, μ, rfl, (⟨rfl, by first | (rw [if_pos hc14]; rfl) | (rw [if_neg hc14]; rfl)⟩), by show mw _ _ _ _ t99.heap; rw [ht99]; exact hP⟩, hS.F ht99⟩) hS.2.2 dX0_isInfinite_23

abbrev rm_X0_isNegative : Room := { frames := 0, cells := 0, slots := 0, locals := 0 }
set_option maxHeartbeats 4000000 in
set_option maxRecDepth 100000 in
theorem c_X0_isNegative (l : Launch) (G : GG) (B : Nat) (μ : mp) (h la k : Nat) (f : Nat → Int64) (i : Nat) (hh : μ h = some (.inr (0, [.int (nI 158), .int (nI 157), .ref la, .int (nI (158 * k))]))) (ha : μ la = some (.inl (G.2 0, 158 * k + 158, .inr (.inl f)))) (hk : k ≤ 1022) (hi : i < 158) : Met l yX0_isNegative wsX0_isNegative rm_X0_isNegative (va_Pc [.ref h, .int (nI i)] (KW G B μ)) (va_Qi (fun r μ2 => μ2 = μ ∧ r = if f (158 * k + i) < 0 then (1 : Int32) else 0) (BB G B) (fun q => B ≤ q)) 0 0 (fun q => B ≤ q) := by
  refine Met.ofW (cc := cX0_isNegative) (maxL := 2) (ret := (some .boolean)) (by decide) rfl ?_
  intro p e s m args below meth c s₁ B9 hml hv
  obtain ⟨hargs, hBs, hP, hKK⟩ := hv
  have hx := B9.exec
  have hb := B9.bytes
  have hr := B9.returns
  have hts := atoms_spec (ws := wsX0_isNegative) B9.pre
  have hown : s.vm.findClass RX0 = some m.cls := findClass_of_methodNamed B9.named
  have hlocks := B9.notSynchronized
  have hK := hKK.k
  have hS : va_S (fun q => B ≤ q) s.heap s.heap [] := va_S.rf
  obtain ⟨Q, hQ⟩ : ∃ Q, Q = MQ below (va_Qi (fun r μ2 => μ2 = μ ∧ r = if f (158 * k + i) < 0 then (1 : Int32) else 0) (BB G B) (fun q => B ≤ q)) args s 0 0 (fun q => B ≤ q) := ⟨_, rfl⟩
  rw [← hQ]
  have ne0_1 : h ≠ la := mp_ne hh ha (by simp)
  have in_X0_isNegative_X0 : ∀ w ∈ wsX00, w ∈ wsX0_isNegative := by decide +kernel
  have hl := lv_entry ([.ref h, .int (nI i)]) (n := 2) (Nat.le_of_ble_eq_true rfl)
  have he9 : entryFrame m args 2 = entryFrame m ([.ref h, .int (nI i)] : List Value).toArray 2 := by rw [hargs]
  rw [he9, lg_entry_eq]
  generalize (lg_sl ([.ref h, .int (nI i)]) ++ List.replicate (2 - (lg_sl ([.ref h, .int (nI i)])).length) Slot.unset).toArray = ls at hl ⊢
  have hl : lv_has ls 2 [(0, .ref h), (1, .int (nI i))] := hl
  refine lv_aload_n hx hb dX0_isNegative_0 rfl (lv_at hl 0 rfl) ?_
  refine mw_get (C := RX0) (T := TX0) (N := 4) hx hb hts in_X0_isNegative_X0 hown hK hP (hh) rfl 2 (by decide) (hts (.fieldLink RX0 18 "OctagonDesk$Numbers" "limbs" "[J") (by decide +kernel)) (fun _ h9 => h9) rfl dX0_isNegative_1 ?_
  refine lv_aload_n hx hb dX0_isNegative_4 rfl (lv_at hl 0 rfl) ?_
  refine mw_get (C := RX0) (T := TX0) (N := 4) hx hb hts in_X0_isNegative_X0 hown hK hP (hh) rfl 3 (by decide) (hts (.fieldLink RX0 22 "OctagonDesk$Numbers" "top" "I") (by decide +kernel)) (fun _ h9 => h9) rfl dX0_isNegative_5 ?_
  refine lv_iload_n hx hb dX0_isNegative_8 rfl (lv_at hl 1 rfl) ?_
  refine nv_iadd hx hb dX0_isNegative_9 ?_
  refine mw_lald hx hb hK hP 0 (ha) rfl (by omega) (by omega) dX0_isNegative_10 ?_
  refine lv_lconst (v := 0) hx hb dX0_isNegative_11 (by decide) ?_
  refine nl_if_ge (tgt := 20) hx hb dX0_isNegative_12 dX0_isNegative_13 (by decide) (fun hc12 => ?_) (fun hc12 => ?_)
  · refine lv_iconst (v := nI 0) hx hb dX0_isNegative_20 (by decide) ?_
    rw [hQ]
    exact W.zret (v := nI 0) (ty := .boolean) hx hb hr (by first | rfl | decide) (fun t99 ht99 hW99 => ⟨⟨nI 0, μ, rfl, (⟨rfl, by rw [if_neg (Int64.not_lt.mpr hc12)]; rfl⟩), by show mw _ _ _ _ t99.heap; rw [ht99]; exact hP⟩, hS.F ht99⟩) hS.2.2 dX0_isNegative_21
  · refine lv_iconst (v := nI 1) hx hb dX0_isNegative_16 (by decide) ?_
    refine lv_goto (tgt := 21) hx hb dX0_isNegative_17 (by decide) ?_
    rw [hQ]
    exact W.zret (v := nI 1) (ty := .boolean) hx hb hr (by first | rfl | decide) (fun t99 ht99 hW99 => ⟨⟨nI 1, μ, rfl, (⟨rfl, by rw [if_pos (Int64.not_le.mp hc12)]; rfl⟩), by show mw _ _ _ _ t99.heap; rw [ht99]; exact hP⟩, hS.F ht99⟩) hS.2.2 dX0_isNegative_21

abbrev rm_X0_isLess : Room := { frames := 0, cells := 0, slots := 0, locals := 0 }
set_option maxHeartbeats 4000000 in
set_option maxRecDepth 100000 in
theorem c_X0_isLess (l : Launch) (G : GG) (B : Nat) (μ : mp) (h la k : Nat) (f : Nat → Int64) (h2 la2 : Nat) (g : Nat → Int64) (i j : Nat) (hh : μ h = some (.inr (0, [.int (nI 158), .int (nI 157), .ref la, .int (nI (158 * k))]))) (ha : μ la = some (.inl (G.2 0, 158 * k + 158, .inr (.inl f)))) (hh2 : μ h2 = some (.inr (0, [.int (nI 158), .int (nI 157), .ref la2, .int (nI (158 * k))]))) (ha2 : μ la2 = some (.inl (G.2 0, 158 * k + 158, .inr (.inl g)))) (hk : k ≤ 1022) (hi : i < 158) (hj : j < 158) : Met l yX0_isLess wsX0_isLess rm_X0_isLess (va_Pc [.ref h, .int (nI i), .ref h2, .int (nI j)] (KW G B μ)) (va_Qi (fun r μ2 => μ2 = μ ∧ (r = 0 ∨ r = 1) ∧ (k = 0 → r = if f i < g j then (1 : Int32) else 0)) (BB G B) (fun q => B ≤ q)) 0 0 (fun q => B ≤ q) := by
  refine Met.ofW (cc := cX0_isLess) (maxL := 9) (ret := (some .boolean)) (by decide) rfl ?_
  intro p e s m args below meth c s₁ B9 hml hv
  obtain ⟨hargs, hBs, hP, hKK⟩ := hv
  have hx := B9.exec
  have hb := B9.bytes
  have hr := B9.returns
  have hts := atoms_spec (ws := wsX0_isLess) B9.pre
  have hown : s.vm.findClass RX0 = some m.cls := findClass_of_methodNamed B9.named
  have hlocks := B9.notSynchronized
  have hK := hKK.k
  have hS : va_S (fun q => B ≤ q) s.heap s.heap [] := va_S.rf
  obtain ⟨Q, hQ⟩ : ∃ Q, Q = MQ below (va_Qi (fun r μ2 => μ2 = μ ∧ (r = 0 ∨ r = 1) ∧ (k = 0 → r = if f i < g j then (1 : Int32) else 0)) (BB G B) (fun q => B ≤ q)) args s 0 0 (fun q => B ≤ q) := ⟨_, rfl⟩
  rw [← hQ]
  have ne0_1 : h ≠ la := mp_ne hh ha (by simp)
  have ne0_3 : h ≠ la2 := mp_ne hh ha2 (by simp)
  have ne1_2 : la ≠ h2 := mp_ne ha hh2 (by simp)
  have ne2_3 : h2 ≠ la2 := mp_ne hh2 ha2 (by simp)
  have in_X0_isLess_X0 : ∀ w ∈ wsX00, w ∈ wsX0_isLess := by decide +kernel
  have L6 : ∀ (N6 : Nat) (a : Int32) (q : Nat) (hN6 : q < N6) (ha4 : a = dn q) (hq : q ≤ k + 1) (hz : k = 0 → q = 1 ∨ (q = 0 ∧ f i = g j)), ∀ (H : Heap) (locs : List Loc), mw G.1 vwCl B (μ) H → va_S (fun q => B ≤ q) s.heap H locs → ∀ ls : Array Slot, lv_has ls 9 [(0, .ref h), (1, .int (nI i)), (2, .ref h2), (3, .int (nI j)), (4, .int a)] → W p l e rm_X0_isLess s m args below meth c H locs 0 0 Q (F0 m 6 ls []) := by
    intro N6
    induction N6 with
    | zero => intro a q hN6; exact absurd hN6 (Nat.not_lt_zero _)
    | succ N6 ih6 =>
      intro a q hN6 ha4 hq hz H locs hP hS ls hl
      rcases q with _ | q
      · have ha4 : a = -158 := ha4
        subst ha4
        refine lv_iload hx hb dX0_isLess_6 (lv_at hl 4 rfl) ?_
        refine lv_if_lt (tgt := 67) hx hb dX0_isLess_8 (by decide) (fun hc8 => ?_) (fun hc8 => ?_)
        · refine lv_iconst (v := nI 0) hx hb dX0_isLess_67 (by decide) ?_
          rw [hQ]
          exact W.zret (v := nI 0) (ty := .boolean) hx hb hr (by first | rfl | decide) (fun t99 ht99 hW99 => ⟨⟨nI 0, μ, rfl, (⟨rfl, Or.inl rfl, il_end hz⟩), by show mw _ _ _ _ t99.heap; rw [ht99]; exact hP⟩, hS.F ht99⟩) hS.2.2 dX0_isLess_68
        · exact absurd (by decide : (-158 : Int32) < 0) hc8
      · have ha4 : a = nI (158 * q) := ha4
        subst ha4
        refine lv_iload hx hb dX0_isLess_6 (lv_at hl 4 rfl) ?_
        refine lv_if_lt (tgt := 67) hx hb dX0_isLess_8 (by decide) (fun hc8 => ?_) (fun hc8 => ?_)
        · exact absurd hc8 (nI_pos (by omega))
        · refine lv_aload_n hx hb dX0_isLess_11 rfl (lv_at hl 0 rfl) ?_
          refine mw_get (C := RX0) (T := TX0) (N := 4) hx hb hts in_X0_isLess_X0 hown hK hP (hh) rfl 2 (by decide) (hts (.fieldLink RX0 18 "OctagonDesk$Numbers" "limbs" "[J") (by decide +kernel)) (fun _ h9 => h9) rfl dX0_isLess_12 ?_
          refine lv_iload hx hb dX0_isLess_15 (lv_at hl 4 rfl) ?_
          refine lv_iload_n hx hb dX0_isLess_17 rfl (lv_at hl 1 rfl) ?_
          refine nv_iadd hx hb dX0_isLess_18 ?_
          refine mw_lald hx hb hK hP 0 (ha) rfl (by omega) (by omega) dX0_isLess_19 ?_
          refine lv_topl (fun v20 ev20 => ?_)
          refine lv_lstore (lv' := [(5, .long v20), (0, .ref h), (1, .int (nI i)), (2, .ref h2), (3, .int (nI j)), (4, .int (nI (158 * q)))]) hx hb dX0_isLess_20 hl (by decide) rfl (fun ls hl => ?_)
          refine lv_aload_n hx hb dX0_isLess_22 rfl (lv_at hl 3 rfl) ?_
          refine mw_get (C := RX0) (T := TX0) (N := 4) hx hb hts in_X0_isLess_X0 hown hK hP (hh2) rfl 2 (by decide) (hts (.fieldLink RX0 18 "OctagonDesk$Numbers" "limbs" "[J") (by decide +kernel)) (fun _ h9 => h9) rfl dX0_isLess_23 ?_
          refine lv_iload hx hb dX0_isLess_26 (lv_at hl 5 rfl) ?_
          refine lv_iload_n hx hb dX0_isLess_28 rfl (lv_at hl 4 rfl) ?_
          refine nv_iadd hx hb dX0_isLess_29 ?_
          refine mw_lald hx hb hK hP 0 (ha2) rfl (by omega) (by omega) dX0_isLess_30 ?_
          refine lv_topl (fun v31 ev31 => ?_)
          refine lv_lstore (lv' := [(7, .long v31), (5, .long v20), (0, .ref h), (1, .int (nI i)), (2, .ref h2), (3, .int (nI j)), (4, .int (nI (158 * q)))]) hx hb dX0_isLess_31 hl (by decide) rfl (fun ls hl => ?_)
          refine lv_lload hx hb dX0_isLess_33 (lv_at hl 1 rfl) ?_
          refine lv_lload hx hb dX0_isLess_35 (lv_at hl 0 rfl) ?_
          refine nl_if_eq (tgt := 55) hx hb dX0_isLess_37 dX0_isLess_38 (by decide) (fun hc37 => ?_) (fun hc37 => ?_)
          · refine lv_iload hx hb dX0_isLess_55 (lv_at hl 6 rfl) ?_
            refine lv_aload_n hx hb dX0_isLess_57 rfl (lv_at hl 2 rfl) ?_
            refine mw_get (C := RX0) (T := TX0) (N := 4) hx hb hts in_X0_isLess_X0 hown hK hP (hh) rfl 0 (by decide) (hts (.fieldLink RX0 15 "OctagonDesk$Numbers" "cells" "I") (by decide +kernel)) (fun _ h9 => h9) rfl dX0_isLess_58 ?_
            refine lv_isub hx hb dX0_isLess_61 ?_
            refine lv_topi (fun v62 ev62 => ?_)
            refine lv_istore (lv' := [(4, .int v62), (7, .long v31), (5, .long v20), (0, .ref h), (1, .int (nI i)), (2, .ref h2), (3, .int (nI j))]) hx hb dX0_isLess_62 hl (by decide) rfl (fun ls hl => ?_)
            refine lv_goto (tgt := 6) hx hb dX0_isLess_64 (by decide) ?_
            exact ih6 v62 q (by omega) (by rw [ev62]; exact dn_sub q) (by omega) (il_keep hz ev20 ev31 hc37) _ _ hP hS ls (lv_sub hl [3, 4, 5, 6, 0] rfl)
          · refine lv_lload hx hb dX0_isLess_41 (lv_at hl 1 rfl) ?_
            refine lv_lload hx hb dX0_isLess_43 (lv_at hl 0 rfl) ?_
            refine nl_if_ge (tgt := 53) hx hb dX0_isLess_45 dX0_isLess_46 (by decide) (fun hc45 => ?_) (fun hc45 => ?_)
            · refine lv_iconst (v := nI 0) hx hb dX0_isLess_53 (by decide) ?_
              rw [hQ]
              exact W.zret (v := nI 0) (ty := .boolean) hx hb hr (by first | rfl | decide) (fun t99 ht99 hW99 => ⟨⟨nI 0, μ, rfl, (⟨rfl, Or.inl rfl, il_0 hz ev20 ev31 hc45⟩), by show mw _ _ _ _ t99.heap; rw [ht99]; exact hP⟩, hS.F ht99⟩) hS.2.2 dX0_isLess_54
            · refine lv_iconst (v := nI 1) hx hb dX0_isLess_49 (by decide) ?_
              refine lv_goto (tgt := 54) hx hb dX0_isLess_50 (by decide) ?_
              rw [hQ]
              exact W.zret (v := nI 1) (ty := .boolean) hx hb hr (by first | rfl | decide) (fun t99 ht99 hW99 => ⟨⟨nI 1, μ, rfl, (⟨rfl, Or.inr rfl, il_1 hz ev20 ev31 hc45⟩), by show mw _ _ _ _ t99.heap; rw [ht99]; exact hP⟩, hS.F ht99⟩) hS.2.2 dX0_isLess_54
  have hl := lv_entry ([.ref h, .int (nI i), .ref h2, .int (nI j)]) (n := 9) (Nat.le_of_ble_eq_true rfl)
  have he9 : entryFrame m args 9 = entryFrame m ([.ref h, .int (nI i), .ref h2, .int (nI j)] : List Value).toArray 9 := by rw [hargs]
  rw [he9, lg_entry_eq]
  generalize (lg_sl ([.ref h, .int (nI i), .ref h2, .int (nI j)]) ++ List.replicate (9 - (lg_sl ([.ref h, .int (nI i), .ref h2, .int (nI j)])).length) Slot.unset).toArray = ls at hl ⊢
  have hl : lv_has ls 9 [(0, .ref h), (1, .int (nI i)), (2, .ref h2), (3, .int (nI j))] := hl
  refine lv_aload_n hx hb dX0_isLess_0 rfl (lv_at hl 0 rfl) ?_
  refine mw_get (C := RX0) (T := TX0) (N := 4) hx hb hts in_X0_isLess_X0 hown hK hP (hh) rfl 3 (by decide) (hts (.fieldLink RX0 22 "OctagonDesk$Numbers" "top" "I") (by decide +kernel)) (fun _ h9 => h9) rfl dX0_isLess_1 ?_
  refine lv_istore (lv' := [(4, .int (nI (158 * k))), (0, .ref h), (1, .int (nI i)), (2, .ref h2), (3, .int (nI j))]) hx hb dX0_isLess_4 hl (by decide) rfl (fun ls hl => ?_)
  exact L6 _ (nI (158 * k)) (k + 1) (Nat.lt_succ_self _) (rfl) (by omega) (fun h0 => Or.inl (by omega)) _ _ hP hS ls (lv_sub hl [1, 2, 3, 4, 0] rfl)

abbrev rm_X0_set : Room := { frames := 0, cells := 0, slots := 0, locals := 0 }
set_option maxHeartbeats 4000000 in
set_option maxRecDepth 100000 in
theorem c_X0_set (l : Launch) (G : GG) (B : Nat) (μ : mp) (h la k : Nat) (f : Nat → Int64) (i : Nat) (v : Int64) (hh : μ h = some (.inr (0, [.int (nI 158), .int (nI 157), .ref la, .int (nI (158 * k))]))) (ha : μ la = some (.inl (G.2 0, 158 * k + 158, .inr (.inl f)))) (hk : k ≤ 1022) (hi : i < 158) : Met l yX0_set wsX0_set rm_X0_set (va_Pc [.ref h, .int (nI i), .long v] (KW G B μ)) (va_Qv (fun μ2 => ∃ g9 : Nat → Int64, μ2 = mu μ la (.inl (G.2 0, 158 * k + 158, .inr (.inl g9))) ∧ (k = 0 → g9 = vp_updL f i v)) (BB G B) (fun q => B ≤ q)) 0 0 (fun q => B ≤ q) := by
  refine Met.ofW (cc := cX0_set) (maxL := 7) (ret := none) (by decide) rfl ?_
  intro p e s m args below meth c s₁ B9 hml hv
  obtain ⟨hargs, hBs, hP, hKK⟩ := hv
  have hx := B9.exec
  have hb := B9.bytes
  have hr := B9.returns
  have hts := atoms_spec (ws := wsX0_set) B9.pre
  have hown : s.vm.findClass RX0 = some m.cls := findClass_of_methodNamed B9.named
  have hlocks := B9.notSynchronized
  have hK := hKK.k
  have hS : va_S (fun q => B ≤ q) s.heap s.heap [] := va_S.rf
  obtain ⟨Q, hQ⟩ : ∃ Q, Q = MQ below (va_Qv (fun μ2 => ∃ g9 : Nat → Int64, μ2 = mu μ la (.inl (G.2 0, 158 * k + 158, .inr (.inl g9))) ∧ (k = 0 → g9 = vp_updL f i v)) (BB G B) (fun q => B ≤ q)) args s 0 0 (fun q => B ≤ q) := ⟨_, rfl⟩
  rw [← hQ]
  have ne0_1 : h ≠ la := mp_ne hh ha (by simp)
  have in_X0_set_X0 : ∀ w ∈ wsX00, w ∈ wsX0_set := by decide +kernel
  have hP : mw G.1 vwCl B (mu μ la (.inl (G.2 0, 158 * k + 158, .inr (.inl f)))) s.heap := mw_eq (mu_i ha).symm hP
  have L6 : ∀ (N6 : Nat) (a : Nat) (q : Nat) (x : Int64) (g : Nat → Int64) (hN6 : k - q < N6) (ha4 : a = 158 * q) (hq : q ≤ k) (hz : k = 0 → g = f ∧ x = v), ∀ (H : Heap) (locs : List Loc), mw G.1 vwCl B (mu μ la (.inl (G.2 0, 158 * k + 158, .inr (.inl g)))) H → va_S (fun q => B ≤ q) s.heap H locs → ∀ ls : Array Slot, lv_has ls 7 [(0, .ref h), (1, .int (nI i)), (4, .long x), (6, .int (nI a))] → W p l e rm_X0_set s m args below meth c H locs 0 0 Q (F0 m 6 ls []) := by
    intro N6
    induction N6 with
    | zero => intro a q x g hN6; exact absurd hN6 (Nat.not_lt_zero _)
    | succ N6 ih6 =>
      intro a q x g hN6 ha4 hq hz H locs hP hS ls hl
      refine lv_iload hx hb dX0_set_6 (lv_at hl 3 rfl) ?_
      refine lv_aload_n hx hb dX0_set_8 rfl (lv_at hl 0 rfl) ?_
      refine mw_get (C := RX0) (T := TX0) (N := 4) hx hb hts in_X0_set_X0 hown hK hP ((mu_n ne0_1).trans (hh)) rfl 3 (by decide) (hts (.fieldLink RX0 22 "OctagonDesk$Numbers" "top" "I") (by decide +kernel)) (fun _ h9 => h9) rfl dX0_set_9 ?_
      refine nv_icmp_ge (tgt := 49) hx hb (by omega) (by omega) dX0_set_12 (by decide) (fun hc12 => ?_) (fun hc12 => ?_)
      · refine lv_aload_n hx hb dX0_set_49 rfl (lv_at hl 0 rfl) ?_
        refine mw_get (C := RX0) (T := TX0) (N := 4) hx hb hts in_X0_set_X0 hown hK hP ((mu_n ne0_1).trans (hh)) rfl 2 (by decide) (hts (.fieldLink RX0 18 "OctagonDesk$Numbers" "limbs" "[J") (by decide +kernel)) (fun _ h9 => h9) rfl dX0_set_50 ?_
        refine lv_aload_n hx hb dX0_set_53 rfl (lv_at hl 0 rfl) ?_
        refine mw_get (C := RX0) (T := TX0) (N := 4) hx hb hts in_X0_set_X0 hown hK hP ((mu_n ne0_1).trans (hh)) rfl 3 (by decide) (hts (.fieldLink RX0 22 "OctagonDesk$Numbers" "top" "I") (by decide +kernel)) (fun _ h9 => h9) rfl dX0_set_54 ?_
        refine lv_iload_n hx hb dX0_set_57 rfl (lv_at hl 1 rfl) ?_
        refine nv_iadd hx hb dX0_set_58 ?_
        refine lv_lload hx hb dX0_set_59 (lv_at hl 2 rfl) ?_
        refine mw_last hx hb hK hP hS 0 (mu_s _ _ _) rfl (by omega) (by omega) dX0_set_61 (fun H locs hP hS => ?_)
        have hP : mw G.1 vwCl B (mu μ la (.inl (G.2 0, 158 * k + 158, .inr (.inl (vp_updL g ((158 * k) + i) x))))) _ := mw_eq (mu_u _ _ _ _) hP
        rw [hQ]
        exact W.vret hx hb hr (fun t99 ht99 hW99 => ⟨⟨mu μ la (.inl (G.2 0, 158 * k + 158, .inr (.inl (vp_updL g ((158 * k) + i) x)))), rfl, (⟨_, rfl, fun h0 => by obtain ⟨h1, h2⟩ := hz h0; rw [h1, h2, h0, Nat.mul_zero, Nat.zero_add]⟩), by show mw _ _ _ _ t99.heap; rw [ht99]; exact hP⟩, hS.F ht99⟩) hS.2.2 dX0_set_62
      · refine lv_aload_n hx hb dX0_set_15 rfl (lv_at hl 0 rfl) ?_
        refine mw_get (C := RX0) (T := TX0) (N := 4) hx hb hts in_X0_set_X0 hown hK hP ((mu_n ne0_1).trans (hh)) rfl 2 (by decide) (hts (.fieldLink RX0 18 "OctagonDesk$Numbers" "limbs" "[J") (by decide +kernel)) (fun _ h9 => h9) rfl dX0_set_16 ?_
        refine lv_iload hx hb dX0_set_19 (lv_at hl 3 rfl) ?_
        refine lv_iload_n hx hb dX0_set_21 rfl (lv_at hl 1 rfl) ?_
        refine nv_iadd hx hb dX0_set_22 ?_
        refine lv_lload hx hb dX0_set_23 (lv_at hl 2 rfl) ?_
        refine lv_ldc2 (v := (1152921504606846975)) hx hb hown (hts (.constantLong RX0 39 (1152921504606846975)) (by decide +kernel)) dX0_set_25 ?_
        refine lv_land hx hb dX0_set_28 ?_
        refine lv_topl (fun v29 ev29 => ?_)
        refine mw_last hx hb hK hP hS 0 (mu_s _ _ _) rfl (by omega) (by omega) dX0_set_29 (fun H locs hP hS => ?_)
        have hP : mw G.1 vwCl B (mu μ la (.inl (G.2 0, 158 * k + 158, .inr (.inl (vp_updL g (a + i) v29))))) _ := mw_eq (mu_u _ _ _ _) hP
        refine lv_lload hx hb dX0_set_30 (lv_at hl 2 rfl) ?_
        refine lv_bipush (v := nI 60) hx hb dX0_set_32 (by decide) ?_
        refine lv_lshr (v := x >>> ((nI 60).toInt64 &&& 63)) hx hb dX0_set_34 rfl ?_
        refine lv_topl (fun v35 ev35 => ?_)
        refine lv_lstore (lv' := [(4, .long v35), (0, .ref h), (1, .int (nI i)), (6, .int (nI a))]) hx hb dX0_set_35 hl (by decide) rfl (fun ls hl => ?_)
        refine lv_iload hx hb dX0_set_37 (lv_at hl 3 rfl) ?_
        refine lv_aload_n hx hb dX0_set_39 rfl (lv_at hl 1 rfl) ?_
        refine mw_get (C := RX0) (T := TX0) (N := 4) hx hb hts in_X0_set_X0 hown hK hP ((mu_n ne0_1).trans (hh)) rfl 0 (by decide) (hts (.fieldLink RX0 15 "OctagonDesk$Numbers" "cells" "I") (by decide +kernel)) (fun _ h9 => h9) rfl dX0_set_40 ?_
        refine nv_iadd hx hb dX0_set_43 ?_
        refine lv_istore (lv' := [(6, .int (nI (a + 158))), (4, .long v35), (0, .ref h), (1, .int (nI i))]) hx hb dX0_set_44 hl (by decide) rfl (fun ls hl => ?_)
        refine lv_goto (tgt := 6) hx hb dX0_set_46 (by decide) ?_
        exact ih6 (a + 158) (q + 1) v35 (vp_updL g (a + i) v29) (by omega) (by omega) (by omega) (fun h0 => absurd h0 (by omega)) _ _ hP hS ls (lv_sub hl [2, 3, 1, 0] rfl)
  have hl := lv_entry ([.ref h, .int (nI i), .long v]) (n := 7) (Nat.le_of_ble_eq_true rfl)
  have he9 : entryFrame m args 7 = entryFrame m ([.ref h, .int (nI i), .long v] : List Value).toArray 7 := by rw [hargs]
  rw [he9, lg_entry_eq]
  generalize (lg_sl ([.ref h, .int (nI i), .long v]) ++ List.replicate (7 - (lg_sl ([.ref h, .int (nI i), .long v])).length) Slot.unset).toArray = ls at hl ⊢
  have hl : lv_has ls 7 [(0, .ref h), (1, .int (nI i)), (2, .long v)] := hl
  refine lv_lload_n hx hb dX0_set_0 rfl (lv_at hl 2 rfl) ?_
  refine lv_lstore (lv' := [(4, .long v), (0, .ref h), (1, .int (nI i)), (2, .long v)]) hx hb dX0_set_1 hl (by decide) rfl (fun ls hl => ?_)
  refine lv_iconst (v := nI 0) hx hb dX0_set_3 (by decide) ?_
  refine lv_istore (lv' := [(6, .int (nI 0)), (4, .long v), (0, .ref h), (1, .int (nI i)), (2, .long v)]) hx hb dX0_set_4 hl (by decide) rfl (fun ls hl => ?_)
  exact L6 _ 0 0 v f (Nat.lt_succ_self _) (by omega) (by omega) (fun h0 => ⟨rfl, rfl⟩) _ _ hP hS ls (lv_sub hl [2, 3, 1, 0] rfl)

abbrev rm_X0_setInfinite : Room := { frames := 0, cells := 0, slots := 0, locals := 0 }
set_option maxHeartbeats 4000000 in
set_option maxRecDepth 100000 in
theorem c_X0_setInfinite (l : Launch) (G : GG) (B : Nat) (μ : mp) (h la k : Nat) (f : Nat → Int64) (i : Nat) (hh : μ h = some (.inr (0, [.int (nI 158), .int (nI 157), .ref la, .int (nI (158 * k))]))) (ha : μ la = some (.inl (G.2 0, 158 * k + 158, .inr (.inl f)))) (hk : k ≤ 1022) (hi : i < 158) : Met l yX0_setInfinite wsX0_setInfinite rm_X0_setInfinite (va_Pc [.ref h, .int (nI i)] (KW G B μ)) (va_Qv (fun μ2 => ∃ g9 : Nat → Int64, μ2 = mu μ la (.inl (G.2 0, 158 * k + 158, .inr (.inl g9))) ∧ (k = 0 → g9 = vp_updL f i INF)) (BB G B) (fun q => B ≤ q)) 0 0 (fun q => B ≤ q) := by
  refine Met.ofW (cc := cX0_setInfinite) (maxL := 3) (ret := none) (by decide) rfl ?_
  intro p e s m args below meth c s₁ B9 hml hv
  obtain ⟨hargs, hBs, hP, hKK⟩ := hv
  have hx := B9.exec
  have hb := B9.bytes
  have hr := B9.returns
  have hts := atoms_spec (ws := wsX0_setInfinite) B9.pre
  have hown : s.vm.findClass RX0 = some m.cls := findClass_of_methodNamed B9.named
  have hlocks := B9.notSynchronized
  have hK := hKK.k
  have hS : va_S (fun q => B ≤ q) s.heap s.heap [] := va_S.rf
  obtain ⟨Q, hQ⟩ : ∃ Q, Q = MQ below (va_Qv (fun μ2 => ∃ g9 : Nat → Int64, μ2 = mu μ la (.inl (G.2 0, 158 * k + 158, .inr (.inl g9))) ∧ (k = 0 → g9 = vp_updL f i INF)) (BB G B) (fun q => B ≤ q)) args s 0 0 (fun q => B ≤ q) := ⟨_, rfl⟩
  rw [← hQ]
  have ne0_1 : h ≠ la := mp_ne hh ha (by simp)
  have in_X0_setInfinite_X0 : ∀ w ∈ wsX00, w ∈ wsX0_setInfinite := by decide +kernel
  have hP : mw G.1 vwCl B (mu μ la (.inl (G.2 0, 158 * k + 158, .inr (.inl f)))) s.heap := mw_eq (mu_i ha).symm hP
  have L2 : ∀ (N2 : Nat) (a : Nat) (q : Nat) (g : Nat → Int64) (hN2 : k - q < N2) (ha4 : a = 158 * q) (hq : q ≤ k) (hz : k = 0 → g = f), ∀ (H : Heap) (locs : List Loc), mw G.1 vwCl B (mu μ la (.inl (G.2 0, 158 * k + 158, .inr (.inl g)))) H → va_S (fun q => B ≤ q) s.heap H locs → ∀ ls : Array Slot, lv_has ls 3 [(0, .ref h), (1, .int (nI i)), (2, .int (nI a))] → W p l e rm_X0_setInfinite s m args below meth c H locs 0 0 Q (F0 m 2 ls []) := by
    intro N2
    induction N2 with
    | zero => intro a q g hN2; exact absurd hN2 (Nat.not_lt_zero _)
    | succ N2 ih2 =>
      intro a q g hN2 ha4 hq hz H locs hP hS ls hl
      refine lv_iload_n hx hb dX0_setInfinite_2 rfl (lv_at hl 2 rfl) ?_
      refine lv_aload_n hx hb dX0_setInfinite_3 rfl (lv_at hl 0 rfl) ?_
      refine mw_get (C := RX0) (T := TX0) (N := 4) hx hb hts in_X0_setInfinite_X0 hown hK hP ((mu_n ne0_1).trans (hh)) rfl 3 (by decide) (hts (.fieldLink RX0 22 "OctagonDesk$Numbers" "top" "I") (by decide +kernel)) (fun _ h9 => h9) rfl dX0_setInfinite_4 ?_
      refine nv_icmp_ge (tgt := 29) hx hb (by omega) (by omega) dX0_setInfinite_7 (by decide) (fun hc7 => ?_) (fun hc7 => ?_)
      · refine lv_aload_n hx hb dX0_setInfinite_29 rfl (lv_at hl 0 rfl) ?_
        refine mw_get (C := RX0) (T := TX0) (N := 4) hx hb hts in_X0_setInfinite_X0 hown hK hP ((mu_n ne0_1).trans (hh)) rfl 2 (by decide) (hts (.fieldLink RX0 18 "OctagonDesk$Numbers" "limbs" "[J") (by decide +kernel)) (fun _ h9 => h9) rfl dX0_setInfinite_30 ?_
        refine lv_aload_n hx hb dX0_setInfinite_33 rfl (lv_at hl 0 rfl) ?_
        refine mw_get (C := RX0) (T := TX0) (N := 4) hx hb hts in_X0_setInfinite_X0 hown hK hP ((mu_n ne0_1).trans (hh)) rfl 3 (by decide) (hts (.fieldLink RX0 22 "OctagonDesk$Numbers" "top" "I") (by decide +kernel)) (fun _ h9 => h9) rfl dX0_setInfinite_34 ?_
        refine lv_iload_n hx hb dX0_setInfinite_37 rfl (lv_at hl 1 rfl) ?_
        refine nv_iadd hx hb dX0_setInfinite_38 ?_
        refine lv_ldc2 (v := (9223372036854775807)) hx hb hown (hts (.constantLong RX0 25 (9223372036854775807)) (by decide +kernel)) dX0_setInfinite_39 ?_
        refine mw_last hx hb hK hP hS 0 (mu_s _ _ _) rfl (by omega) (by omega) dX0_setInfinite_42 (fun H locs hP hS => ?_)
        have hP : mw G.1 vwCl B (mu μ la (.inl (G.2 0, 158 * k + 158, .inr (.inl (vp_updL g ((158 * k) + i) 9223372036854775807))))) _ := mw_eq (mu_u _ _ _ _) hP
        rw [hQ]
        exact W.vret hx hb hr (fun t99 ht99 hW99 => ⟨⟨mu μ la (.inl (G.2 0, 158 * k + 158, .inr (.inl (vp_updL g ((158 * k) + i) 9223372036854775807)))), rfl, (⟨_, rfl, fun h0 => by rw [hz h0, h0, Nat.mul_zero, Nat.zero_add]⟩), by show mw _ _ _ _ t99.heap; rw [ht99]; exact hP⟩, hS.F ht99⟩) hS.2.2 dX0_setInfinite_43
      · refine lv_aload_n hx hb dX0_setInfinite_10 rfl (lv_at hl 0 rfl) ?_
        refine mw_get (C := RX0) (T := TX0) (N := 4) hx hb hts in_X0_setInfinite_X0 hown hK hP ((mu_n ne0_1).trans (hh)) rfl 2 (by decide) (hts (.fieldLink RX0 18 "OctagonDesk$Numbers" "limbs" "[J") (by decide +kernel)) (fun _ h9 => h9) rfl dX0_setInfinite_11 ?_
        refine lv_iload_n hx hb dX0_setInfinite_14 rfl (lv_at hl 2 rfl) ?_
        refine lv_iload_n hx hb dX0_setInfinite_15 rfl (lv_at hl 1 rfl) ?_
        refine nv_iadd hx hb dX0_setInfinite_16 ?_
        refine lv_lconst (v := 0) hx hb dX0_setInfinite_17 (by decide) ?_
        refine mw_last hx hb hK hP hS 0 (mu_s _ _ _) rfl (by omega) (by omega) dX0_setInfinite_18 (fun H locs hP hS => ?_)
        have hP : mw G.1 vwCl B (mu μ la (.inl (G.2 0, 158 * k + 158, .inr (.inl (vp_updL g (a + i) 0))))) _ := mw_eq (mu_u _ _ _ _) hP
        refine lv_iload_n hx hb dX0_setInfinite_19 rfl (lv_at hl 2 rfl) ?_
        refine lv_aload_n hx hb dX0_setInfinite_20 rfl (lv_at hl 0 rfl) ?_
        refine mw_get (C := RX0) (T := TX0) (N := 4) hx hb hts in_X0_setInfinite_X0 hown hK hP ((mu_n ne0_1).trans (hh)) rfl 0 (by decide) (hts (.fieldLink RX0 15 "OctagonDesk$Numbers" "cells" "I") (by decide +kernel)) (fun _ h9 => h9) rfl dX0_setInfinite_21 ?_
        refine nv_iadd hx hb dX0_setInfinite_24 ?_
        refine lv_istore_n (lv' := [(2, .int (nI (a + 158))), (0, .ref h), (1, .int (nI i))]) hx hb dX0_setInfinite_25 rfl hl (by decide) rfl (fun ls hl => ?_)
        refine lv_goto (tgt := 2) hx hb dX0_setInfinite_26 (by decide) ?_
        exact ih2 (a + 158) (q + 1) (vp_updL g (a + i) 0) (by omega) (by omega) (by omega) (fun h0 => absurd h0 (by omega)) _ _ hP hS ls (lv_sub hl [1, 2, 0] rfl)
  have hl := lv_entry ([.ref h, .int (nI i)]) (n := 3) (Nat.le_of_ble_eq_true rfl)
  have he9 : entryFrame m args 3 = entryFrame m ([.ref h, .int (nI i)] : List Value).toArray 3 := by rw [hargs]
  rw [he9, lg_entry_eq]
  generalize (lg_sl ([.ref h, .int (nI i)]) ++ List.replicate (3 - (lg_sl ([.ref h, .int (nI i)])).length) Slot.unset).toArray = ls at hl ⊢
  have hl : lv_has ls 3 [(0, .ref h), (1, .int (nI i))] := hl
  refine lv_iconst (v := nI 0) hx hb dX0_setInfinite_0 (by decide) ?_
  refine lv_istore_n (lv' := [(2, .int (nI 0)), (0, .ref h), (1, .int (nI i))]) hx hb dX0_setInfinite_1 rfl hl (by decide) rfl (fun ls hl => ?_)
  exact L2 _ 0 0 f (Nat.lt_succ_self _) (by omega) (by omega) (fun h0 => rfl) _ _ hP hS ls (lv_sub hl [1, 2, 0] rfl)

abbrev rm_X0_put : Room := { frames := 0, cells := 0, slots := 0, locals := 0 }
set_option maxHeartbeats 4000000 in
set_option maxRecDepth 100000 in
theorem c_X0_put_s (l : Launch) (G : GG) (B : Nat) (μ : mp) (h la k : Nat) (f : Nat → Int64) (to i : Nat) (hh : μ h = some (.inr (0, [.int (nI 158), .int (nI 157), .ref la, .int (nI (158 * k))]))) (ha : μ la = some (.inl (G.2 0, 158 * k + 158, .inr (.inl f)))) (hk : k ≤ 1022) (ht : to < 158) (hi : i < 158) : Met l yX0_put wsX0_put rm_X0_put (va_Pc [.ref h, .int (nI to), .ref h, .int (nI i)] (KW G B μ)) (va_Qv (fun μ2 => ∃ g9 : Nat → Int64, μ2 = mu μ la (.inl (G.2 0, 158 * k + 158, .inr (.inl g9))) ∧ (k = 0 → g9 = vp_updL f to (f i))) (BB G B) (fun q => B ≤ q)) 0 0 (fun q => B ≤ q) := by
  refine Met.ofW (cc := cX0_put) (maxL := 5) (ret := none) (by decide) rfl ?_
  intro p e s m args below meth c s₁ B9 hml hv
  obtain ⟨hargs, hBs, hP, hKK⟩ := hv
  have hx := B9.exec
  have hb := B9.bytes
  have hr := B9.returns
  have hts := atoms_spec (ws := wsX0_put) B9.pre
  have hown : s.vm.findClass RX0 = some m.cls := findClass_of_methodNamed B9.named
  have hlocks := B9.notSynchronized
  have hK := hKK.k
  have hS : va_S (fun q => B ≤ q) s.heap s.heap [] := va_S.rf
  obtain ⟨Q, hQ⟩ : ∃ Q, Q = MQ below (va_Qv (fun μ2 => ∃ g9 : Nat → Int64, μ2 = mu μ la (.inl (G.2 0, 158 * k + 158, .inr (.inl g9))) ∧ (k = 0 → g9 = vp_updL f to (f i))) (BB G B) (fun q => B ≤ q)) args s 0 0 (fun q => B ≤ q) := ⟨_, rfl⟩
  rw [← hQ]
  have ne0_1 : h ≠ la := mp_ne hh ha (by simp)
  have in_X0_put_X0 : ∀ w ∈ wsX00, w ∈ wsX0_put := by decide +kernel
  have hP : mw G.1 vwCl B (mu μ la (.inl (G.2 0, 158 * k + 158, .inr (.inl f)))) s.heap := mw_eq (mu_i ha).symm hP
  have L3 : ∀ (N3 : Nat) (a : Nat) (q : Nat) (g1 : Nat → Int64) (hN3 : k + 1 - q < N3) (ha4 : a = 158 * q) (hq : q ≤ k + 1) (hz : k = 0 → (q = 0 ∧ g1 = f) ∨ (q = 1 ∧ g1 = vp_updL f to (f i))), ∀ (H : Heap) (locs : List Loc), mw G.1 vwCl B (mu μ la (.inl (G.2 0, 158 * k + 158, .inr (.inl g1)))) H → va_S (fun q => B ≤ q) s.heap H locs → ∀ ls : Array Slot, lv_has ls 5 [(0, .ref h), (1, .int (nI to)), (2, .ref h), (3, .int (nI i)), (4, .int (nI a))] → W p l e rm_X0_put s m args below meth c H locs 0 0 Q (F0 m 3 ls []) := by
    intro N3
    induction N3 with
    | zero => intro a q g1 hN3; exact absurd hN3 (Nat.not_lt_zero _)
    | succ N3 ih3 =>
      intro a q g1 hN3 ha4 hq hz H locs hP hS ls hl
      refine lv_iload hx hb dX0_put_3 (lv_at hl 4 rfl) ?_
      refine lv_aload_n hx hb dX0_put_5 rfl (lv_at hl 0 rfl) ?_
      refine mw_get (C := RX0) (T := TX0) (N := 4) hx hb hts in_X0_put_X0 hown hK hP ((mu_n ne0_1).trans (hh)) rfl 3 (by decide) (hts (.fieldLink RX0 22 "OctagonDesk$Numbers" "top" "I") (by decide +kernel)) (fun _ h9 => h9) rfl dX0_put_6 ?_
      refine nv_icmp_gt (tgt := 42) hx hb (by omega) (by omega) dX0_put_9 (by decide) (fun hc9 => ?_) (fun hc9 => ?_)
      · rw [hQ]
        exact W.vret hx hb hr (fun t99 ht99 hW99 => ⟨⟨mu μ la (.inl (G.2 0, 158 * k + 158, .inr (.inl g1))), rfl, (⟨_, rfl, fun h0 => by rcases hz h0 with h1 | h1; exact absurd h1.1 (by omega); exact h1.2⟩), by show mw _ _ _ _ t99.heap; rw [ht99]; exact hP⟩, hS.F ht99⟩) hS.2.2 dX0_put_42
      · refine lv_aload_n hx hb dX0_put_12 rfl (lv_at hl 0 rfl) ?_
        refine mw_get (C := RX0) (T := TX0) (N := 4) hx hb hts in_X0_put_X0 hown hK hP ((mu_n ne0_1).trans (hh)) rfl 2 (by decide) (hts (.fieldLink RX0 18 "OctagonDesk$Numbers" "limbs" "[J") (by decide +kernel)) (fun _ h9 => h9) rfl dX0_put_13 ?_
        refine lv_iload hx hb dX0_put_16 (lv_at hl 4 rfl) ?_
        refine lv_iload_n hx hb dX0_put_18 rfl (lv_at hl 1 rfl) ?_
        refine nv_iadd hx hb dX0_put_19 ?_
        refine lv_aload_n hx hb dX0_put_20 rfl (lv_at hl 2 rfl) ?_
        refine mw_get (C := RX0) (T := TX0) (N := 4) hx hb hts in_X0_put_X0 hown hK hP ((mu_n ne0_1).trans (hh)) rfl 2 (by decide) (hts (.fieldLink RX0 18 "OctagonDesk$Numbers" "limbs" "[J") (by decide +kernel)) (fun _ h9 => h9) rfl dX0_put_21 ?_
        refine lv_iload hx hb dX0_put_24 (lv_at hl 4 rfl) ?_
        refine lv_iload_n hx hb dX0_put_26 rfl (lv_at hl 3 rfl) ?_
        refine nv_iadd hx hb dX0_put_27 ?_
        refine mw_lald hx hb hK hP 0 (mu_s _ _ _) rfl (by omega) (by omega) dX0_put_28 ?_
        refine lv_topl (fun v29 ev29 => ?_)
        refine mw_last hx hb hK hP hS 0 (mu_s _ _ _) rfl (by omega) (by omega) dX0_put_29 (fun H locs hP hS => ?_)
        have hP : mw G.1 vwCl B (mu μ la (.inl (G.2 0, 158 * k + 158, .inr (.inl (vp_updL g1 (a + to) v29))))) _ := mw_eq (mu_u _ _ _ _) hP
        refine lv_iload hx hb dX0_put_30 (lv_at hl 4 rfl) ?_
        refine lv_aload_n hx hb dX0_put_32 rfl (lv_at hl 0 rfl) ?_
        refine mw_get (C := RX0) (T := TX0) (N := 4) hx hb hts in_X0_put_X0 hown hK hP ((mu_n ne0_1).trans (hh)) rfl 0 (by decide) (hts (.fieldLink RX0 15 "OctagonDesk$Numbers" "cells" "I") (by decide +kernel)) (fun _ h9 => h9) rfl dX0_put_33 ?_
        refine nv_iadd hx hb dX0_put_36 ?_
        refine lv_istore (lv' := [(4, .int (nI (a + 158))), (0, .ref h), (1, .int (nI to)), (2, .ref h), (3, .int (nI i))]) hx hb dX0_put_37 hl (by decide) rfl (fun ls hl => ?_)
        refine lv_goto (tgt := 3) hx hb dX0_put_39 (by decide) ?_
        exact ih3 (a + 158) (q + 1) (vp_updL g1 (a + to) v29) (by omega) (by omega) (by omega) (fun h0 => Or.inr ⟨by omega, by obtain ⟨h1, h2⟩ : q = 0 ∧ g1 = f := by { rcases hz h0 with h1 | h1; exact h1; exact absurd h1.1 (by omega) }; subst h1; subst h2; subst ha4; rw [ev29]; simp⟩) _ _ hP hS ls (lv_sub hl [1, 2, 3, 4, 0] rfl)
  have hl := lv_entry ([.ref h, .int (nI to), .ref h, .int (nI i)]) (n := 5) (Nat.le_of_ble_eq_true rfl)
  have he9 : entryFrame m args 5 = entryFrame m ([.ref h, .int (nI to), .ref h, .int (nI i)] : List Value).toArray 5 := by rw [hargs]
  rw [he9, lg_entry_eq]
  generalize (lg_sl ([.ref h, .int (nI to), .ref h, .int (nI i)]) ++ List.replicate (5 - (lg_sl ([.ref h, .int (nI to), .ref h, .int (nI i)])).length) Slot.unset).toArray = ls at hl ⊢
  have hl : lv_has ls 5 [(0, .ref h), (1, .int (nI to)), (2, .ref h), (3, .int (nI i))] := hl
  refine lv_iconst (v := nI 0) hx hb dX0_put_0 (by decide) ?_
  refine lv_istore (lv' := [(4, .int (nI 0)), (0, .ref h), (1, .int (nI to)), (2, .ref h), (3, .int (nI i))]) hx hb dX0_put_1 hl (by decide) rfl (fun ls hl => ?_)
  exact L3 _ 0 0 f (Nat.lt_succ_self _) (by omega) (by omega) (fun h0 => Or.inl ⟨rfl, rfl⟩) _ _ hP hS ls (lv_sub hl [1, 2, 3, 4, 0] rfl)

set_option maxHeartbeats 4000000 in
set_option maxRecDepth 100000 in
theorem c_X0_put_t (l : Launch) (G : GG) (B : Nat) (μ : mp) (h la k : Nat) (f : Nat → Int64) (h2 la2 : Nat) (g : Nat → Int64) (to i : Nat) (hh : μ h = some (.inr (0, [.int (nI 158), .int (nI 157), .ref la, .int (nI (158 * k))]))) (ha : μ la = some (.inl (G.2 0, 158 * k + 158, .inr (.inl f)))) (hh2 : μ h2 = some (.inr (0, [.int (nI 158), .int (nI 157), .ref la2, .int (nI (158 * k))]))) (ha2 : μ la2 = some (.inl (G.2 0, 158 * k + 158, .inr (.inl g)))) (hk : k ≤ 1022) (ht : to < 158) (hi : i < 158) (hne : la ≠ la2) : Met l yX0_put wsX0_put rm_X0_put (va_Pc [.ref h, .int (nI to), .ref h2, .int (nI i)] (KW G B μ)) (va_Qv (fun μ2 => ∃ g9 : Nat → Int64, μ2 = mu μ la (.inl (G.2 0, 158 * k + 158, .inr (.inl g9))) ∧ (k = 0 → g9 = vp_updL f to (g i))) (BB G B) (fun q => B ≤ q)) 0 0 (fun q => B ≤ q) := by
  refine Met.ofW (cc := cX0_put) (maxL := 5) (ret := none) (by decide) rfl ?_
  intro p e s m args below meth c s₁ B9 hml hv
  obtain ⟨hargs, hBs, hP, hKK⟩ := hv
  have hx := B9.exec
  have hb := B9.bytes
  have hr := B9.returns
  have hts := atoms_spec (ws := wsX0_put) B9.pre
  have hown : s.vm.findClass RX0 = some m.cls := findClass_of_methodNamed B9.named
  have hlocks := B9.notSynchronized
  have hK := hKK.k
  have hS : va_S (fun q => B ≤ q) s.heap s.heap [] := va_S.rf
  obtain ⟨Q, hQ⟩ : ∃ Q, Q = MQ below (va_Qv (fun μ2 => ∃ g9 : Nat → Int64, μ2 = mu μ la (.inl (G.2 0, 158 * k + 158, .inr (.inl g9))) ∧ (k = 0 → g9 = vp_updL f to (g i))) (BB G B) (fun q => B ≤ q)) args s 0 0 (fun q => B ≤ q) := ⟨_, rfl⟩
  rw [← hQ]
  have ne0_1 : h ≠ la := mp_ne hh ha (by simp)
  have ne0_3 : h ≠ la2 := mp_ne hh ha2 (by simp)
  have ne1_2 : la ≠ h2 := mp_ne ha hh2 (by simp)
  have ne2_3 : h2 ≠ la2 := mp_ne hh2 ha2 (by simp)
  have in_X0_put_X0 : ∀ w ∈ wsX00, w ∈ wsX0_put := by decide +kernel
  have hP : mw G.1 vwCl B (mu μ la (.inl (G.2 0, 158 * k + 158, .inr (.inl f)))) s.heap := mw_eq (mu_i ha).symm hP
  have L3 : ∀ (N3 : Nat) (a : Nat) (q : Nat) (g1 : Nat → Int64) (hN3 : k + 1 - q < N3) (ha4 : a = 158 * q) (hq : q ≤ k + 1) (hz : k = 0 → (q = 0 ∧ g1 = f) ∨ (q = 1 ∧ g1 = vp_updL f to (g i))), ∀ (H : Heap) (locs : List Loc), mw G.1 vwCl B (mu μ la (.inl (G.2 0, 158 * k + 158, .inr (.inl g1)))) H → va_S (fun q => B ≤ q) s.heap H locs → ∀ ls : Array Slot, lv_has ls 5 [(0, .ref h), (1, .int (nI to)), (2, .ref h2), (3, .int (nI i)), (4, .int (nI a))] → W p l e rm_X0_put s m args below meth c H locs 0 0 Q (F0 m 3 ls []) := by
    intro N3
    induction N3 with
    | zero => intro a q g1 hN3; exact absurd hN3 (Nat.not_lt_zero _)
    | succ N3 ih3 =>
      intro a q g1 hN3 ha4 hq hz H locs hP hS ls hl
      refine lv_iload hx hb dX0_put_3 (lv_at hl 4 rfl) ?_
      refine lv_aload_n hx hb dX0_put_5 rfl (lv_at hl 0 rfl) ?_
      refine mw_get (C := RX0) (T := TX0) (N := 4) hx hb hts in_X0_put_X0 hown hK hP ((mu_n ne0_1).trans (hh)) rfl 3 (by decide) (hts (.fieldLink RX0 22 "OctagonDesk$Numbers" "top" "I") (by decide +kernel)) (fun _ h9 => h9) rfl dX0_put_6 ?_
      refine nv_icmp_gt (tgt := 42) hx hb (by omega) (by omega) dX0_put_9 (by decide) (fun hc9 => ?_) (fun hc9 => ?_)
      · rw [hQ]
        exact W.vret hx hb hr (fun t99 ht99 hW99 => ⟨⟨mu μ la (.inl (G.2 0, 158 * k + 158, .inr (.inl g1))), rfl, (⟨_, rfl, fun h0 => by rcases hz h0 with h1 | h1; exact absurd h1.1 (by omega); exact h1.2⟩), by show mw _ _ _ _ t99.heap; rw [ht99]; exact hP⟩, hS.F ht99⟩) hS.2.2 dX0_put_42
      · refine lv_aload_n hx hb dX0_put_12 rfl (lv_at hl 0 rfl) ?_
        refine mw_get (C := RX0) (T := TX0) (N := 4) hx hb hts in_X0_put_X0 hown hK hP ((mu_n ne0_1).trans (hh)) rfl 2 (by decide) (hts (.fieldLink RX0 18 "OctagonDesk$Numbers" "limbs" "[J") (by decide +kernel)) (fun _ h9 => h9) rfl dX0_put_13 ?_
        refine lv_iload hx hb dX0_put_16 (lv_at hl 4 rfl) ?_
        refine lv_iload_n hx hb dX0_put_18 rfl (lv_at hl 1 rfl) ?_
        refine nv_iadd hx hb dX0_put_19 ?_
        refine lv_aload_n hx hb dX0_put_20 rfl (lv_at hl 2 rfl) ?_
        refine mw_get (C := RX0) (T := TX0) (N := 4) hx hb hts in_X0_put_X0 hown hK hP ((mu_n ((Ne.symm ne1_2))).trans (hh2)) rfl 2 (by decide) (hts (.fieldLink RX0 18 "OctagonDesk$Numbers" "limbs" "[J") (by decide +kernel)) (fun _ h9 => h9) rfl dX0_put_21 ?_
        refine lv_iload hx hb dX0_put_24 (lv_at hl 4 rfl) ?_
        refine lv_iload_n hx hb dX0_put_26 rfl (lv_at hl 3 rfl) ?_
        refine nv_iadd hx hb dX0_put_27 ?_
        refine mw_lald hx hb hK hP 0 ((mu_n ((Ne.symm hne))).trans (ha2)) rfl (by omega) (by omega) dX0_put_28 ?_
        refine lv_topl (fun v29 ev29 => ?_)
        refine mw_last hx hb hK hP hS 0 (mu_s _ _ _) rfl (by omega) (by omega) dX0_put_29 (fun H locs hP hS => ?_)
        have hP : mw G.1 vwCl B (mu μ la (.inl (G.2 0, 158 * k + 158, .inr (.inl (vp_updL g1 (a + to) v29))))) _ := mw_eq (mu_u _ _ _ _) hP
        refine lv_iload hx hb dX0_put_30 (lv_at hl 4 rfl) ?_
        refine lv_aload_n hx hb dX0_put_32 rfl (lv_at hl 0 rfl) ?_
        refine mw_get (C := RX0) (T := TX0) (N := 4) hx hb hts in_X0_put_X0 hown hK hP ((mu_n ne0_1).trans (hh)) rfl 0 (by decide) (hts (.fieldLink RX0 15 "OctagonDesk$Numbers" "cells" "I") (by decide +kernel)) (fun _ h9 => h9) rfl dX0_put_33 ?_
        refine nv_iadd hx hb dX0_put_36 ?_
        refine lv_istore (lv' := [(4, .int (nI (a + 158))), (0, .ref h), (1, .int (nI to)), (2, .ref h2), (3, .int (nI i))]) hx hb dX0_put_37 hl (by decide) rfl (fun ls hl => ?_)
        refine lv_goto (tgt := 3) hx hb dX0_put_39 (by decide) ?_
        exact ih3 (a + 158) (q + 1) (vp_updL g1 (a + to) v29) (by omega) (by omega) (by omega) (fun h0 => Or.inr ⟨by omega, by obtain ⟨h1, h2⟩ : q = 0 ∧ g1 = f := by { rcases hz h0 with h1 | h1; exact h1; exact absurd h1.1 (by omega) }; subst h1; subst h2; subst ha4; rw [ev29]; simp⟩) _ _ hP hS ls (lv_sub hl [1, 2, 3, 4, 0] rfl)
  have hl := lv_entry ([.ref h, .int (nI to), .ref h2, .int (nI i)]) (n := 5) (Nat.le_of_ble_eq_true rfl)
  have he9 : entryFrame m args 5 = entryFrame m ([.ref h, .int (nI to), .ref h2, .int (nI i)] : List Value).toArray 5 := by rw [hargs]
  rw [he9, lg_entry_eq]
  generalize (lg_sl ([.ref h, .int (nI to), .ref h2, .int (nI i)]) ++ List.replicate (5 - (lg_sl ([.ref h, .int (nI to), .ref h2, .int (nI i)])).length) Slot.unset).toArray = ls at hl ⊢
  have hl : lv_has ls 5 [(0, .ref h), (1, .int (nI to)), (2, .ref h2), (3, .int (nI i))] := hl
  refine lv_iconst (v := nI 0) hx hb dX0_put_0 (by decide) ?_
  refine lv_istore (lv' := [(4, .int (nI 0)), (0, .ref h), (1, .int (nI to)), (2, .ref h2), (3, .int (nI i))]) hx hb dX0_put_1 hl (by decide) rfl (fun ls hl => ?_)
  exact L3 _ 0 0 f (Nat.lt_succ_self _) (by omega) (by omega) (fun h0 => Or.inl ⟨rfl, rfl⟩) _ _ hP hS ls (lv_sub hl [1, 2, 3, 4, 0] rfl)

abbrev rm_X0_putSum : Room := { frames := 0, cells := 0, slots := 0, locals := 0 }
set_option maxHeartbeats 4000000 in
set_option maxRecDepth 100000 in
theorem c_X0_putSum (l : Launch) (G : GG) (B : Nat) (μ : mp) (h la k : Nat) (f : Nat → Int64) (to i j : Nat) (hh : μ h = some (.inr (0, [.int (nI 158), .int (nI 157), .ref la, .int (nI (158 * k))]))) (ha : μ la = some (.inl (G.2 0, 158 * k + 158, .inr (.inl f)))) (hk : k ≤ 1022) (ht : to < 158) (hi : i < 158) (hj : j < 158) : Met l yX0_putSum wsX0_putSum rm_X0_putSum (va_Pc [.ref h, .int (nI to), .int (nI i), .int (nI j)] (KW G B μ)) (va_Qv (fun μ2 => ∃ g9 : Nat → Int64, μ2 = mu μ la (.inl (G.2 0, 158 * k + 158, .inr (.inl g9))) ∧ (k = 0 → g9 = vp_updL f to (sm (f i) (f j)))) (BB G B) (fun q => B ≤ q)) 0 0 (fun q => B ≤ q) := by
  refine Met.ofW (cc := cX0_putSum) (maxL := 8) (ret := none) (by decide) rfl ?_
  intro p e s m args below meth c s₁ B9 hml hv
  obtain ⟨hargs, hBs, hP, hKK⟩ := hv
  have hx := B9.exec
  have hb := B9.bytes
  have hr := B9.returns
  have hts := atoms_spec (ws := wsX0_putSum) B9.pre
  have hown : s.vm.findClass RX0 = some m.cls := findClass_of_methodNamed B9.named
  have hlocks := B9.notSynchronized
  have hK := hKK.k
  have hS : va_S (fun q => B ≤ q) s.heap s.heap [] := va_S.rf
  obtain ⟨Q, hQ⟩ : ∃ Q, Q = MQ below (va_Qv (fun μ2 => ∃ g9 : Nat → Int64, μ2 = mu μ la (.inl (G.2 0, 158 * k + 158, .inr (.inl g9))) ∧ (k = 0 → g9 = vp_updL f to (sm (f i) (f j)))) (BB G B) (fun q => B ≤ q)) args s 0 0 (fun q => B ≤ q) := ⟨_, rfl⟩
  rw [← hQ]
  have ne0_1 : h ≠ la := mp_ne hh ha (by simp)
  have in_X0_putSum_X0 : ∀ w ∈ wsX00, w ∈ wsX0_putSum := by decide +kernel
  have hP : mw G.1 vwCl B (mu μ la (.inl (G.2 0, 158 * k + 158, .inr (.inl f)))) s.heap := mw_eq (mu_i ha).symm hP
  have L49 : ∀ (N49 : Nat) (a : Nat) (q : Nat) (x : Int64) (g : Nat → Int64) (b : Nat) (hN49 : k - q < N49) (ha4 : a = 158 * q) (hq : q ≤ k) (hz : k = 0 → g = f ∧ x = 0) (hb4 : (b = 1 ∧ (f (158 * k + i) = INF ∨ f (158 * k + j) = INF)) ∨ (b = 0 ∧ ¬ (f (158 * k + i) = INF ∨ f (158 * k + j) = INF))), ∀ (H : Heap) (locs : List Loc), mw G.1 vwCl B (mu μ la (.inl (G.2 0, 158 * k + 158, .inr (.inl g)))) H → va_S (fun q => B ≤ q) s.heap H locs → ∀ ls : Array Slot, lv_has ls 8 [(0, .ref h), (1, .int (nI to)), (2, .int (nI i)), (3, .int (nI j)), (4, .int (nI b)), (5, .long x), (7, .int (nI a))] → W p l e rm_X0_putSum s m args below meth c H locs 0 0 Q (F0 m 49 ls []) := by
    intro N49
    induction N49 with
    | zero => intro a q x g b hN49; exact absurd hN49 (Nat.not_lt_zero _)
    | succ N49 ih49 =>
      intro a q x g b hN49 ha4 hq hz hb4 H locs hP hS ls hl
      refine lv_iload hx hb dX0_putSum_49 (lv_at hl 6 rfl) ?_
      refine lv_aload_n hx hb dX0_putSum_51 rfl (lv_at hl 0 rfl) ?_
      refine mw_get (C := RX0) (T := TX0) (N := 4) hx hb hts in_X0_putSum_X0 hown hK hP ((mu_n ne0_1).trans (hh)) rfl 3 (by decide) (hts (.fieldLink RX0 22 "OctagonDesk$Numbers" "top" "I") (by decide +kernel)) (fun _ h9 => h9) rfl dX0_putSum_52 ?_
      refine nv_icmp_ge (tgt := 125) hx hb (by omega) (by omega) dX0_putSum_55 (by decide) (fun hc55 => ?_) (fun hc55 => ?_)
      · refine lv_aload_n hx hb dX0_putSum_125 rfl (lv_at hl 0 rfl) ?_
        refine mw_get (C := RX0) (T := TX0) (N := 4) hx hb hts in_X0_putSum_X0 hown hK hP ((mu_n ne0_1).trans (hh)) rfl 2 (by decide) (hts (.fieldLink RX0 18 "OctagonDesk$Numbers" "limbs" "[J") (by decide +kernel)) (fun _ h9 => h9) rfl dX0_putSum_126 ?_
        refine lv_aload_n hx hb dX0_putSum_129 rfl (lv_at hl 0 rfl) ?_
        refine mw_get (C := RX0) (T := TX0) (N := 4) hx hb hts in_X0_putSum_X0 hown hK hP ((mu_n ne0_1).trans (hh)) rfl 3 (by decide) (hts (.fieldLink RX0 22 "OctagonDesk$Numbers" "top" "I") (by decide +kernel)) (fun _ h9 => h9) rfl dX0_putSum_130 ?_
        refine lv_iload_n hx hb dX0_putSum_133 rfl (lv_at hl 1 rfl) ?_
        refine nv_iadd hx hb dX0_putSum_134 ?_
        refine lv_iload hx hb dX0_putSum_135 (lv_at hl 4 rfl) ?_
        refine lv_if_eq (tgt := 146) hx hb dX0_putSum_137 (by decide) (fun hc137 => ?_) (fun hc137 => ?_)
        · refine lv_aload_n hx hb dX0_putSum_146 rfl (lv_at hl 0 rfl) ?_
          refine mw_get (C := RX0) (T := TX0) (N := 4) hx hb hts in_X0_putSum_X0 hown hK hP ((mu_n ne0_1).trans (hh)) rfl 2 (by decide) (hts (.fieldLink RX0 18 "OctagonDesk$Numbers" "limbs" "[J") (by decide +kernel)) (fun _ h9 => h9) rfl dX0_putSum_147 ?_
          refine lv_aload_n hx hb dX0_putSum_150 rfl (lv_at hl 0 rfl) ?_
          refine mw_get (C := RX0) (T := TX0) (N := 4) hx hb hts in_X0_putSum_X0 hown hK hP ((mu_n ne0_1).trans (hh)) rfl 3 (by decide) (hts (.fieldLink RX0 22 "OctagonDesk$Numbers" "top" "I") (by decide +kernel)) (fun _ h9 => h9) rfl dX0_putSum_151 ?_
          refine lv_iload_n hx hb dX0_putSum_154 rfl (lv_at hl 2 rfl) ?_
          refine nv_iadd hx hb dX0_putSum_155 ?_
          refine mw_lald hx hb hK hP 0 (mu_s _ _ _) rfl (by omega) (by omega) dX0_putSum_156 ?_
          refine lv_aload_n hx hb dX0_putSum_157 rfl (lv_at hl 0 rfl) ?_
          refine mw_get (C := RX0) (T := TX0) (N := 4) hx hb hts in_X0_putSum_X0 hown hK hP ((mu_n ne0_1).trans (hh)) rfl 2 (by decide) (hts (.fieldLink RX0 18 "OctagonDesk$Numbers" "limbs" "[J") (by decide +kernel)) (fun _ h9 => h9) rfl dX0_putSum_158 ?_
          refine lv_aload_n hx hb dX0_putSum_161 rfl (lv_at hl 0 rfl) ?_
          refine mw_get (C := RX0) (T := TX0) (N := 4) hx hb hts in_X0_putSum_X0 hown hK hP ((mu_n ne0_1).trans (hh)) rfl 3 (by decide) (hts (.fieldLink RX0 22 "OctagonDesk$Numbers" "top" "I") (by decide +kernel)) (fun _ h9 => h9) rfl dX0_putSum_162 ?_
          refine lv_iload_n hx hb dX0_putSum_165 rfl (lv_at hl 3 rfl) ?_
          refine nv_iadd hx hb dX0_putSum_166 ?_
          refine mw_lald hx hb hK hP 0 (mu_s _ _ _) rfl (by omega) (by omega) dX0_putSum_167 ?_
          refine lv_ladd hx hb dX0_putSum_168 ?_
          refine lv_lload hx hb dX0_putSum_169 (lv_at hl 5 rfl) ?_
          refine lv_ladd hx hb dX0_putSum_171 ?_
          refine lv_topl (fun v172 ev172 => ?_)
          refine mw_last hx hb hK hP hS 0 (mu_s _ _ _) rfl (by omega) (by omega) dX0_putSum_172 (fun H locs hP hS => ?_)
          have hP : mw G.1 vwCl B (mu μ la (.inl (G.2 0, 158 * k + 158, .inr (.inl (vp_updL g ((158 * k) + to) v172))))) _ := mw_eq (mu_u _ _ _ _) hP
          rw [hQ]
          exact W.vret hx hb hr (fun t99 ht99 hW99 => ⟨⟨mu μ la (.inl (G.2 0, 158 * k + 158, .inr (.inl (vp_updL g ((158 * k) + to) v172)))), rfl, (⟨_, rfl, fun h0 => ps_0 h0 (hz h0) hb4 hc137 ev172⟩), by show mw _ _ _ _ t99.heap; rw [ht99]; exact hP⟩, hS.F ht99⟩) hS.2.2 dX0_putSum_173
        · refine lv_ldc2 (v := (9223372036854775807)) hx hb hown (hts (.constantLong RX0 25 (9223372036854775807)) (by decide +kernel)) dX0_putSum_140 ?_
          refine lv_goto (tgt := 172) hx hb dX0_putSum_143 (by decide) ?_
          refine mw_last hx hb hK hP hS 0 (mu_s _ _ _) rfl (by omega) (by omega) dX0_putSum_172 (fun H locs hP hS => ?_)
          have hP : mw G.1 vwCl B (mu μ la (.inl (G.2 0, 158 * k + 158, .inr (.inl (vp_updL g ((158 * k) + to) 9223372036854775807))))) _ := mw_eq (mu_u _ _ _ _) hP
          rw [hQ]
          exact W.vret hx hb hr (fun t99 ht99 hW99 => ⟨⟨mu μ la (.inl (G.2 0, 158 * k + 158, .inr (.inl (vp_updL g ((158 * k) + to) 9223372036854775807)))), rfl, (⟨_, rfl, fun h0 => ps_1 h0 (hz h0).1 hb4 hc137⟩), by show mw _ _ _ _ t99.heap; rw [ht99]; exact hP⟩, hS.F ht99⟩) hS.2.2 dX0_putSum_173
      · refine lv_lload hx hb dX0_putSum_58 (lv_at hl 5 rfl) ?_
        refine lv_aload_n hx hb dX0_putSum_60 rfl (lv_at hl 0 rfl) ?_
        refine mw_get (C := RX0) (T := TX0) (N := 4) hx hb hts in_X0_putSum_X0 hown hK hP ((mu_n ne0_1).trans (hh)) rfl 2 (by decide) (hts (.fieldLink RX0 18 "OctagonDesk$Numbers" "limbs" "[J") (by decide +kernel)) (fun _ h9 => h9) rfl dX0_putSum_61 ?_
        refine lv_iload hx hb dX0_putSum_64 (lv_at hl 6 rfl) ?_
        refine lv_iload_n hx hb dX0_putSum_66 rfl (lv_at hl 2 rfl) ?_
        refine nv_iadd hx hb dX0_putSum_67 ?_
        refine mw_lald hx hb hK hP 0 (mu_s _ _ _) rfl (by omega) (by omega) dX0_putSum_68 ?_
        refine lv_aload_n hx hb dX0_putSum_69 rfl (lv_at hl 0 rfl) ?_
        refine mw_get (C := RX0) (T := TX0) (N := 4) hx hb hts in_X0_putSum_X0 hown hK hP ((mu_n ne0_1).trans (hh)) rfl 2 (by decide) (hts (.fieldLink RX0 18 "OctagonDesk$Numbers" "limbs" "[J") (by decide +kernel)) (fun _ h9 => h9) rfl dX0_putSum_70 ?_
        refine lv_iload hx hb dX0_putSum_73 (lv_at hl 6 rfl) ?_
        refine lv_iload_n hx hb dX0_putSum_75 rfl (lv_at hl 3 rfl) ?_
        refine nv_iadd hx hb dX0_putSum_76 ?_
        refine mw_lald hx hb hK hP 0 (mu_s _ _ _) rfl (by omega) (by omega) dX0_putSum_77 ?_
        refine lv_ladd hx hb dX0_putSum_78 ?_
        refine lv_ladd hx hb dX0_putSum_79 ?_
        refine lv_topl (fun v80 ev80 => ?_)
        refine lv_lstore (lv' := [(5, .long v80), (0, .ref h), (1, .int (nI to)), (2, .int (nI i)), (3, .int (nI j)), (4, .int (nI b)), (7, .int (nI a))]) hx hb dX0_putSum_80 hl (by decide) rfl (fun ls hl => ?_)
        refine lv_aload_n hx hb dX0_putSum_82 rfl (lv_at hl 1 rfl) ?_
        refine mw_get (C := RX0) (T := TX0) (N := 4) hx hb hts in_X0_putSum_X0 hown hK hP ((mu_n ne0_1).trans (hh)) rfl 2 (by decide) (hts (.fieldLink RX0 18 "OctagonDesk$Numbers" "limbs" "[J") (by decide +kernel)) (fun _ h9 => h9) rfl dX0_putSum_83 ?_
        refine lv_iload hx hb dX0_putSum_86 (lv_at hl 6 rfl) ?_
        refine lv_iload_n hx hb dX0_putSum_88 rfl (lv_at hl 2 rfl) ?_
        refine nv_iadd hx hb dX0_putSum_89 ?_
        refine lv_iload hx hb dX0_putSum_90 (lv_at hl 5 rfl) ?_
        refine lv_if_eq (tgt := 99) hx hb dX0_putSum_92 (by decide) (fun hc92 => ?_) (fun hc92 => ?_)
        · refine lv_lload hx hb dX0_putSum_99 (lv_at hl 0 rfl) ?_
          refine lv_ldc2 (v := (1152921504606846975)) hx hb hown (hts (.constantLong RX0 39 (1152921504606846975)) (by decide +kernel)) dX0_putSum_101 ?_
          refine lv_land hx hb dX0_putSum_104 ?_
          refine lv_topl (fun v105 ev105 => ?_)
          refine mw_last hx hb hK hP hS 0 (mu_s _ _ _) rfl (by omega) (by omega) dX0_putSum_105 (fun H locs hP hS => ?_)
          have hP : mw G.1 vwCl B (mu μ la (.inl (G.2 0, 158 * k + 158, .inr (.inl (vp_updL g (a + to) v105))))) _ := mw_eq (mu_u _ _ _ _) hP
          refine lv_lload hx hb dX0_putSum_106 (lv_at hl 0 rfl) ?_
          refine lv_bipush (v := nI 60) hx hb dX0_putSum_108 (by decide) ?_
          refine lv_lshr (v := v80 >>> ((nI 60).toInt64 &&& 63)) hx hb dX0_putSum_110 rfl ?_
          refine lv_topl (fun v111 ev111 => ?_)
          refine lv_lstore (lv' := [(5, .long v111), (0, .ref h), (1, .int (nI to)), (2, .int (nI i)), (3, .int (nI j)), (4, .int (nI b)), (7, .int (nI a))]) hx hb dX0_putSum_111 hl (by decide) rfl (fun ls hl => ?_)
          refine lv_iload hx hb dX0_putSum_113 (lv_at hl 6 rfl) ?_
          refine lv_aload_n hx hb dX0_putSum_115 rfl (lv_at hl 1 rfl) ?_
          refine mw_get (C := RX0) (T := TX0) (N := 4) hx hb hts in_X0_putSum_X0 hown hK hP ((mu_n ne0_1).trans (hh)) rfl 0 (by decide) (hts (.fieldLink RX0 15 "OctagonDesk$Numbers" "cells" "I") (by decide +kernel)) (fun _ h9 => h9) rfl dX0_putSum_116 ?_
          refine nv_iadd hx hb dX0_putSum_119 ?_
          refine lv_istore (lv' := [(7, .int (nI (a + 158))), (5, .long v111), (0, .ref h), (1, .int (nI to)), (2, .int (nI i)), (3, .int (nI j)), (4, .int (nI b))]) hx hb dX0_putSum_120 hl (by decide) rfl (fun ls hl => ?_)
          refine lv_goto (tgt := 49) hx hb dX0_putSum_122 (by decide) ?_
          exact ih49 (a + 158) (q + 1) v111 (vp_updL g (a + to) v105) b (by omega) (by omega) (by omega) (fun h0 => absurd h0 (by omega)) (hb4) _ _ hP hS ls (lv_sub hl [2, 3, 4, 5, 6, 1, 0] rfl)
        · refine lv_lconst (v := 0) hx hb dX0_putSum_95 (by decide) ?_
          refine lv_goto (tgt := 105) hx hb dX0_putSum_96 (by decide) ?_
          refine mw_last hx hb hK hP hS 0 (mu_s _ _ _) rfl (by omega) (by omega) dX0_putSum_105 (fun H locs hP hS => ?_)
          have hP : mw G.1 vwCl B (mu μ la (.inl (G.2 0, 158 * k + 158, .inr (.inl (vp_updL g (a + to) 0))))) _ := mw_eq (mu_u _ _ _ _) hP
          refine lv_lload hx hb dX0_putSum_106 (lv_at hl 0 rfl) ?_
          refine lv_bipush (v := nI 60) hx hb dX0_putSum_108 (by decide) ?_
          refine lv_lshr (v := v80 >>> ((nI 60).toInt64 &&& 63)) hx hb dX0_putSum_110 rfl ?_
          refine lv_topl (fun v111 ev111 => ?_)
          refine lv_lstore (lv' := [(5, .long v111), (0, .ref h), (1, .int (nI to)), (2, .int (nI i)), (3, .int (nI j)), (4, .int (nI b)), (7, .int (nI a))]) hx hb dX0_putSum_111 hl (by decide) rfl (fun ls hl => ?_)
          refine lv_iload hx hb dX0_putSum_113 (lv_at hl 6 rfl) ?_
          refine lv_aload_n hx hb dX0_putSum_115 rfl (lv_at hl 1 rfl) ?_
          refine mw_get (C := RX0) (T := TX0) (N := 4) hx hb hts in_X0_putSum_X0 hown hK hP ((mu_n ne0_1).trans (hh)) rfl 0 (by decide) (hts (.fieldLink RX0 15 "OctagonDesk$Numbers" "cells" "I") (by decide +kernel)) (fun _ h9 => h9) rfl dX0_putSum_116 ?_
          refine nv_iadd hx hb dX0_putSum_119 ?_
          refine lv_istore (lv' := [(7, .int (nI (a + 158))), (5, .long v111), (0, .ref h), (1, .int (nI to)), (2, .int (nI i)), (3, .int (nI j)), (4, .int (nI b))]) hx hb dX0_putSum_120 hl (by decide) rfl (fun ls hl => ?_)
          refine lv_goto (tgt := 49) hx hb dX0_putSum_122 (by decide) ?_
          exact ih49 (a + 158) (q + 1) v111 (vp_updL g (a + to) 0) b (by omega) (by omega) (by omega) (fun h0 => absurd h0 (by omega)) (hb4) _ _ hP hS ls (lv_sub hl [2, 3, 4, 5, 6, 1, 0] rfl)
  have L41 : ∀ (b : Nat) (hb4 : (b = 1 ∧ (f (158 * k + i) = INF ∨ f (158 * k + j) = INF)) ∨ (b = 0 ∧ ¬ (f (158 * k + i) = INF ∨ f (158 * k + j) = INF))), ∀ (H : Heap) (locs : List Loc), mw G.1 vwCl B (mu μ la (.inl (G.2 0, 158 * k + 158, .inr (.inl f)))) H → va_S (fun q => B ≤ q) s.heap H locs → ∀ ls : Array Slot, lv_has ls 8 [(0, .ref h), (1, .int (nI to)), (2, .int (nI i)), (3, .int (nI j))] → W p l e rm_X0_putSum s m args below meth c H locs 0 0 Q (F0 m 41 ls [.int (nI b)]) := by
    intro b hb4 H locs hP hS ls hl
    refine lv_istore (lv' := [(4, .int (nI b)), (0, .ref h), (1, .int (nI to)), (2, .int (nI i)), (3, .int (nI j))]) hx hb dX0_putSum_41 hl (by decide) rfl (fun ls hl => ?_)
    refine lv_lconst (v := 0) hx hb dX0_putSum_43 (by decide) ?_
    refine lv_lstore (lv' := [(5, .long 0), (4, .int (nI b)), (0, .ref h), (1, .int (nI to)), (2, .int (nI i)), (3, .int (nI j))]) hx hb dX0_putSum_44 hl (by decide) rfl (fun ls hl => ?_)
    refine lv_iconst (v := nI 0) hx hb dX0_putSum_46 (by decide) ?_
    refine lv_istore (lv' := [(7, .int (nI 0)), (5, .long 0), (4, .int (nI b)), (0, .ref h), (1, .int (nI to)), (2, .int (nI i)), (3, .int (nI j))]) hx hb dX0_putSum_47 hl (by decide) rfl (fun ls hl => ?_)
    exact L49 _ 0 0 0 f b (Nat.lt_succ_self _) (by omega) (by omega) (fun h0 => ⟨rfl, rfl⟩) (hb4) _ _ hP hS ls (lv_sub hl [3, 4, 5, 6, 2, 1, 0] rfl)
  have hl := lv_entry ([.ref h, .int (nI to), .int (nI i), .int (nI j)]) (n := 8) (Nat.le_of_ble_eq_true rfl)
  have he9 : entryFrame m args 8 = entryFrame m ([.ref h, .int (nI to), .int (nI i), .int (nI j)] : List Value).toArray 8 := by rw [hargs]
  rw [he9, lg_entry_eq]
  generalize (lg_sl ([.ref h, .int (nI to), .int (nI i), .int (nI j)]) ++ List.replicate (8 - (lg_sl ([.ref h, .int (nI to), .int (nI i), .int (nI j)])).length) Slot.unset).toArray = ls at hl ⊢
  have hl : lv_has ls 8 [(0, .ref h), (1, .int (nI to)), (2, .int (nI i)), (3, .int (nI j))] := hl
  refine lv_aload_n hx hb dX0_putSum_0 rfl (lv_at hl 0 rfl) ?_
  refine mw_get (C := RX0) (T := TX0) (N := 4) hx hb hts in_X0_putSum_X0 hown hK hP ((mu_n ne0_1).trans (hh)) rfl 2 (by decide) (hts (.fieldLink RX0 18 "OctagonDesk$Numbers" "limbs" "[J") (by decide +kernel)) (fun _ h9 => h9) rfl dX0_putSum_1 ?_
  refine lv_aload_n hx hb dX0_putSum_4 rfl (lv_at hl 0 rfl) ?_
  refine mw_get (C := RX0) (T := TX0) (N := 4) hx hb hts in_X0_putSum_X0 hown hK hP ((mu_n ne0_1).trans (hh)) rfl 3 (by decide) (hts (.fieldLink RX0 22 "OctagonDesk$Numbers" "top" "I") (by decide +kernel)) (fun _ h9 => h9) rfl dX0_putSum_5 ?_
  refine lv_iload_n hx hb dX0_putSum_8 rfl (lv_at hl 2 rfl) ?_
  refine nv_iadd hx hb dX0_putSum_9 ?_
  refine mw_lald hx hb hK hP 0 (mu_s _ _ _) rfl (by omega) (by omega) dX0_putSum_10 ?_
  refine lv_ldc2 (v := (9223372036854775807)) hx hb hown (hts (.constantLong RX0 25 (9223372036854775807)) (by decide +kernel)) dX0_putSum_11 ?_
  refine nl_if_eq (tgt := 36) hx hb dX0_putSum_14 dX0_putSum_15 (by decide) (fun hc14 => ?_) (fun hc14 => ?_)
  · refine lv_iconst (v := nI 1) hx hb dX0_putSum_36 (by decide) ?_
    refine lv_goto (tgt := 41) hx hb dX0_putSum_37 (by decide) ?_
    exact L41 1 (by first | exact Or.inl ⟨rfl, Or.inl hc14⟩ | exact Or.inl ⟨rfl, Or.inr hc32⟩ | exact Or.inr ⟨rfl, fun h9 => h9.elim hc14 hc32⟩) _ _ hP hS ls (lv_sub hl [0, 1, 2, 3] rfl)
  · refine lv_aload_n hx hb dX0_putSum_18 rfl (lv_at hl 0 rfl) ?_
    refine mw_get (C := RX0) (T := TX0) (N := 4) hx hb hts in_X0_putSum_X0 hown hK hP ((mu_n ne0_1).trans (hh)) rfl 2 (by decide) (hts (.fieldLink RX0 18 "OctagonDesk$Numbers" "limbs" "[J") (by decide +kernel)) (fun _ h9 => h9) rfl dX0_putSum_19 ?_
    refine lv_aload_n hx hb dX0_putSum_22 rfl (lv_at hl 0 rfl) ?_
    refine mw_get (C := RX0) (T := TX0) (N := 4) hx hb hts in_X0_putSum_X0 hown hK hP ((mu_n ne0_1).trans (hh)) rfl 3 (by decide) (hts (.fieldLink RX0 22 "OctagonDesk$Numbers" "top" "I") (by decide +kernel)) (fun _ h9 => h9) rfl dX0_putSum_23 ?_
    refine lv_iload_n hx hb dX0_putSum_26 rfl (lv_at hl 3 rfl) ?_
    refine nv_iadd hx hb dX0_putSum_27 ?_
    refine mw_lald hx hb hK hP 0 (mu_s _ _ _) rfl (by omega) (by omega) dX0_putSum_28 ?_
    refine lv_ldc2 (v := (9223372036854775807)) hx hb hown (hts (.constantLong RX0 25 (9223372036854775807)) (by decide +kernel)) dX0_putSum_29 ?_
    refine nl_if_ne (tgt := 40) hx hb dX0_putSum_32 dX0_putSum_33 (by decide) (fun hc32 => ?_) (fun hc32 => ?_)
    · refine lv_iconst (v := nI 0) hx hb dX0_putSum_40 (by decide) ?_
      exact L41 0 (by first | exact Or.inl ⟨rfl, Or.inl hc14⟩ | exact Or.inl ⟨rfl, Or.inr hc32⟩ | exact Or.inr ⟨rfl, fun h9 => h9.elim hc14 hc32⟩) _ _ hP hS ls (lv_sub hl [0, 1, 2, 3] rfl)
    · refine lv_iconst (v := nI 1) hx hb dX0_putSum_36 (by decide) ?_
      refine lv_goto (tgt := 41) hx hb dX0_putSum_37 (by decide) ?_
      exact L41 1 (by first | exact Or.inl ⟨rfl, Or.inl hc14⟩ | exact Or.inl ⟨rfl, Or.inr hc32⟩ | exact Or.inr ⟨rfl, fun h9 => h9.elim hc14 hc32⟩) _ _ hP hS ls (lv_sub hl [0, 1, 2, 3] rfl)

abbrev rm_X0_lower : Room := { frames := 1, cells := 0, slots := 0, locals := 28 }
set_option maxHeartbeats 4000000 in
set_option maxRecDepth 100000 in
theorem c_X0_lower (l : Launch) (G : GG) (B : Nat) (μ : mp) (h la k : Nat) (f : Nat → Int64) (i j m9 : Nat) (hh : μ h = some (.inr (0, [.int (nI 158), .int (nI 157), .ref la, .int (nI (158 * k))]))) (ha : μ la = some (.inl (G.2 0, 158 * k + 158, .inr (.inl f)))) (hk : k ≤ 1022) (hi : i < 157) (hj : j < 158) (hm : m9 < 158) : Met l yX0_lower wsX0_lower rm_X0_lower (va_Pc [.ref h, .int (nI i), .int (nI j), .int (nI m9)] (KW G B μ)) (va_Qv (fun μ2 => ∃ g9 : Nat → Int64, μ2 = mu μ la (.inl (G.2 0, 158 * k + 158, .inr (.inl g9))) ∧ (k = 0 → g9 = lw f i j m9)) (BB G B) (fun q => B ≤ q)) 0 0 (fun q => B ≤ q) := by
  refine Met.ofW (cc := cX0_lower) (maxL := 4) (ret := none) (by decide) rfl ?_
  intro p e s m args below meth c s₁ B9 hml hv
  obtain ⟨hargs, hBs, hP, hKK⟩ := hv
  have hx := B9.exec
  have hb := B9.bytes
  have hr := B9.returns
  have hts := atoms_spec (ws := wsX0_lower) B9.pre
  have hown : s.vm.findClass RX0 = some m.cls := findClass_of_methodNamed B9.named
  have hlocks := B9.notSynchronized
  have hK := hKK.k
  have hS : va_S (fun q => B ≤ q) s.heap s.heap [] := va_S.rf
  obtain ⟨Q, hQ⟩ : ∃ Q, Q = MQ below (va_Qv (fun μ2 => ∃ g9 : Nat → Int64, μ2 = mu μ la (.inl (G.2 0, 158 * k + 158, .inr (.inl g9))) ∧ (k = 0 → g9 = lw f i j m9)) (BB G B) (fun q => B ≤ q)) args s 0 0 (fun q => B ≤ q) := ⟨_, rfl⟩
  rw [← hQ]
  have ne0_1 : h ≠ la := mp_ne hh ha (by simp)
  have in_X0_lower_X0 : ∀ w ∈ wsX00, w ∈ wsX0_lower := by decide +kernel
  have hP : mw G.1 vwCl B (mu μ la (.inl (G.2 0, 158 * k + 158, .inr (.inl f)))) s.heap := mw_eq (mu_i ha).symm hP
  have hl := lv_entry ([.ref h, .int (nI i), .int (nI j), .int (nI m9)]) (n := 4) (Nat.le_of_ble_eq_true rfl)
  have he9 : entryFrame m args 4 = entryFrame m ([.ref h, .int (nI i), .int (nI j), .int (nI m9)] : List Value).toArray 4 := by rw [hargs]
  rw [he9, lg_entry_eq]
  generalize (lg_sl ([.ref h, .int (nI i), .int (nI j), .int (nI m9)]) ++ List.replicate (4 - (lg_sl ([.ref h, .int (nI i), .int (nI j), .int (nI m9)])).length) Slot.unset).toArray = ls at hl ⊢
  have hl : lv_has ls 4 [(0, .ref h), (1, .int (nI i)), (2, .int (nI j)), (3, .int (nI m9))] := hl
  refine lv_aload_n hx hb dX0_lower_0 rfl (lv_at hl 0 rfl) ?_
  refine lv_aload_n hx hb dX0_lower_1 rfl (lv_at hl 0 rfl) ?_
  refine mw_get (C := RX0) (T := TX0) (N := 4) hx hb hts in_X0_lower_X0 hown hK hP ((mu_n ne0_1).trans (hh)) rfl 1 (by decide) (hts (.fieldLink RX0 11 "OctagonDesk$Numbers" "sum" "I") (by decide +kernel)) (fun _ h9 => h9) rfl dX0_lower_2 ?_
  refine lv_iload_n hx hb dX0_lower_5 rfl (lv_at hl 2 rfl) ?_
  refine lv_iload_n hx hb dX0_lower_6 rfl (lv_at hl 3 rfl) ?_
  refine kc_v (va_runV (As := [.int (nI 157), .int (nI j), .int (nI m9)]) (rest := []) ⟨hx, hb, hml, hown, hts⟩ (c_X0_putSum l G B (mu μ la (.inl (G.2 0, 158 * k + 158, .inr (.inl f)))) h la k f 157 j m9 ((mu_n ne0_1).trans (hh)) (mu_s _ _ _) (by omega) (by omega) (by omega) (by omega)) (cwV 3 hts gX0_lower_X0_putSum rfl rfl rfl (by decide +kernel) ⟨Nat.le_of_ble_eq_true rfl, Nat.le_of_ble_eq_true rfl⟩) ⟨KW.blind, hP.recv hK rfl ((mu_n ne0_1).trans (hh)), fun U9 hU9 hW9 => ⟨rfl, KW.pre hBs hKK hS hP U9 hU9 hW9⟩⟩ rfl rfl hl.1 rfl (lv_room (Nat.le_of_ble_eq_true rfl)) dX0_lower_7 ⟨Nat.le_of_ble_eq_true rfl, Nat.le_of_ble_eq_true rfl⟩) hS (fun u99 H locs hq9 hP hz9 hS => ?_)
  obtain ⟨g7, rfl, hg7⟩ := hq9
  have hP : mw G.1 vwCl B (mu μ la (.inl (G.2 0, 158 * k + 158, .inr (.inl g7)))) _ := mw_eq (mu_u _ _ _ _) hP
  refine lv_aload_n hx hb dX0_lower_10 rfl (lv_at hl 0 rfl) ?_
  refine lv_aload_n hx hb dX0_lower_11 rfl (lv_at hl 0 rfl) ?_
  refine mw_get (C := RX0) (T := TX0) (N := 4) hx hb hts in_X0_lower_X0 hown hK hP ((mu_n ne0_1).trans (hh)) rfl 1 (by decide) (hts (.fieldLink RX0 11 "OctagonDesk$Numbers" "sum" "I") (by decide +kernel)) (fun _ h9 => h9) rfl dX0_lower_12 ?_
  refine lv_aload_n hx hb dX0_lower_15 rfl (lv_at hl 0 rfl) ?_
  refine lv_iload_n hx hb dX0_lower_16 rfl (lv_at hl 1 rfl) ?_
  refine kc_i (va_runV (As := [.int (nI 157), .ref h, .int (nI i)]) (rest := []) ⟨hx, hb, hml, hown, hts⟩ (c_X0_isLess l G B (mu μ la (.inl (G.2 0, 158 * k + 158, .inr (.inl g7)))) h la k g7 h la g7 157 i ((mu_n ne0_1).trans (hh)) (mu_s _ _ _) ((mu_n ne0_1).trans (hh)) (mu_s _ _ _) (by omega) (by omega) (by omega)) (cwV 3 hts gX0_lower_X0_isLess rfl rfl rfl (by decide +kernel) ⟨Nat.le_of_ble_eq_true rfl, Nat.le_of_ble_eq_true rfl⟩) ⟨KW.blind, hP.recv hK rfl ((mu_n ne0_1).trans (hh)), fun U9 hU9 hW9 => ⟨rfl, KW.pre hBs hKK hS hP U9 hU9 hW9⟩⟩ rfl rfl hl.1 rfl (lv_room (Nat.le_of_ble_eq_true rfl)) dX0_lower_17 ⟨Nat.le_of_ble_eq_true rfl, Nat.le_of_ble_eq_true rfl⟩) hS (fun r17 u99 H locs hq9 hP hz9 hS => ?_)
  obtain ⟨he9, hbr17, hr17⟩ := hq9
  rw [he9] at hP
  refine lv_if_eq (tgt := 33) hx hb dX0_lower_20 (by decide) (fun hc20 => ?_) (fun hc20 => ?_)
  · rw [hQ]
    exact W.vret hx hb hr (fun t99 ht99 hW99 => ⟨⟨mu μ la (.inl (G.2 0, 158 * k + 158, .inr (.inl g7))), rfl, (⟨_, rfl, lo_0 hg7 hr17 hi hc20⟩), by show mw _ _ _ _ t99.heap; rw [ht99]; exact hP⟩, hS.F ht99⟩) hS.2.2 dX0_lower_33
  · refine lv_aload_n hx hb dX0_lower_23 rfl (lv_at hl 0 rfl) ?_
    refine lv_iload_n hx hb dX0_lower_24 rfl (lv_at hl 1 rfl) ?_
    refine lv_aload_n hx hb dX0_lower_25 rfl (lv_at hl 0 rfl) ?_
    refine lv_aload_n hx hb dX0_lower_26 rfl (lv_at hl 0 rfl) ?_
    refine mw_get (C := RX0) (T := TX0) (N := 4) hx hb hts in_X0_lower_X0 hown hK hP ((mu_n ne0_1).trans (hh)) rfl 1 (by decide) (hts (.fieldLink RX0 11 "OctagonDesk$Numbers" "sum" "I") (by decide +kernel)) (fun _ h9 => h9) rfl dX0_lower_27 ?_
    refine kc_v (va_runV (As := [.int (nI i), .ref h, .int (nI 157)]) (rest := []) ⟨hx, hb, hml, hown, hts⟩ (c_X0_put_s l G B (mu μ la (.inl (G.2 0, 158 * k + 158, .inr (.inl g7)))) h la k g7 i 157 ((mu_n ne0_1).trans (hh)) (mu_s _ _ _) (by omega) (by omega) (by omega)) (cwV 3 hts gX0_lower_X0_put rfl rfl rfl (by decide +kernel) ⟨Nat.le_of_ble_eq_true rfl, Nat.le_of_ble_eq_true rfl⟩) ⟨KW.blind, hP.recv hK rfl ((mu_n ne0_1).trans (hh)), fun U9 hU9 hW9 => ⟨rfl, KW.pre hBs hKK hS hP U9 hU9 hW9⟩⟩ rfl rfl hl.1 rfl (lv_room (Nat.le_of_ble_eq_true rfl)) dX0_lower_30 ⟨Nat.le_of_ble_eq_true rfl, Nat.le_of_ble_eq_true rfl⟩) hS (fun u99 H locs hq9 hP hz9 hS => ?_)
    obtain ⟨g30, rfl, hg30⟩ := hq9
    have hP : mw G.1 vwCl B (mu μ la (.inl (G.2 0, 158 * k + 158, .inr (.inl g30)))) _ := mw_eq (mu_u _ _ _ _) hP
    rw [hQ]
    exact W.vret hx hb hr (fun t99 ht99 hW99 => ⟨⟨mu μ la (.inl (G.2 0, 158 * k + 158, .inr (.inl g30))), rfl, (⟨_, rfl, lo_1 hg7 hr17 hi hc20 hg30⟩), by show mw _ _ _ _ t99.heap; rw [ht99]; exact hP⟩, hS.F ht99⟩) hS.2.2 dX0_lower_33

abbrev rm_X0_putNegative : Room := { frames := 1, cells := 0, slots := 0, locals := 22 }
set_option maxHeartbeats 4000000 in
set_option maxRecDepth 100000 in
theorem c_X0_putNegative (l : Launch) (G : GG) (B : Nat) (μ : mp) (h la k : Nat) (f : Nat → Int64) (to i : Nat) (hh : μ h = some (.inr (0, [.int (nI 158), .int (nI 157), .ref la, .int (nI (158 * k))]))) (ha : μ la = some (.inl (G.2 0, 158 * k + 158, .inr (.inl f)))) (hk : k ≤ 1022) (ht : to < 158) (hi : i < 158) : Met l yX0_putNegative wsX0_putNegative rm_X0_putNegative (va_Pc [.ref h, .int (nI to), .int (nI i)] (KW G B μ)) (va_Qv (fun μ2 => ∃ g9 : Nat → Int64, μ2 = mu μ la (.inl (G.2 0, 158 * k + 158, .inr (.inl g9))) ∧ (k = 0 → g9 = vp_updL f to (ng (f i)))) (BB G B) (fun q => B ≤ q)) 0 0 (fun q => B ≤ q) := by
  refine Met.ofW (cc := cX0_putNegative) (maxL := 6) (ret := none) (by decide) rfl ?_
  intro p e s m args below meth c s₁ B9 hml hv
  obtain ⟨hargs, hBs, hP, hKK⟩ := hv
  have hx := B9.exec
  have hb := B9.bytes
  have hr := B9.returns
  have hts := atoms_spec (ws := wsX0_putNegative) B9.pre
  have hown : s.vm.findClass RX0 = some m.cls := findClass_of_methodNamed B9.named
  have hlocks := B9.notSynchronized
  have hK := hKK.k
  have hS : va_S (fun q => B ≤ q) s.heap s.heap [] := va_S.rf
  obtain ⟨Q, hQ⟩ : ∃ Q, Q = MQ below (va_Qv (fun μ2 => ∃ g9 : Nat → Int64, μ2 = mu μ la (.inl (G.2 0, 158 * k + 158, .inr (.inl g9))) ∧ (k = 0 → g9 = vp_updL f to (ng (f i)))) (BB G B) (fun q => B ≤ q)) args s 0 0 (fun q => B ≤ q) := ⟨_, rfl⟩
  rw [← hQ]
  have ne0_1 : h ≠ la := mp_ne hh ha (by simp)
  have in_X0_putNegative_X0 : ∀ w ∈ wsX00, w ∈ wsX0_putNegative := by decide +kernel
  have hP : mw G.1 vwCl B (mu μ la (.inl (G.2 0, 158 * k + 158, .inr (.inl f)))) s.heap := mw_eq (mu_i ha).symm hP
  have L19 : ∀ (N19 : Nat) (a : Nat) (q : Nat) (x : Int64) (g : Nat → Int64) (hN19 : k - q < N19) (ha4 : a = 158 * q) (hq : q ≤ k) (hz : k = 0 → g = f ∧ x = 0) (hn4 : ¬ f (158 * k + i) = INF), ∀ (H : Heap) (locs : List Loc), mw G.1 vwCl B (mu μ la (.inl (G.2 0, 158 * k + 158, .inr (.inl g)))) H → va_S (fun q => B ≤ q) s.heap H locs → ∀ ls : Array Slot, lv_has ls 6 [(0, .ref h), (1, .int (nI to)), (2, .int (nI i)), (3, .long x), (5, .int (nI a))] → W p l e rm_X0_putNegative s m args below meth c H locs 0 0 Q (F0 m 19 ls []) := by
    intro N19
    induction N19 with
    | zero => intro a q x g hN19; exact absurd hN19 (Nat.not_lt_zero _)
    | succ N19 ih19 =>
      intro a q x g hN19 ha4 hq hz hn4 H locs hP hS ls hl
      refine lv_iload hx hb dX0_putNegative_19 (lv_at hl 4 rfl) ?_
      refine lv_aload_n hx hb dX0_putNegative_21 rfl (lv_at hl 0 rfl) ?_
      refine mw_get (C := RX0) (T := TX0) (N := 4) hx hb hts in_X0_putNegative_X0 hown hK hP ((mu_n ne0_1).trans (hh)) rfl 3 (by decide) (hts (.fieldLink RX0 22 "OctagonDesk$Numbers" "top" "I") (by decide +kernel)) (fun _ h9 => h9) rfl dX0_putNegative_22 ?_
      refine nv_icmp_ge (tgt := 71) hx hb (by omega) (by omega) dX0_putNegative_25 (by decide) (fun hc25 => ?_) (fun hc25 => ?_)
      · refine lv_aload_n hx hb dX0_putNegative_71 rfl (lv_at hl 0 rfl) ?_
        refine mw_get (C := RX0) (T := TX0) (N := 4) hx hb hts in_X0_putNegative_X0 hown hK hP ((mu_n ne0_1).trans (hh)) rfl 2 (by decide) (hts (.fieldLink RX0 18 "OctagonDesk$Numbers" "limbs" "[J") (by decide +kernel)) (fun _ h9 => h9) rfl dX0_putNegative_72 ?_
        refine lv_aload_n hx hb dX0_putNegative_75 rfl (lv_at hl 0 rfl) ?_
        refine mw_get (C := RX0) (T := TX0) (N := 4) hx hb hts in_X0_putNegative_X0 hown hK hP ((mu_n ne0_1).trans (hh)) rfl 3 (by decide) (hts (.fieldLink RX0 22 "OctagonDesk$Numbers" "top" "I") (by decide +kernel)) (fun _ h9 => h9) rfl dX0_putNegative_76 ?_
        refine lv_iload_n hx hb dX0_putNegative_79 rfl (lv_at hl 1 rfl) ?_
        refine nv_iadd hx hb dX0_putNegative_80 ?_
        refine lv_lload_n hx hb dX0_putNegative_81 rfl (lv_at hl 3 rfl) ?_
        refine lv_aload_n hx hb dX0_putNegative_82 rfl (lv_at hl 0 rfl) ?_
        refine mw_get (C := RX0) (T := TX0) (N := 4) hx hb hts in_X0_putNegative_X0 hown hK hP ((mu_n ne0_1).trans (hh)) rfl 2 (by decide) (hts (.fieldLink RX0 18 "OctagonDesk$Numbers" "limbs" "[J") (by decide +kernel)) (fun _ h9 => h9) rfl dX0_putNegative_83 ?_
        refine lv_aload_n hx hb dX0_putNegative_86 rfl (lv_at hl 0 rfl) ?_
        refine mw_get (C := RX0) (T := TX0) (N := 4) hx hb hts in_X0_putNegative_X0 hown hK hP ((mu_n ne0_1).trans (hh)) rfl 3 (by decide) (hts (.fieldLink RX0 22 "OctagonDesk$Numbers" "top" "I") (by decide +kernel)) (fun _ h9 => h9) rfl dX0_putNegative_87 ?_
        refine lv_iload_n hx hb dX0_putNegative_90 rfl (lv_at hl 2 rfl) ?_
        refine nv_iadd hx hb dX0_putNegative_91 ?_
        refine mw_lald hx hb hK hP 0 (mu_s _ _ _) rfl (by omega) (by omega) dX0_putNegative_92 ?_
        refine lv_lsub hx hb dX0_putNegative_93 ?_
        refine lv_topl (fun v94 ev94 => ?_)
        refine mw_last hx hb hK hP hS 0 (mu_s _ _ _) rfl (by omega) (by omega) dX0_putNegative_94 (fun H locs hP hS => ?_)
        have hP : mw G.1 vwCl B (mu μ la (.inl (G.2 0, 158 * k + 158, .inr (.inl (vp_updL g ((158 * k) + to) v94))))) _ := mw_eq (mu_u _ _ _ _) hP
        rw [hQ]
        exact W.vret hx hb hr (fun t99 ht99 hW99 => ⟨⟨mu μ la (.inl (G.2 0, 158 * k + 158, .inr (.inl (vp_updL g ((158 * k) + to) v94)))), rfl, (⟨_, rfl, fun h0 => by obtain ⟨h1, h2⟩ := hz h0; subst h0; subst h1; subst h2; have h3 : ¬ g i = INF := (by simpa using hn4); rw [ev94, ng, if_neg h3, Nat.mul_zero, Nat.zero_add, Nat.zero_add]⟩), by show mw _ _ _ _ t99.heap; rw [ht99]; exact hP⟩, hS.F ht99⟩) hS.2.2 dX0_putNegative_95
      · refine lv_lload_n hx hb dX0_putNegative_28 rfl (lv_at hl 3 rfl) ?_
        refine lv_aload_n hx hb dX0_putNegative_29 rfl (lv_at hl 0 rfl) ?_
        refine mw_get (C := RX0) (T := TX0) (N := 4) hx hb hts in_X0_putNegative_X0 hown hK hP ((mu_n ne0_1).trans (hh)) rfl 2 (by decide) (hts (.fieldLink RX0 18 "OctagonDesk$Numbers" "limbs" "[J") (by decide +kernel)) (fun _ h9 => h9) rfl dX0_putNegative_30 ?_
        refine lv_iload hx hb dX0_putNegative_33 (lv_at hl 4 rfl) ?_
        refine lv_iload_n hx hb dX0_putNegative_35 rfl (lv_at hl 2 rfl) ?_
        refine nv_iadd hx hb dX0_putNegative_36 ?_
        refine mw_lald hx hb hK hP 0 (mu_s _ _ _) rfl (by omega) (by omega) dX0_putNegative_37 ?_
        refine lv_lsub hx hb dX0_putNegative_38 ?_
        refine lv_topl (fun v39 ev39 => ?_)
        refine lv_lstore_n (lv' := [(3, .long v39), (0, .ref h), (1, .int (nI to)), (2, .int (nI i)), (5, .int (nI a))]) hx hb dX0_putNegative_39 rfl hl (by decide) rfl (fun ls hl => ?_)
        refine lv_aload_n hx hb dX0_putNegative_40 rfl (lv_at hl 1 rfl) ?_
        refine mw_get (C := RX0) (T := TX0) (N := 4) hx hb hts in_X0_putNegative_X0 hown hK hP ((mu_n ne0_1).trans (hh)) rfl 2 (by decide) (hts (.fieldLink RX0 18 "OctagonDesk$Numbers" "limbs" "[J") (by decide +kernel)) (fun _ h9 => h9) rfl dX0_putNegative_41 ?_
        refine lv_iload hx hb dX0_putNegative_44 (lv_at hl 4 rfl) ?_
        refine lv_iload_n hx hb dX0_putNegative_46 rfl (lv_at hl 2 rfl) ?_
        refine nv_iadd hx hb dX0_putNegative_47 ?_
        refine lv_lload_n hx hb dX0_putNegative_48 rfl (lv_at hl 0 rfl) ?_
        refine lv_ldc2 (v := (1152921504606846975)) hx hb hown (hts (.constantLong RX0 39 (1152921504606846975)) (by decide +kernel)) dX0_putNegative_49 ?_
        refine lv_land hx hb dX0_putNegative_52 ?_
        refine lv_topl (fun v53 ev53 => ?_)
        refine mw_last hx hb hK hP hS 0 (mu_s _ _ _) rfl (by omega) (by omega) dX0_putNegative_53 (fun H locs hP hS => ?_)
        have hP : mw G.1 vwCl B (mu μ la (.inl (G.2 0, 158 * k + 158, .inr (.inl (vp_updL g (a + to) v53))))) _ := mw_eq (mu_u _ _ _ _) hP
        refine lv_lload_n hx hb dX0_putNegative_54 rfl (lv_at hl 0 rfl) ?_
        refine lv_bipush (v := nI 60) hx hb dX0_putNegative_55 (by decide) ?_
        refine lv_lshr (v := v39 >>> ((nI 60).toInt64 &&& 63)) hx hb dX0_putNegative_57 rfl ?_
        refine lv_topl (fun v58 ev58 => ?_)
        refine lv_lstore_n (lv' := [(3, .long v58), (0, .ref h), (1, .int (nI to)), (2, .int (nI i)), (5, .int (nI a))]) hx hb dX0_putNegative_58 rfl hl (by decide) rfl (fun ls hl => ?_)
        refine lv_iload hx hb dX0_putNegative_59 (lv_at hl 4 rfl) ?_
        refine lv_aload_n hx hb dX0_putNegative_61 rfl (lv_at hl 1 rfl) ?_
        refine mw_get (C := RX0) (T := TX0) (N := 4) hx hb hts in_X0_putNegative_X0 hown hK hP ((mu_n ne0_1).trans (hh)) rfl 0 (by decide) (hts (.fieldLink RX0 15 "OctagonDesk$Numbers" "cells" "I") (by decide +kernel)) (fun _ h9 => h9) rfl dX0_putNegative_62 ?_
        refine nv_iadd hx hb dX0_putNegative_65 ?_
        refine lv_istore (lv' := [(5, .int (nI (a + 158))), (3, .long v58), (0, .ref h), (1, .int (nI to)), (2, .int (nI i))]) hx hb dX0_putNegative_66 hl (by decide) rfl (fun ls hl => ?_)
        refine lv_goto (tgt := 19) hx hb dX0_putNegative_68 (by decide) ?_
        exact ih19 (a + 158) (q + 1) v58 (vp_updL g (a + to) v53) (by omega) (by omega) (by omega) (fun h0 => absurd h0 (by omega)) (hn4) _ _ hP hS ls (lv_sub hl [2, 3, 4, 1, 0] rfl)
  have hl := lv_entry ([.ref h, .int (nI to), .int (nI i)]) (n := 6) (Nat.le_of_ble_eq_true rfl)
  have he9 : entryFrame m args 6 = entryFrame m ([.ref h, .int (nI to), .int (nI i)] : List Value).toArray 6 := by rw [hargs]
  rw [he9, lg_entry_eq]
  generalize (lg_sl ([.ref h, .int (nI to), .int (nI i)]) ++ List.replicate (6 - (lg_sl ([.ref h, .int (nI to), .int (nI i)])).length) Slot.unset).toArray = ls at hl ⊢
  have hl : lv_has ls 6 [(0, .ref h), (1, .int (nI to)), (2, .int (nI i))] := hl
  refine lv_aload_n hx hb dX0_putNegative_0 rfl (lv_at hl 0 rfl) ?_
  refine lv_iload_n hx hb dX0_putNegative_1 rfl (lv_at hl 2 rfl) ?_
  refine kc_i (va_runV (As := [.int (nI i)]) (rest := []) ⟨hx, hb, hml, hown, hts⟩ (c_X0_isInfinite l G B (mu μ la (.inl (G.2 0, 158 * k + 158, .inr (.inl f)))) h la k f i ((mu_n ne0_1).trans (hh)) (mu_s _ _ _) (by omega) (by omega)) (cwV 1 hts gX0_putNegative_X0_isInfinite rfl rfl rfl (by decide +kernel) ⟨Nat.le_of_ble_eq_true rfl, Nat.le_of_ble_eq_true rfl⟩) ⟨KW.blind, hP.recv hK rfl ((mu_n ne0_1).trans (hh)), fun U9 hU9 hW9 => ⟨rfl, KW.pre hBs hKK hS hP U9 hU9 hW9⟩⟩ rfl rfl hl.1 rfl (lv_room (Nat.le_of_ble_eq_true rfl)) dX0_putNegative_2 ⟨Nat.le_of_ble_eq_true rfl, Nat.le_of_ble_eq_true rfl⟩) hS (fun r2 u99 H locs hq9 hP hz9 hS => ?_)
  obtain ⟨he9, hr2⟩ := hq9
  rw [he9] at hP
  refine lv_if_eq (tgt := 14) hx hb dX0_putNegative_5 (by decide) (fun hc5 => ?_) (fun hc5 => ?_)
  · refine lv_lconst (v := 0) hx hb dX0_putNegative_14 (by decide) ?_
    refine lv_lstore_n (lv' := [(3, .long 0), (0, .ref h), (1, .int (nI to)), (2, .int (nI i))]) hx hb dX0_putNegative_15 rfl hl (by decide) rfl (fun ls hl => ?_)
    refine lv_iconst (v := nI 0) hx hb dX0_putNegative_16 (by decide) ?_
    refine lv_istore (lv' := [(5, .int (nI 0)), (3, .long 0), (0, .ref h), (1, .int (nI to)), (2, .int (nI i))]) hx hb dX0_putNegative_17 hl (by decide) rfl (fun ls hl => ?_)
    exact L19 _ 0 0 0 f (Nat.lt_succ_self _) (by omega) (by omega) (fun h0 => ⟨rfl, rfl⟩) (pi_0 hr2 hc5) _ _ hP hS ls (lv_sub hl [2, 3, 4, 1, 0] rfl)
  · refine lv_aload_n hx hb dX0_putNegative_8 rfl (lv_at hl 0 rfl) ?_
    refine lv_iload_n hx hb dX0_putNegative_9 rfl (lv_at hl 1 rfl) ?_
    refine kc_v (va_runV (As := [.int (nI to)]) (rest := []) ⟨hx, hb, hml, hown, hts⟩ (c_X0_setInfinite l G B (mu μ la (.inl (G.2 0, 158 * k + 158, .inr (.inl f)))) h la k f to ((mu_n ne0_1).trans (hh)) (mu_s _ _ _) (by omega) (by omega)) (cwV 1 hts gX0_putNegative_X0_setInfinite rfl rfl rfl (by decide +kernel) ⟨Nat.le_of_ble_eq_true rfl, Nat.le_of_ble_eq_true rfl⟩) ⟨KW.blind, hP.recv hK rfl ((mu_n ne0_1).trans (hh)), fun U9 hU9 hW9 => ⟨rfl, KW.pre hBs hKK hS hP U9 hU9 hW9⟩⟩ rfl rfl hl.1 rfl (lv_room (Nat.le_of_ble_eq_true rfl)) dX0_putNegative_10 ⟨Nat.le_of_ble_eq_true rfl, Nat.le_of_ble_eq_true rfl⟩) hS (fun u99 H locs hq9 hP hz9 hS => ?_)
    obtain ⟨g10, rfl, hg10⟩ := hq9
    have hP : mw G.1 vwCl B (mu μ la (.inl (G.2 0, 158 * k + 158, .inr (.inl g10)))) _ := mw_eq (mu_u _ _ _ _) hP
    rw [hQ]
    exact W.vret hx hb hr (fun t99 ht99 hW99 => ⟨⟨mu μ la (.inl (G.2 0, 158 * k + 158, .inr (.inl g10))), rfl, (⟨_, rfl, pi_1 hr2 hc5 hg10 (fun h9 => by rw [ng, if_pos h9])⟩), by show mw _ _ _ _ t99.heap; rw [ht99]; exact hP⟩, hS.F ht99⟩) hS.2.2 dX0_putNegative_13

abbrev rm_X0_putHalf : Room := { frames := 1, cells := 0, slots := 0, locals := 22 }
set_option maxHeartbeats 4000000 in
set_option maxRecDepth 100000 in
theorem c_X0_putHalf (l : Launch) (G : GG) (B : Nat) (μ : mp) (h la k : Nat) (f : Nat → Int64) (to i : Nat) (hh : μ h = some (.inr (0, [.int (nI 158), .int (nI 157), .ref la, .int (nI (158 * k))]))) (ha : μ la = some (.inl (G.2 0, 158 * k + 158, .inr (.inl f)))) (hk : k ≤ 1022) (ht : to < 158) (hi : i < 158) : Met l yX0_putHalf wsX0_putHalf rm_X0_putHalf (va_Pc [.ref h, .int (nI to), .int (nI i)] (KW G B μ)) (va_Qv (fun μ2 => ∃ g9 : Nat → Int64, μ2 = mu μ la (.inl (G.2 0, 158 * k + 158, .inr (.inl g9))) ∧ (k = 0 → g9 = vp_updL f to (hf (f i)))) (BB G B) (fun q => B ≤ q)) 0 0 (fun q => B ≤ q) := by
  refine Met.ofW (cc := cX0_putHalf) (maxL := 8) (ret := none) (by decide) rfl ?_
  intro p e s m args below meth c s₁ B9 hml hv
  obtain ⟨hargs, hBs, hP, hKK⟩ := hv
  have hx := B9.exec
  have hb := B9.bytes
  have hr := B9.returns
  have hts := atoms_spec (ws := wsX0_putHalf) B9.pre
  have hown : s.vm.findClass RX0 = some m.cls := findClass_of_methodNamed B9.named
  have hlocks := B9.notSynchronized
  have hK := hKK.k
  have hS : va_S (fun q => B ≤ q) s.heap s.heap [] := va_S.rf
  obtain ⟨Q, hQ⟩ : ∃ Q, Q = MQ below (va_Qv (fun μ2 => ∃ g9 : Nat → Int64, μ2 = mu μ la (.inl (G.2 0, 158 * k + 158, .inr (.inl g9))) ∧ (k = 0 → g9 = vp_updL f to (hf (f i)))) (BB G B) (fun q => B ≤ q)) args s 0 0 (fun q => B ≤ q) := ⟨_, rfl⟩
  rw [← hQ]
  have ne0_1 : h ≠ la := mp_ne hh ha (by simp)
  have in_X0_putHalf_X0 : ∀ w ∈ wsX00, w ∈ wsX0_putHalf := by decide +kernel
  have hP : mw G.1 vwCl B (mu μ la (.inl (G.2 0, 158 * k + 158, .inr (.inl f)))) s.heap := mw_eq (mu_i ha).symm hP
  have L63 : ∀ (N63 : Nat) (a : Int32) (q : Nat) (x : Int64) (g : Nat → Int64) (hN63 : q < N63) (ha4 : a = dn q) (hq : q ≤ k) (hz : k = 0 → g = vp_updL f to (hf (f i))), ∀ (H : Heap) (locs : List Loc), mw G.1 vwCl B (mu μ la (.inl (G.2 0, 158 * k + 158, .inr (.inl g)))) H → va_S (fun q => B ≤ q) s.heap H locs → ∀ ls : Array Slot, lv_has ls 8 [(0, .ref h), (1, .int (nI to)), (2, .int (nI i)), (3, .long x), (5, .int a)] → W p l e rm_X0_putHalf s m args below meth c H locs 0 0 Q (F0 m 63 ls []) := by
    intro N63
    induction N63 with
    | zero => intro a q x g hN63; exact absurd hN63 (Nat.not_lt_zero _)
    | succ N63 ih63 =>
      intro a q x g hN63 ha4 hq hz H locs hP hS ls hl
      rcases q with _ | q
      · have ha4 : a = -158 := ha4
        subst ha4
        refine lv_iload hx hb dX0_putHalf_63 (lv_at hl 4 rfl) ?_
        refine lv_if_lt (tgt := 114) hx hb dX0_putHalf_65 (by decide) (fun hc65 => ?_) (fun hc65 => ?_)
        · rw [hQ]
          exact W.vret hx hb hr (fun t99 ht99 hW99 => ⟨⟨mu μ la (.inl (G.2 0, 158 * k + 158, .inr (.inl g))), rfl, (⟨_, rfl, hz⟩), by show mw _ _ _ _ t99.heap; rw [ht99]; exact hP⟩, hS.F ht99⟩) hS.2.2 dX0_putHalf_114
        · exact absurd (by decide : (-158 : Int32) < 0) hc65
      · have ha4 : a = nI (158 * q) := ha4
        subst ha4
        refine lv_iload hx hb dX0_putHalf_63 (lv_at hl 4 rfl) ?_
        refine lv_if_lt (tgt := 114) hx hb dX0_putHalf_65 (by decide) (fun hc65 => ?_) (fun hc65 => ?_)
        · exact absurd hc65 (nI_pos (by omega))
        · refine lv_aload_n hx hb dX0_putHalf_68 rfl (lv_at hl 0 rfl) ?_
          refine mw_get (C := RX0) (T := TX0) (N := 4) hx hb hts in_X0_putHalf_X0 hown hK hP ((mu_n ne0_1).trans (hh)) rfl 2 (by decide) (hts (.fieldLink RX0 18 "OctagonDesk$Numbers" "limbs" "[J") (by decide +kernel)) (fun _ h9 => h9) rfl dX0_putHalf_69 ?_
          refine lv_iload hx hb dX0_putHalf_72 (lv_at hl 4 rfl) ?_
          refine lv_iload_n hx hb dX0_putHalf_74 rfl (lv_at hl 2 rfl) ?_
          refine nv_iadd hx hb dX0_putHalf_75 ?_
          refine mw_lald hx hb hK hP 0 (mu_s _ _ _) rfl (by omega) (by omega) dX0_putHalf_76 ?_
          refine lv_lload_n hx hb dX0_putHalf_77 rfl (lv_at hl 3 rfl) ?_
          refine lv_bipush (v := nI 60) hx hb dX0_putHalf_78 (by decide) ?_
          refine lv_lshl (v := x <<< ((nI 60).toInt64 &&& 63)) hx hb dX0_putHalf_80 rfl ?_
          refine lv_ladd hx hb dX0_putHalf_81 ?_
          refine lv_topl (fun v82 ev82 => ?_)
          refine lv_lstore (lv' := [(6, .long v82), (0, .ref h), (1, .int (nI to)), (2, .int (nI i)), (3, .long x), (5, .int (nI (158 * q)))]) hx hb dX0_putHalf_82 hl (by decide) rfl (fun ls hl => ?_)
          refine lv_lload hx hb dX0_putHalf_84 (lv_at hl 0 rfl) ?_
          refine lv_lconst (v := 1) hx hb dX0_putHalf_86 (by decide) ?_
          refine lv_land hx hb dX0_putHalf_87 ?_
          refine lv_topl (fun v88 ev88 => ?_)
          refine lv_lstore_n (lv' := [(3, .long v88), (6, .long v82), (0, .ref h), (1, .int (nI to)), (2, .int (nI i)), (5, .int (nI (158 * q)))]) hx hb dX0_putHalf_88 rfl hl (by decide) rfl (fun ls hl => ?_)
          refine lv_aload_n hx hb dX0_putHalf_89 rfl (lv_at hl 2 rfl) ?_
          refine mw_get (C := RX0) (T := TX0) (N := 4) hx hb hts in_X0_putHalf_X0 hown hK hP ((mu_n ne0_1).trans (hh)) rfl 2 (by decide) (hts (.fieldLink RX0 18 "OctagonDesk$Numbers" "limbs" "[J") (by decide +kernel)) (fun _ h9 => h9) rfl dX0_putHalf_90 ?_
          refine lv_iload hx hb dX0_putHalf_93 (lv_at hl 5 rfl) ?_
          refine lv_iload_n hx hb dX0_putHalf_95 rfl (lv_at hl 3 rfl) ?_
          refine nv_iadd hx hb dX0_putHalf_96 ?_
          refine lv_lload hx hb dX0_putHalf_97 (lv_at hl 1 rfl) ?_
          refine lv_iconst (v := nI 1) hx hb dX0_putHalf_99 (by decide) ?_
          refine lv_lshr (v := v82 >>> ((nI 1).toInt64 &&& 63)) hx hb dX0_putHalf_100 rfl ?_
          refine lv_topl (fun v101 ev101 => ?_)
          refine mw_last hx hb hK hP hS 0 (mu_s _ _ _) rfl (by omega) (by omega) dX0_putHalf_101 (fun H locs hP hS => ?_)
          have hP : mw G.1 vwCl B (mu μ la (.inl (G.2 0, 158 * k + 158, .inr (.inl (vp_updL g ((158 * q) + to) v101))))) _ := mw_eq (mu_u _ _ _ _) hP
          refine lv_iload hx hb dX0_putHalf_102 (lv_at hl 5 rfl) ?_
          refine lv_aload_n hx hb dX0_putHalf_104 rfl (lv_at hl 2 rfl) ?_
          refine mw_get (C := RX0) (T := TX0) (N := 4) hx hb hts in_X0_putHalf_X0 hown hK hP ((mu_n ne0_1).trans (hh)) rfl 0 (by decide) (hts (.fieldLink RX0 15 "OctagonDesk$Numbers" "cells" "I") (by decide +kernel)) (fun _ h9 => h9) rfl dX0_putHalf_105 ?_
          refine lv_isub hx hb dX0_putHalf_108 ?_
          refine lv_topi (fun v109 ev109 => ?_)
          refine lv_istore (lv' := [(5, .int v109), (3, .long v88), (6, .long v82), (0, .ref h), (1, .int (nI to)), (2, .int (nI i))]) hx hb dX0_putHalf_109 hl (by decide) rfl (fun ls hl => ?_)
          refine lv_goto (tgt := 63) hx hb dX0_putHalf_111 (by decide) ?_
          exact ih63 v109 q v88 (vp_updL g ((158 * q) + to) v101) (by omega) (by rw [ev109]; exact dn_sub _) (by omega) (fun h0 => absurd h0 (by omega)) _ _ hP hS ls (lv_sub hl [3, 4, 5, 1, 0] rfl)
  have hl := lv_entry ([.ref h, .int (nI to), .int (nI i)]) (n := 8) (Nat.le_of_ble_eq_true rfl)
  have he9 : entryFrame m args 8 = entryFrame m ([.ref h, .int (nI to), .int (nI i)] : List Value).toArray 8 := by rw [hargs]
  rw [he9, lg_entry_eq]
  generalize (lg_sl ([.ref h, .int (nI to), .int (nI i)]) ++ List.replicate (8 - (lg_sl ([.ref h, .int (nI to), .int (nI i)])).length) Slot.unset).toArray = ls at hl ⊢
  have hl : lv_has ls 8 [(0, .ref h), (1, .int (nI to)), (2, .int (nI i))] := hl
  refine lv_aload_n hx hb dX0_putHalf_0 rfl (lv_at hl 0 rfl) ?_
  refine lv_iload_n hx hb dX0_putHalf_1 rfl (lv_at hl 2 rfl) ?_
  refine kc_i (va_runV (As := [.int (nI i)]) (rest := []) ⟨hx, hb, hml, hown, hts⟩ (c_X0_isInfinite l G B (mu μ la (.inl (G.2 0, 158 * k + 158, .inr (.inl f)))) h la k f i ((mu_n ne0_1).trans (hh)) (mu_s _ _ _) (by omega) (by omega)) (cwV 1 hts gX0_putHalf_X0_isInfinite rfl rfl rfl (by decide +kernel) ⟨Nat.le_of_ble_eq_true rfl, Nat.le_of_ble_eq_true rfl⟩) ⟨KW.blind, hP.recv hK rfl ((mu_n ne0_1).trans (hh)), fun U9 hU9 hW9 => ⟨rfl, KW.pre hBs hKK hS hP U9 hU9 hW9⟩⟩ rfl rfl hl.1 rfl (lv_room (Nat.le_of_ble_eq_true rfl)) dX0_putHalf_2 ⟨Nat.le_of_ble_eq_true rfl, Nat.le_of_ble_eq_true rfl⟩) hS (fun r2 u99 H locs hq9 hP hz9 hS => ?_)
  obtain ⟨he9, hr2⟩ := hq9
  rw [he9] at hP
  refine lv_if_eq (tgt := 14) hx hb dX0_putHalf_5 (by decide) (fun hc5 => ?_) (fun hc5 => ?_)
  · refine lv_aload_n hx hb dX0_putHalf_14 rfl (lv_at hl 0 rfl) ?_
    refine mw_get (C := RX0) (T := TX0) (N := 4) hx hb hts in_X0_putHalf_X0 hown hK hP ((mu_n ne0_1).trans (hh)) rfl 2 (by decide) (hts (.fieldLink RX0 18 "OctagonDesk$Numbers" "limbs" "[J") (by decide +kernel)) (fun _ h9 => h9) rfl dX0_putHalf_15 ?_
    refine lv_aload_n hx hb dX0_putHalf_18 rfl (lv_at hl 0 rfl) ?_
    refine mw_get (C := RX0) (T := TX0) (N := 4) hx hb hts in_X0_putHalf_X0 hown hK hP ((mu_n ne0_1).trans (hh)) rfl 3 (by decide) (hts (.fieldLink RX0 22 "OctagonDesk$Numbers" "top" "I") (by decide +kernel)) (fun _ h9 => h9) rfl dX0_putHalf_19 ?_
    refine lv_iload_n hx hb dX0_putHalf_22 rfl (lv_at hl 2 rfl) ?_
    refine nv_iadd hx hb dX0_putHalf_23 ?_
    refine mw_lald hx hb hK hP 0 (mu_s _ _ _) rfl (by omega) (by omega) dX0_putHalf_24 ?_
    refine lv_lconst (v := 1) hx hb dX0_putHalf_25 (by decide) ?_
    refine lv_land hx hb dX0_putHalf_26 ?_
    refine lv_topl (fun v27 ev27 => ?_)
    refine lv_lstore_n (lv' := [(3, .long v27), (0, .ref h), (1, .int (nI to)), (2, .int (nI i))]) hx hb dX0_putHalf_27 rfl hl (by decide) rfl (fun ls hl => ?_)
    refine lv_aload_n hx hb dX0_putHalf_28 rfl (lv_at hl 1 rfl) ?_
    refine mw_get (C := RX0) (T := TX0) (N := 4) hx hb hts in_X0_putHalf_X0 hown hK hP ((mu_n ne0_1).trans (hh)) rfl 2 (by decide) (hts (.fieldLink RX0 18 "OctagonDesk$Numbers" "limbs" "[J") (by decide +kernel)) (fun _ h9 => h9) rfl dX0_putHalf_29 ?_
    refine lv_aload_n hx hb dX0_putHalf_32 rfl (lv_at hl 1 rfl) ?_
    refine mw_get (C := RX0) (T := TX0) (N := 4) hx hb hts in_X0_putHalf_X0 hown hK hP ((mu_n ne0_1).trans (hh)) rfl 3 (by decide) (hts (.fieldLink RX0 22 "OctagonDesk$Numbers" "top" "I") (by decide +kernel)) (fun _ h9 => h9) rfl dX0_putHalf_33 ?_
    refine lv_iload_n hx hb dX0_putHalf_36 rfl (lv_at hl 2 rfl) ?_
    refine nv_iadd hx hb dX0_putHalf_37 ?_
    refine lv_aload_n hx hb dX0_putHalf_38 rfl (lv_at hl 1 rfl) ?_
    refine mw_get (C := RX0) (T := TX0) (N := 4) hx hb hts in_X0_putHalf_X0 hown hK hP ((mu_n ne0_1).trans (hh)) rfl 2 (by decide) (hts (.fieldLink RX0 18 "OctagonDesk$Numbers" "limbs" "[J") (by decide +kernel)) (fun _ h9 => h9) rfl dX0_putHalf_39 ?_
    refine lv_aload_n hx hb dX0_putHalf_42 rfl (lv_at hl 1 rfl) ?_
    refine mw_get (C := RX0) (T := TX0) (N := 4) hx hb hts in_X0_putHalf_X0 hown hK hP ((mu_n ne0_1).trans (hh)) rfl 3 (by decide) (hts (.fieldLink RX0 22 "OctagonDesk$Numbers" "top" "I") (by decide +kernel)) (fun _ h9 => h9) rfl dX0_putHalf_43 ?_
    refine lv_iload_n hx hb dX0_putHalf_46 rfl (lv_at hl 3 rfl) ?_
    refine nv_iadd hx hb dX0_putHalf_47 ?_
    refine mw_lald hx hb hK hP 0 (mu_s _ _ _) rfl (by omega) (by omega) dX0_putHalf_48 ?_
    refine lv_iconst (v := nI 1) hx hb dX0_putHalf_49 (by decide) ?_
    refine lv_lshr (v := (f ((158 * k) + i)) >>> ((nI 1).toInt64 &&& 63)) hx hb dX0_putHalf_50 rfl ?_
    refine lv_topl (fun v51 ev51 => ?_)
    refine mw_last hx hb hK hP hS 0 (mu_s _ _ _) rfl (by omega) (by omega) dX0_putHalf_51 (fun H locs hP hS => ?_)
    have hP : mw G.1 vwCl B (mu μ la (.inl (G.2 0, 158 * k + 158, .inr (.inl (vp_updL f ((158 * k) + to) v51))))) _ := mw_eq (mu_u _ _ _ _) hP
    refine lv_aload_n hx hb dX0_putHalf_52 rfl (lv_at hl 1 rfl) ?_
    refine mw_get (C := RX0) (T := TX0) (N := 4) hx hb hts in_X0_putHalf_X0 hown hK hP ((mu_n ne0_1).trans (hh)) rfl 3 (by decide) (hts (.fieldLink RX0 22 "OctagonDesk$Numbers" "top" "I") (by decide +kernel)) (fun _ h9 => h9) rfl dX0_putHalf_53 ?_
    refine lv_aload_n hx hb dX0_putHalf_56 rfl (lv_at hl 1 rfl) ?_
    refine mw_get (C := RX0) (T := TX0) (N := 4) hx hb hts in_X0_putHalf_X0 hown hK hP ((mu_n ne0_1).trans (hh)) rfl 0 (by decide) (hts (.fieldLink RX0 15 "OctagonDesk$Numbers" "cells" "I") (by decide +kernel)) (fun _ h9 => h9) rfl dX0_putHalf_57 ?_
    refine lv_isub hx hb dX0_putHalf_60 ?_
    refine lv_topi (fun v61 ev61 => ?_)
    refine lv_istore (lv' := [(5, .int v61), (3, .long v27), (0, .ref h), (1, .int (nI to)), (2, .int (nI i))]) hx hb dX0_putHalf_61 hl (by decide) rfl (fun ls hl => ?_)
    exact L63 _ v61 k v27 (vp_updL f ((158 * k) + to) v51) (Nat.lt_succ_self _) (by rw [ev61]; exact dn_sub _) (by omega) (fun h0 => by subst h0; have h3 : ¬ f i = INF := (by simpa using pi_0 hr2 hc5); rw [ev51, hf, if_neg h3, Nat.mul_zero, Nat.zero_add, Nat.zero_add]) _ _ hP hS ls (lv_sub hl [2, 3, 4, 1, 0] rfl)
  · refine lv_aload_n hx hb dX0_putHalf_8 rfl (lv_at hl 0 rfl) ?_
    refine lv_iload_n hx hb dX0_putHalf_9 rfl (lv_at hl 1 rfl) ?_
    refine kc_v (va_runV (As := [.int (nI to)]) (rest := []) ⟨hx, hb, hml, hown, hts⟩ (c_X0_setInfinite l G B (mu μ la (.inl (G.2 0, 158 * k + 158, .inr (.inl f)))) h la k f to ((mu_n ne0_1).trans (hh)) (mu_s _ _ _) (by omega) (by omega)) (cwV 1 hts gX0_putHalf_X0_setInfinite rfl rfl rfl (by decide +kernel) ⟨Nat.le_of_ble_eq_true rfl, Nat.le_of_ble_eq_true rfl⟩) ⟨KW.blind, hP.recv hK rfl ((mu_n ne0_1).trans (hh)), fun U9 hU9 hW9 => ⟨rfl, KW.pre hBs hKK hS hP U9 hU9 hW9⟩⟩ rfl rfl hl.1 rfl (lv_room (Nat.le_of_ble_eq_true rfl)) dX0_putHalf_10 ⟨Nat.le_of_ble_eq_true rfl, Nat.le_of_ble_eq_true rfl⟩) hS (fun u99 H locs hq9 hP hz9 hS => ?_)
    obtain ⟨g10, rfl, hg10⟩ := hq9
    have hP : mw G.1 vwCl B (mu μ la (.inl (G.2 0, 158 * k + 158, .inr (.inl g10)))) _ := mw_eq (mu_u _ _ _ _) hP
    rw [hQ]
    exact W.vret hx hb hr (fun t99 ht99 hW99 => ⟨⟨mu μ la (.inl (G.2 0, 158 * k + 158, .inr (.inl g10))), rfl, (⟨_, rfl, pi_1 hr2 hc5 hg10 (fun h9 => by rw [hf, if_pos h9])⟩), by show mw _ _ _ _ t99.heap; rw [ht99]; exact hP⟩, hS.F ht99⟩) hS.2.2 dX0_putHalf_13

abbrev rm_X0_putMore : Room := { frames := 1, cells := 0, slots := 0, locals := 22 }
set_option maxHeartbeats 4000000 in
set_option maxRecDepth 100000 in
theorem c_X0_putMore (l : Launch) (G : GG) (B : Nat) (μ : mp) (h la k : Nat) (f : Nat → Int64) (h2 la2 : Nat) (g : Nat → Int64) (to i : Nat) (v : Int64) (hh : μ h = some (.inr (0, [.int (nI 158), .int (nI 157), .ref la, .int (nI (158 * k))]))) (ha : μ la = some (.inl (G.2 0, 158 * k + 158, .inr (.inl f)))) (hh2 : μ h2 = some (.inr (0, [.int (nI 158), .int (nI 157), .ref la2, .int (nI (158 * k))]))) (ha2 : μ la2 = some (.inl (G.2 0, 158 * k + 158, .inr (.inl g)))) (hk : k ≤ 1022) (ht : to < 158) (hi : i < 158) (hne : la ≠ la2) : Met l yX0_putMore wsX0_putMore rm_X0_putMore (va_Pc [.ref h, .int (nI to), .ref h2, .int (nI i), .long v] (KW G B μ)) (va_Qv (fun μ2 => ∃ g9 : Nat → Int64, μ2 = mu μ la (.inl (G.2 0, 158 * k + 158, .inr (.inl g9))) ∧ (k = 0 → g9 = vp_updL f to (if g i = INF then INF else g i + v))) (BB G B) (fun q => B ≤ q)) 0 0 (fun q => B ≤ q) := by
  refine Met.ofW (cc := cX0_putMore) (maxL := 9) (ret := none) (by decide) rfl ?_
  intro p e s m args below meth c s₁ B9 hml hv
  obtain ⟨hargs, hBs, hP, hKK⟩ := hv
  have hx := B9.exec
  have hb := B9.bytes
  have hr := B9.returns
  have hts := atoms_spec (ws := wsX0_putMore) B9.pre
  have hown : s.vm.findClass RX0 = some m.cls := findClass_of_methodNamed B9.named
  have hlocks := B9.notSynchronized
  have hK := hKK.k
  have hS : va_S (fun q => B ≤ q) s.heap s.heap [] := va_S.rf
  obtain ⟨Q, hQ⟩ : ∃ Q, Q = MQ below (va_Qv (fun μ2 => ∃ g9 : Nat → Int64, μ2 = mu μ la (.inl (G.2 0, 158 * k + 158, .inr (.inl g9))) ∧ (k = 0 → g9 = vp_updL f to (if g i = INF then INF else g i + v))) (BB G B) (fun q => B ≤ q)) args s 0 0 (fun q => B ≤ q) := ⟨_, rfl⟩
  rw [← hQ]
  have ne0_1 : h ≠ la := mp_ne hh ha (by simp)
  have ne0_3 : h ≠ la2 := mp_ne hh ha2 (by simp)
  have ne1_2 : la ≠ h2 := mp_ne ha hh2 (by simp)
  have ne2_3 : h2 ≠ la2 := mp_ne hh2 ha2 (by simp)
  have in_X0_putMore_X0 : ∀ w ∈ wsX00, w ∈ wsX0_putMore := by decide +kernel
  have hP : mw G.1 vwCl B (mu μ la (.inl (G.2 0, 158 * k + 158, .inr (.inl f)))) s.heap := mw_eq (mu_i ha).symm hP
  have L21 : ∀ (N21 : Nat) (a : Nat) (q : Nat) (x : Int64) (g1 : Nat → Int64) (hN21 : k - q < N21) (ha4 : a = 158 * q) (hq : q ≤ k) (hz : k = 0 → g1 = f ∧ x = v) (hn4 : ¬ g (158 * k + i) = INF), ∀ (H : Heap) (locs : List Loc), mw G.1 vwCl B (mu μ la (.inl (G.2 0, 158 * k + 158, .inr (.inl g1)))) H → va_S (fun q => B ≤ q) s.heap H locs → ∀ ls : Array Slot, lv_has ls 9 [(0, .ref h), (1, .int (nI to)), (2, .ref h2), (3, .int (nI i)), (6, .long x), (8, .int (nI a))] → W p l e rm_X0_putMore s m args below meth c H locs 0 0 Q (F0 m 21 ls []) := by
    intro N21
    induction N21 with
    | zero => intro a q x g1 hN21; exact absurd hN21 (Nat.not_lt_zero _)
    | succ N21 ih21 =>
      intro a q x g1 hN21 ha4 hq hz hn4 H locs hP hS ls hl
      refine lv_iload hx hb dX0_putMore_21 (lv_at hl 5 rfl) ?_
      refine lv_aload_n hx hb dX0_putMore_23 rfl (lv_at hl 0 rfl) ?_
      refine mw_get (C := RX0) (T := TX0) (N := 4) hx hb hts in_X0_putMore_X0 hown hK hP ((mu_n ne0_1).trans (hh)) rfl 3 (by decide) (hts (.fieldLink RX0 22 "OctagonDesk$Numbers" "top" "I") (by decide +kernel)) (fun _ h9 => h9) rfl dX0_putMore_24 ?_
      refine nv_icmp_ge (tgt := 78) hx hb (by omega) (by omega) dX0_putMore_27 (by decide) (fun hc27 => ?_) (fun hc27 => ?_)
      · refine lv_aload_n hx hb dX0_putMore_78 rfl (lv_at hl 0 rfl) ?_
        refine mw_get (C := RX0) (T := TX0) (N := 4) hx hb hts in_X0_putMore_X0 hown hK hP ((mu_n ne0_1).trans (hh)) rfl 2 (by decide) (hts (.fieldLink RX0 18 "OctagonDesk$Numbers" "limbs" "[J") (by decide +kernel)) (fun _ h9 => h9) rfl dX0_putMore_79 ?_
        refine lv_aload_n hx hb dX0_putMore_82 rfl (lv_at hl 0 rfl) ?_
        refine mw_get (C := RX0) (T := TX0) (N := 4) hx hb hts in_X0_putMore_X0 hown hK hP ((mu_n ne0_1).trans (hh)) rfl 3 (by decide) (hts (.fieldLink RX0 22 "OctagonDesk$Numbers" "top" "I") (by decide +kernel)) (fun _ h9 => h9) rfl dX0_putMore_83 ?_
        refine lv_iload_n hx hb dX0_putMore_86 rfl (lv_at hl 1 rfl) ?_
        refine nv_iadd hx hb dX0_putMore_87 ?_
        refine lv_aload_n hx hb dX0_putMore_88 rfl (lv_at hl 2 rfl) ?_
        refine mw_get (C := RX0) (T := TX0) (N := 4) hx hb hts in_X0_putMore_X0 hown hK hP ((mu_n ((Ne.symm ne1_2))).trans (hh2)) rfl 2 (by decide) (hts (.fieldLink RX0 18 "OctagonDesk$Numbers" "limbs" "[J") (by decide +kernel)) (fun _ h9 => h9) rfl dX0_putMore_89 ?_
        refine lv_aload_n hx hb dX0_putMore_92 rfl (lv_at hl 0 rfl) ?_
        refine mw_get (C := RX0) (T := TX0) (N := 4) hx hb hts in_X0_putMore_X0 hown hK hP ((mu_n ne0_1).trans (hh)) rfl 3 (by decide) (hts (.fieldLink RX0 22 "OctagonDesk$Numbers" "top" "I") (by decide +kernel)) (fun _ h9 => h9) rfl dX0_putMore_93 ?_
        refine lv_iload_n hx hb dX0_putMore_96 rfl (lv_at hl 3 rfl) ?_
        refine nv_iadd hx hb dX0_putMore_97 ?_
        refine mw_lald hx hb hK hP 0 ((mu_n ((Ne.symm hne))).trans (ha2)) rfl (by omega) (by omega) dX0_putMore_98 ?_
        refine lv_lload hx hb dX0_putMore_99 (lv_at hl 4 rfl) ?_
        refine lv_ladd hx hb dX0_putMore_101 ?_
        refine lv_topl (fun v102 ev102 => ?_)
        refine mw_last hx hb hK hP hS 0 (mu_s _ _ _) rfl (by omega) (by omega) dX0_putMore_102 (fun H locs hP hS => ?_)
        have hP : mw G.1 vwCl B (mu μ la (.inl (G.2 0, 158 * k + 158, .inr (.inl (vp_updL g1 ((158 * k) + to) v102))))) _ := mw_eq (mu_u _ _ _ _) hP
        rw [hQ]
        exact W.vret hx hb hr (fun t99 ht99 hW99 => ⟨⟨mu μ la (.inl (G.2 0, 158 * k + 158, .inr (.inl (vp_updL g1 ((158 * k) + to) v102)))), rfl, (⟨_, rfl, fun h0 => by obtain ⟨h1, h2⟩ := hz h0; subst h0; subst h1; subst h2; have h3 : ¬ g i = INF := (by simpa using hn4); rw [ev102, if_neg h3, Nat.mul_zero, Nat.zero_add, Nat.zero_add]⟩), by show mw _ _ _ _ t99.heap; rw [ht99]; exact hP⟩, hS.F ht99⟩) hS.2.2 dX0_putMore_103
      · refine lv_lload hx hb dX0_putMore_30 (lv_at hl 4 rfl) ?_
        refine lv_aload_n hx hb dX0_putMore_32 rfl (lv_at hl 2 rfl) ?_
        refine mw_get (C := RX0) (T := TX0) (N := 4) hx hb hts in_X0_putMore_X0 hown hK hP ((mu_n ((Ne.symm ne1_2))).trans (hh2)) rfl 2 (by decide) (hts (.fieldLink RX0 18 "OctagonDesk$Numbers" "limbs" "[J") (by decide +kernel)) (fun _ h9 => h9) rfl dX0_putMore_33 ?_
        refine lv_iload hx hb dX0_putMore_36 (lv_at hl 5 rfl) ?_
        refine lv_iload_n hx hb dX0_putMore_38 rfl (lv_at hl 3 rfl) ?_
        refine nv_iadd hx hb dX0_putMore_39 ?_
        refine mw_lald hx hb hK hP 0 ((mu_n ((Ne.symm hne))).trans (ha2)) rfl (by omega) (by omega) dX0_putMore_40 ?_
        refine lv_ladd hx hb dX0_putMore_41 ?_
        refine lv_topl (fun v42 ev42 => ?_)
        refine lv_lstore (lv' := [(6, .long v42), (0, .ref h), (1, .int (nI to)), (2, .ref h2), (3, .int (nI i)), (8, .int (nI a))]) hx hb dX0_putMore_42 hl (by decide) rfl (fun ls hl => ?_)
        refine lv_aload_n hx hb dX0_putMore_44 rfl (lv_at hl 1 rfl) ?_
        refine mw_get (C := RX0) (T := TX0) (N := 4) hx hb hts in_X0_putMore_X0 hown hK hP ((mu_n ne0_1).trans (hh)) rfl 2 (by decide) (hts (.fieldLink RX0 18 "OctagonDesk$Numbers" "limbs" "[J") (by decide +kernel)) (fun _ h9 => h9) rfl dX0_putMore_45 ?_
        refine lv_iload hx hb dX0_putMore_48 (lv_at hl 5 rfl) ?_
        refine lv_iload_n hx hb dX0_putMore_50 rfl (lv_at hl 2 rfl) ?_
        refine nv_iadd hx hb dX0_putMore_51 ?_
        refine lv_lload hx hb dX0_putMore_52 (lv_at hl 0 rfl) ?_
        refine lv_ldc2 (v := (1152921504606846975)) hx hb hown (hts (.constantLong RX0 39 (1152921504606846975)) (by decide +kernel)) dX0_putMore_54 ?_
        refine lv_land hx hb dX0_putMore_57 ?_
        refine lv_topl (fun v58 ev58 => ?_)
        refine mw_last hx hb hK hP hS 0 (mu_s _ _ _) rfl (by omega) (by omega) dX0_putMore_58 (fun H locs hP hS => ?_)
        have hP : mw G.1 vwCl B (mu μ la (.inl (G.2 0, 158 * k + 158, .inr (.inl (vp_updL g1 (a + to) v58))))) _ := mw_eq (mu_u _ _ _ _) hP
        refine lv_lload hx hb dX0_putMore_59 (lv_at hl 0 rfl) ?_
        refine lv_bipush (v := nI 60) hx hb dX0_putMore_61 (by decide) ?_
        refine lv_lshr (v := v42 >>> ((nI 60).toInt64 &&& 63)) hx hb dX0_putMore_63 rfl ?_
        refine lv_topl (fun v64 ev64 => ?_)
        refine lv_lstore (lv' := [(6, .long v64), (0, .ref h), (1, .int (nI to)), (2, .ref h2), (3, .int (nI i)), (8, .int (nI a))]) hx hb dX0_putMore_64 hl (by decide) rfl (fun ls hl => ?_)
        refine lv_iload hx hb dX0_putMore_66 (lv_at hl 5 rfl) ?_
        refine lv_aload_n hx hb dX0_putMore_68 rfl (lv_at hl 1 rfl) ?_
        refine mw_get (C := RX0) (T := TX0) (N := 4) hx hb hts in_X0_putMore_X0 hown hK hP ((mu_n ne0_1).trans (hh)) rfl 0 (by decide) (hts (.fieldLink RX0 15 "OctagonDesk$Numbers" "cells" "I") (by decide +kernel)) (fun _ h9 => h9) rfl dX0_putMore_69 ?_
        refine nv_iadd hx hb dX0_putMore_72 ?_
        refine lv_istore (lv' := [(8, .int (nI (a + 158))), (6, .long v64), (0, .ref h), (1, .int (nI to)), (2, .ref h2), (3, .int (nI i))]) hx hb dX0_putMore_73 hl (by decide) rfl (fun ls hl => ?_)
        refine lv_goto (tgt := 21) hx hb dX0_putMore_75 (by decide) ?_
        exact ih21 (a + 158) (q + 1) v64 (vp_updL g1 (a + to) v58) (by omega) (by omega) (by omega) (fun h0 => absurd h0 (by omega)) (hn4) _ _ hP hS ls (lv_sub hl [2, 3, 4, 5, 1, 0] rfl)
  have hl := lv_entry ([.ref h, .int (nI to), .ref h2, .int (nI i), .long v]) (n := 9) (Nat.le_of_ble_eq_true rfl)
  have he9 : entryFrame m args 9 = entryFrame m ([.ref h, .int (nI to), .ref h2, .int (nI i), .long v] : List Value).toArray 9 := by rw [hargs]
  rw [he9, lg_entry_eq]
  generalize (lg_sl ([.ref h, .int (nI to), .ref h2, .int (nI i), .long v]) ++ List.replicate (9 - (lg_sl ([.ref h, .int (nI to), .ref h2, .int (nI i), .long v])).length) Slot.unset).toArray = ls at hl ⊢
  have hl : lv_has ls 9 [(0, .ref h), (1, .int (nI to)), (2, .ref h2), (3, .int (nI i)), (4, .long v)] := hl
  refine lv_aload_n hx hb dX0_putMore_0 rfl (lv_at hl 2 rfl) ?_
  refine lv_iload_n hx hb dX0_putMore_1 rfl (lv_at hl 3 rfl) ?_
  refine kc_i (va_runV (As := [.int (nI i)]) (rest := []) ⟨hx, hb, hml, hown, hts⟩ (c_X0_isInfinite l G B (mu μ la (.inl (G.2 0, 158 * k + 158, .inr (.inl f)))) h2 la2 k g i ((mu_n ((Ne.symm ne1_2))).trans (hh2)) ((mu_n ((Ne.symm hne))).trans (ha2)) (by omega) (by omega)) (cwV 1 hts gX0_putMore_X0_isInfinite rfl rfl rfl (by decide +kernel) ⟨Nat.le_of_ble_eq_true rfl, Nat.le_of_ble_eq_true rfl⟩) ⟨KW.blind, hP.recv hK rfl ((mu_n ((Ne.symm ne1_2))).trans (hh2)), fun U9 hU9 hW9 => ⟨rfl, KW.pre hBs hKK hS hP U9 hU9 hW9⟩⟩ rfl rfl hl.1 rfl (lv_room (Nat.le_of_ble_eq_true rfl)) dX0_putMore_2 ⟨Nat.le_of_ble_eq_true rfl, Nat.le_of_ble_eq_true rfl⟩) hS (fun r2 u99 H locs hq9 hP hz9 hS => ?_)
  obtain ⟨he9, hr2⟩ := hq9
  rw [he9] at hP
  refine lv_if_eq (tgt := 14) hx hb dX0_putMore_5 (by decide) (fun hc5 => ?_) (fun hc5 => ?_)
  · refine lv_lload hx hb dX0_putMore_14 (lv_at hl 4 rfl) ?_
    refine lv_lstore (lv' := [(6, .long v), (0, .ref h), (1, .int (nI to)), (2, .ref h2), (3, .int (nI i)), (4, .long v)]) hx hb dX0_putMore_16 hl (by decide) rfl (fun ls hl => ?_)
    refine lv_iconst (v := nI 0) hx hb dX0_putMore_18 (by decide) ?_
    refine lv_istore (lv' := [(8, .int (nI 0)), (6, .long v), (0, .ref h), (1, .int (nI to)), (2, .ref h2), (3, .int (nI i)), (4, .long v)]) hx hb dX0_putMore_19 hl (by decide) rfl (fun ls hl => ?_)
    exact L21 _ 0 0 v f (Nat.lt_succ_self _) (by omega) (by omega) (fun h0 => ⟨rfl, rfl⟩) (pi_0 hr2 hc5) _ _ hP hS ls (lv_sub hl [2, 3, 4, 5, 1, 0] rfl)
  · refine lv_aload_n hx hb dX0_putMore_8 rfl (lv_at hl 0 rfl) ?_
    refine lv_iload_n hx hb dX0_putMore_9 rfl (lv_at hl 1 rfl) ?_
    refine kc_v (va_runV (As := [.int (nI to)]) (rest := []) ⟨hx, hb, hml, hown, hts⟩ (c_X0_setInfinite l G B (mu μ la (.inl (G.2 0, 158 * k + 158, .inr (.inl f)))) h la k f to ((mu_n ne0_1).trans (hh)) (mu_s _ _ _) (by omega) (by omega)) (cwV 1 hts gX0_putMore_X0_setInfinite rfl rfl rfl (by decide +kernel) ⟨Nat.le_of_ble_eq_true rfl, Nat.le_of_ble_eq_true rfl⟩) ⟨KW.blind, hP.recv hK rfl ((mu_n ne0_1).trans (hh)), fun U9 hU9 hW9 => ⟨rfl, KW.pre hBs hKK hS hP U9 hU9 hW9⟩⟩ rfl rfl hl.1 rfl (lv_room (Nat.le_of_ble_eq_true rfl)) dX0_putMore_10 ⟨Nat.le_of_ble_eq_true rfl, Nat.le_of_ble_eq_true rfl⟩) hS (fun u99 H locs hq9 hP hz9 hS => ?_)
    obtain ⟨g10, rfl, hg10⟩ := hq9
    have hP : mw G.1 vwCl B (mu μ la (.inl (G.2 0, 158 * k + 158, .inr (.inl g10)))) _ := mw_eq (mu_u _ _ _ _) hP
    rw [hQ]
    exact W.vret hx hb hr (fun t99 ht99 hW99 => ⟨⟨mu μ la (.inl (G.2 0, 158 * k + 158, .inr (.inl g10))), rfl, (⟨_, rfl, pi_1 hr2 hc5 hg10 (fun h9 => if_pos h9)⟩), by show mw _ _ _ _ t99.heap; rw [ht99]; exact hP⟩, hS.F ht99⟩) hS.2.2 dX0_putMore_13

abbrev rm_X0_nearestLong : Room := { frames := 0, cells := 0, slots := 0, locals := 0 }
set_option maxHeartbeats 4000000 in
set_option maxRecDepth 100000 in
theorem c_X0_nearestLong (l : Launch) (G : GG) (B : Nat) (μ : mp) (h la k : Nat) (f : Nat → Int64) (i : Nat) (hh : μ h = some (.inr (0, [.int (nI 158), .int (nI 157), .ref la, .int (nI (158 * k))]))) (ha : μ la = some (.inl (G.2 0, 158 * k + 158, .inr (.inl f)))) (hk : k ≤ 1022) (hi : i < 158) : Met l yX0_nearestLong wsX0_nearestLong rm_X0_nearestLong (va_Pc [.ref h, .int (nI i)] (KW G B μ)) (va_Ql (fun r μ2 => μ2 = μ ∧ (k = 0 → r = f i)) (BB G B) (fun q => B ≤ q)) 0 0 (fun q => B ≤ q) := by
  refine Met.ofW (cc := cX0_nearestLong) (maxL := 5) (ret := (some .long)) (by decide) rfl ?_
  intro p e s m args below meth c s₁ B9 hml hv
  obtain ⟨hargs, hBs, hP, hKK⟩ := hv
  have hx := B9.exec
  have hb := B9.bytes
  have hr := B9.returns
  have hts := atoms_spec (ws := wsX0_nearestLong) B9.pre
  have hown : s.vm.findClass RX0 = some m.cls := findClass_of_methodNamed B9.named
  have hlocks := B9.notSynchronized
  have hK := hKK.k
  have hS : va_S (fun q => B ≤ q) s.heap s.heap [] := va_S.rf
  obtain ⟨Q, hQ⟩ : ∃ Q, Q = MQ below (va_Ql (fun r μ2 => μ2 = μ ∧ (k = 0 → r = f i)) (BB G B) (fun q => B ≤ q)) args s 0 0 (fun q => B ≤ q) := ⟨_, rfl⟩
  rw [← hQ]
  have ne0_1 : h ≠ la := mp_ne hh ha (by simp)
  have in_X0_nearestLong_X0 : ∀ w ∈ wsX00, w ∈ wsX0_nearestLong := by decide +kernel
  have L35 : ∀ (N35 : Nat) (a : Int32) (q : Nat) (x : Int64) (hN35 : q < N35) (ha4 : a = dn q) (hq : q ≤ k) (hz : k = 0 → x = f i), ∀ (H : Heap) (locs : List Loc), mw G.1 vwCl B (μ) H → va_S (fun q => B ≤ q) s.heap H locs → ∀ ls : Array Slot, lv_has ls 5 [(0, .ref h), (1, .int (nI i)), (2, .long x), (4, .int a)] → W p l e rm_X0_nearestLong s m args below meth c H locs 0 0 Q (F0 m 35 ls []) := by
    intro N35
    induction N35 with
    | zero => intro a q x hN35; exact absurd hN35 (Nat.not_lt_zero _)
    | succ N35 ih35 =>
      intro a q x hN35 ha4 hq hz H locs hP hS ls hl
      rcases q with _ | q
      · have ha4 : a = -158 := ha4
        subst ha4
        refine lv_iload hx hb dX0_nearestLong_35 (lv_at hl 3 rfl) ?_
        refine lv_if_lt (tgt := 91) hx hb dX0_nearestLong_37 (by decide) (fun hc37 => ?_) (fun hc37 => ?_)
        · refine lv_lload_n hx hb dX0_nearestLong_91 rfl (lv_at hl 2 rfl) ?_
          rw [hQ]
          exact W.lret (v := x) hx hb hr (fun t99 ht99 hW99 => ⟨⟨x, μ, rfl, (⟨rfl, hz⟩), by show mw _ _ _ _ t99.heap; rw [ht99]; exact hP⟩, hS.F ht99⟩) hS.2.2 dX0_nearestLong_92
        · exact absurd (by decide : (-158 : Int32) < 0) hc37
      · have ha4 : a = nI (158 * q) := ha4
        subst ha4
        refine lv_iload hx hb dX0_nearestLong_35 (lv_at hl 3 rfl) ?_
        refine lv_if_lt (tgt := 91) hx hb dX0_nearestLong_37 (by decide) (fun hc37 => ?_) (fun hc37 => ?_)
        · exact absurd hc37 (nI_pos (by omega))
        · refine lv_lload_n hx hb dX0_nearestLong_40 rfl (lv_at hl 2 rfl) ?_
          refine lv_ldc2 (v := (7)) hx hb hown (hts (.constantLong RX0 27 (7)) (by decide +kernel)) dX0_nearestLong_41 ?_
          refine nl_if_le (tgt := 52) hx hb dX0_nearestLong_44 dX0_nearestLong_45 (by decide) (fun hc44 => ?_) (fun hc44 => ?_)
          · refine lv_lload_n hx hb dX0_nearestLong_52 rfl (lv_at hl 2 rfl) ?_
            refine lv_ldc2 (v := (-8)) hx hb hown (hts (.constantLong RX0 29 (-8)) (by decide +kernel)) dX0_nearestLong_53 ?_
            refine nl_if_ge (tgt := 64) hx hb dX0_nearestLong_56 dX0_nearestLong_57 (by decide) (fun hc56 => ?_) (fun hc56 => ?_)
            · refine lv_lload_n hx hb dX0_nearestLong_64 rfl (lv_at hl 2 rfl) ?_
              refine lv_bipush (v := nI 60) hx hb dX0_nearestLong_65 (by decide) ?_
              refine lv_lshl (v := x <<< ((nI 60).toInt64 &&& 63)) hx hb dX0_nearestLong_67 rfl ?_
              refine lv_aload_n hx hb dX0_nearestLong_68 rfl (lv_at hl 0 rfl) ?_
              refine mw_get (C := RX0) (T := TX0) (N := 4) hx hb hts in_X0_nearestLong_X0 hown hK hP (hh) rfl 2 (by decide) (hts (.fieldLink RX0 18 "OctagonDesk$Numbers" "limbs" "[J") (by decide +kernel)) (fun _ h9 => h9) rfl dX0_nearestLong_69 ?_
              refine lv_iload hx hb dX0_nearestLong_72 (lv_at hl 3 rfl) ?_
              refine lv_iload_n hx hb dX0_nearestLong_74 rfl (lv_at hl 1 rfl) ?_
              refine nv_iadd hx hb dX0_nearestLong_75 ?_
              refine mw_lald hx hb hK hP 0 (ha) rfl (by omega) (by omega) dX0_nearestLong_76 ?_
              refine lv_ladd hx hb dX0_nearestLong_77 ?_
              refine lv_topl (fun v78 ev78 => ?_)
              refine lv_lstore_n (lv' := [(2, .long v78), (0, .ref h), (1, .int (nI i)), (4, .int (nI (158 * q)))]) hx hb dX0_nearestLong_78 rfl hl (by decide) rfl (fun ls hl => ?_)
              refine lv_iload hx hb dX0_nearestLong_79 (lv_at hl 3 rfl) ?_
              refine lv_aload_n hx hb dX0_nearestLong_81 rfl (lv_at hl 1 rfl) ?_
              refine mw_get (C := RX0) (T := TX0) (N := 4) hx hb hts in_X0_nearestLong_X0 hown hK hP (hh) rfl 0 (by decide) (hts (.fieldLink RX0 15 "OctagonDesk$Numbers" "cells" "I") (by decide +kernel)) (fun _ h9 => h9) rfl dX0_nearestLong_82 ?_
              refine lv_isub hx hb dX0_nearestLong_85 ?_
              refine lv_topi (fun v86 ev86 => ?_)
              refine lv_istore (lv' := [(4, .int v86), (2, .long v78), (0, .ref h), (1, .int (nI i))]) hx hb dX0_nearestLong_86 hl (by decide) rfl (fun ls hl => ?_)
              refine lv_goto (tgt := 35) hx hb dX0_nearestLong_88 (by decide) ?_
              exact ih35 v86 q v78 (by omega) (by rw [ev86]; exact dn_sub _) (by omega) (fun h0 => absurd h0 (by omega)) _ _ hP hS ls (lv_sub hl [2, 3, 1, 0] rfl)
            · refine lv_ldc2 (v := (-9223372036854775808)) hx hb hown (hts (.constantLong RX0 31 (-9223372036854775808)) (by decide +kernel)) dX0_nearestLong_60 ?_
              rw [hQ]
              exact W.lret (v := (-9223372036854775808)) hx hb hr (fun t99 ht99 hW99 => ⟨⟨(-9223372036854775808), μ, rfl, (⟨rfl, fun h0 => absurd h0 (by omega)⟩), by show mw _ _ _ _ t99.heap; rw [ht99]; exact hP⟩, hS.F ht99⟩) hS.2.2 dX0_nearestLong_63
          · refine lv_ldc2 (v := (9223372036854775807)) hx hb hown (hts (.constantLong RX0 25 (9223372036854775807)) (by decide +kernel)) dX0_nearestLong_48 ?_
            rw [hQ]
            exact W.lret (v := 9223372036854775807) hx hb hr (fun t99 ht99 hW99 => ⟨⟨9223372036854775807, μ, rfl, (⟨rfl, fun h0 => absurd h0 (by omega)⟩), by show mw _ _ _ _ t99.heap; rw [ht99]; exact hP⟩, hS.F ht99⟩) hS.2.2 dX0_nearestLong_51
  have hl := lv_entry ([.ref h, .int (nI i)]) (n := 5) (Nat.le_of_ble_eq_true rfl)
  have he9 : entryFrame m args 5 = entryFrame m ([.ref h, .int (nI i)] : List Value).toArray 5 := by rw [hargs]
  rw [he9, lg_entry_eq]
  generalize (lg_sl ([.ref h, .int (nI i)]) ++ List.replicate (5 - (lg_sl ([.ref h, .int (nI i)])).length) Slot.unset).toArray = ls at hl ⊢
  have hl : lv_has ls 5 [(0, .ref h), (1, .int (nI i))] := hl
  refine lv_aload_n hx hb dX0_nearestLong_0 rfl (lv_at hl 0 rfl) ?_
  refine mw_get (C := RX0) (T := TX0) (N := 4) hx hb hts in_X0_nearestLong_X0 hown hK hP (hh) rfl 2 (by decide) (hts (.fieldLink RX0 18 "OctagonDesk$Numbers" "limbs" "[J") (by decide +kernel)) (fun _ h9 => h9) rfl dX0_nearestLong_1 ?_
  refine lv_aload_n hx hb dX0_nearestLong_4 rfl (lv_at hl 0 rfl) ?_
  refine mw_get (C := RX0) (T := TX0) (N := 4) hx hb hts in_X0_nearestLong_X0 hown hK hP (hh) rfl 3 (by decide) (hts (.fieldLink RX0 22 "OctagonDesk$Numbers" "top" "I") (by decide +kernel)) (fun _ h9 => h9) rfl dX0_nearestLong_5 ?_
  refine lv_iload_n hx hb dX0_nearestLong_8 rfl (lv_at hl 1 rfl) ?_
  refine nv_iadd hx hb dX0_nearestLong_9 ?_
  refine mw_lald hx hb hK hP 0 (ha) rfl (by omega) (by omega) dX0_nearestLong_10 ?_
  refine lv_topl (fun v11 ev11 => ?_)
  refine lv_lstore_n (lv' := [(2, .long v11), (0, .ref h), (1, .int (nI i))]) hx hb dX0_nearestLong_11 rfl hl (by decide) rfl (fun ls hl => ?_)
  refine lv_lload_n hx hb dX0_nearestLong_12 rfl (lv_at hl 0 rfl) ?_
  refine lv_ldc2 (v := (9223372036854775807)) hx hb hown (hts (.constantLong RX0 25 (9223372036854775807)) (by decide +kernel)) dX0_nearestLong_13 ?_
  refine nl_if_ne (tgt := 24) hx hb dX0_nearestLong_16 dX0_nearestLong_17 (by decide) (fun hc16 => ?_) (fun hc16 => ?_)
  · refine lv_aload_n hx hb dX0_nearestLong_24 rfl (lv_at hl 1 rfl) ?_
    refine mw_get (C := RX0) (T := TX0) (N := 4) hx hb hts in_X0_nearestLong_X0 hown hK hP (hh) rfl 3 (by decide) (hts (.fieldLink RX0 22 "OctagonDesk$Numbers" "top" "I") (by decide +kernel)) (fun _ h9 => h9) rfl dX0_nearestLong_25 ?_
    refine lv_aload_n hx hb dX0_nearestLong_28 rfl (lv_at hl 1 rfl) ?_
    refine mw_get (C := RX0) (T := TX0) (N := 4) hx hb hts in_X0_nearestLong_X0 hown hK hP (hh) rfl 0 (by decide) (hts (.fieldLink RX0 15 "OctagonDesk$Numbers" "cells" "I") (by decide +kernel)) (fun _ h9 => h9) rfl dX0_nearestLong_29 ?_
    refine lv_isub hx hb dX0_nearestLong_32 ?_
    refine lv_topi (fun v33 ev33 => ?_)
    refine lv_istore (lv' := [(4, .int v33), (2, .long v11), (0, .ref h), (1, .int (nI i))]) hx hb dX0_nearestLong_33 hl (by decide) rfl (fun ls hl => ?_)
    exact L35 _ v33 k v11 (Nat.lt_succ_self _) (by rw [ev33]; exact dn_sub _) (by omega) (fun h0 => by subst h0; rw [ev11]; simp) _ _ hP hS ls (lv_sub hl [2, 3, 1, 0] rfl)
  · refine lv_ldc2 (v := (9223372036854775807)) hx hb hown (hts (.constantLong RX0 25 (9223372036854775807)) (by decide +kernel)) dX0_nearestLong_20 ?_
    rw [hQ]
    exact W.lret (v := 9223372036854775807) hx hb hr (fun t99 ht99 hW99 => ⟨⟨9223372036854775807, μ, rfl, (⟨rfl, fun h0 => by subst h0; rw [ev11] at hc16; simpa using hc16.symm⟩), by show mw _ _ _ _ t99.heap; rw [ht99]; exact hP⟩, hS.F ht99⟩) hS.2.2 dX0_nearestLong_23

abbrev rm_X0_isCrowded : Room := { frames := 0, cells := 0, slots := 0, locals := 0 }
set_option maxHeartbeats 4000000 in
set_option maxRecDepth 100000 in
theorem c_X0_isCrowded (l : Launch) (G : GG) (B : Nat) (μ : mp) (h la k : Nat) (f : Nat → Int64) (hh : μ h = some (.inr (0, [.int (nI 158), .int (nI 157), .ref la, .int (nI (158 * k))]))) (ha : μ la = some (.inl (G.2 0, 158 * k + 158, .inr (.inl f)))) (hk : k ≤ 1022) : Met l yX0_isCrowded wsX0_isCrowded rm_X0_isCrowded (va_Pc [.ref h] (KW G B μ)) (va_Qi (fun r μ2 => μ2 = μ ∧ (r = 0 ∨ r = 1) ∧ ((k = 0 ∧ ∀ c9 < 158, f c9 = INF ∨ (-18014398509481984 ≤ f c9 ∧ f c9 < 18014398509481984)) → r = 0)) (BB G B) (fun q => B ≤ q)) 0 0 (fun q => B ≤ q) := by
  refine Met.ofW (cc := cX0_isCrowded) (maxL := 4) (ret := (some .boolean)) (by decide) rfl ?_
  intro p e s m args below meth c s₁ B9 hml hv
  obtain ⟨hargs, hBs, hP, hKK⟩ := hv
  have hx := B9.exec
  have hb := B9.bytes
  have hr := B9.returns
  have hts := atoms_spec (ws := wsX0_isCrowded) B9.pre
  have hown : s.vm.findClass RX0 = some m.cls := findClass_of_methodNamed B9.named
  have hlocks := B9.notSynchronized
  have hK := hKK.k
  have hS : va_S (fun q => B ≤ q) s.heap s.heap [] := va_S.rf
  obtain ⟨Q, hQ⟩ : ∃ Q, Q = MQ below (va_Qi (fun r μ2 => μ2 = μ ∧ (r = 0 ∨ r = 1) ∧ ((k = 0 ∧ ∀ c9 < 158, f c9 = INF ∨ (-18014398509481984 ≤ f c9 ∧ f c9 < 18014398509481984)) → r = 0)) (BB G B) (fun q => B ≤ q)) args s 0 0 (fun q => B ≤ q) := ⟨_, rfl⟩
  rw [← hQ]
  have ne0_1 : h ≠ la := mp_ne hh ha (by simp)
  have in_X0_isCrowded_X0 : ∀ w ∈ wsX00, w ∈ wsX0_isCrowded := by decide +kernel
  have L2 : ∀ (N2 : Nat) (q : Nat) (hN2 : 158 - q < N2) (hq : q ≤ 158), ∀ (H : Heap) (locs : List Loc), mw G.1 vwCl B (μ) H → va_S (fun q => B ≤ q) s.heap H locs → ∀ ls : Array Slot, lv_has ls 4 [(0, .ref h), (1, .int (nI q))] → W p l e rm_X0_isCrowded s m args below meth c H locs 0 0 Q (F0 m 2 ls []) := by
    intro N2
    induction N2 with
    | zero => intro q hN2; exact absurd hN2 (Nat.not_lt_zero _)
    | succ N2 ih2 =>
      intro q hN2 hq H locs hP hS ls hl
      refine lv_iload_n hx hb dX0_isCrowded_2 rfl (lv_at hl 1 rfl) ?_
      refine lv_aload_n hx hb dX0_isCrowded_3 rfl (lv_at hl 0 rfl) ?_
      refine mw_get (C := RX0) (T := TX0) (N := 4) hx hb hts in_X0_isCrowded_X0 hown hK hP (hh) rfl 0 (by decide) (hts (.fieldLink RX0 15 "OctagonDesk$Numbers" "cells" "I") (by decide +kernel)) (fun _ h9 => h9) rfl dX0_isCrowded_4 ?_
      refine nv_icmp_ge (tgt := 54) hx hb (by omega) (by omega) dX0_isCrowded_7 (by decide) (fun hc7 => ?_) (fun hc7 => ?_)
      · refine lv_iconst (v := nI 0) hx hb dX0_isCrowded_54 (by decide) ?_
        rw [hQ]
        exact W.zret (v := nI 0) (ty := .boolean) hx hb hr (by first | rfl | decide) (fun t99 ht99 hW99 => ⟨⟨nI 0, μ, rfl, (⟨rfl, Or.inl rfl, fun _ => rfl⟩), by show mw _ _ _ _ t99.heap; rw [ht99]; exact hP⟩, hS.F ht99⟩) hS.2.2 dX0_isCrowded_55
      · refine lv_aload_n hx hb dX0_isCrowded_10 rfl (lv_at hl 0 rfl) ?_
        refine mw_get (C := RX0) (T := TX0) (N := 4) hx hb hts in_X0_isCrowded_X0 hown hK hP (hh) rfl 2 (by decide) (hts (.fieldLink RX0 18 "OctagonDesk$Numbers" "limbs" "[J") (by decide +kernel)) (fun _ h9 => h9) rfl dX0_isCrowded_11 ?_
        refine lv_aload_n hx hb dX0_isCrowded_14 rfl (lv_at hl 0 rfl) ?_
        refine mw_get (C := RX0) (T := TX0) (N := 4) hx hb hts in_X0_isCrowded_X0 hown hK hP (hh) rfl 3 (by decide) (hts (.fieldLink RX0 22 "OctagonDesk$Numbers" "top" "I") (by decide +kernel)) (fun _ h9 => h9) rfl dX0_isCrowded_15 ?_
        refine lv_iload_n hx hb dX0_isCrowded_18 rfl (lv_at hl 1 rfl) ?_
        refine nv_iadd hx hb dX0_isCrowded_19 ?_
        refine mw_lald hx hb hK hP 0 (ha) rfl (by omega) (by omega) dX0_isCrowded_20 ?_
        refine lv_topl (fun v21 ev21 => ?_)
        refine lv_lstore_n (lv' := [(2, .long v21), (0, .ref h), (1, .int (nI q))]) hx hb dX0_isCrowded_21 rfl hl (by decide) rfl (fun ls hl => ?_)
        refine lv_lload_n hx hb dX0_isCrowded_22 rfl (lv_at hl 0 rfl) ?_
        refine lv_ldc2 (v := (9223372036854775807)) hx hb hown (hts (.constantLong RX0 25 (9223372036854775807)) (by decide +kernel)) dX0_isCrowded_23 ?_
        refine nl_if_eq (tgt := 48) hx hb dX0_isCrowded_26 dX0_isCrowded_27 (by decide) (fun hc26 => ?_) (fun hc26 => ?_)
        · refine lv_iinc (v := nI (q + 1)) (lv' := [(1, .int (nI (q + 1))), (2, .long v21), (0, .ref h)]) hx hb dX0_isCrowded_48 hl (k := 2) rfl (nI_add _ _) (by decide) rfl (fun ls hl => ?_)
          refine lv_goto (tgt := 2) hx hb dX0_isCrowded_51 (by decide) ?_
          exact ih2 (q + 1) (by omega) (by omega) _ _ hP hS ls (lv_sub hl [2, 0] rfl)
        · refine lv_lload_n hx hb dX0_isCrowded_30 rfl (lv_at hl 0 rfl) ?_
          refine lv_ldc2 (v := (18014398509481984)) hx hb hown (hts (.constantLong RX0 61 (18014398509481984)) (by decide +kernel)) dX0_isCrowded_31 ?_
          refine nl_if_ge (tgt := 46) hx hb dX0_isCrowded_34 dX0_isCrowded_35 (by decide) (fun hc34 => ?_) (fun hc34 => ?_)
          · refine lv_iconst (v := nI 1) hx hb dX0_isCrowded_46 (by decide) ?_
            rw [hQ]
            exact W.zret (v := nI 1) (ty := .boolean) hx hb hr (by first | rfl | decide) (fun t99 ht99 hW99 => ⟨⟨nI 1, μ, rfl, (⟨rfl, Or.inr rfl, ic_1 (by omega) ev21 hc26 (by first | exact Or.inl hc34 | exact Or.inr hc42)⟩), by show mw _ _ _ _ t99.heap; rw [ht99]; exact hP⟩, hS.F ht99⟩) hS.2.2 dX0_isCrowded_47
          · refine lv_lload_n hx hb dX0_isCrowded_38 rfl (lv_at hl 0 rfl) ?_
            refine lv_ldc2 (v := (-18014398509481984)) hx hb hown (hts (.constantLong RX0 63 (-18014398509481984)) (by decide +kernel)) dX0_isCrowded_39 ?_
            refine nl_if_ge (tgt := 48) hx hb dX0_isCrowded_42 dX0_isCrowded_43 (by decide) (fun hc42 => ?_) (fun hc42 => ?_)
            · refine lv_iinc (v := nI (q + 1)) (lv' := [(1, .int (nI (q + 1))), (2, .long v21), (0, .ref h)]) hx hb dX0_isCrowded_48 hl (k := 2) rfl (nI_add _ _) (by decide) rfl (fun ls hl => ?_)
              refine lv_goto (tgt := 2) hx hb dX0_isCrowded_51 (by decide) ?_
              exact ih2 (q + 1) (by omega) (by omega) _ _ hP hS ls (lv_sub hl [2, 0] rfl)
            · refine lv_iconst (v := nI 1) hx hb dX0_isCrowded_46 (by decide) ?_
              rw [hQ]
              exact W.zret (v := nI 1) (ty := .boolean) hx hb hr (by first | rfl | decide) (fun t99 ht99 hW99 => ⟨⟨nI 1, μ, rfl, (⟨rfl, Or.inr rfl, ic_1 (by omega) ev21 hc26 (by first | exact Or.inl hc34 | exact Or.inr hc42)⟩), by show mw _ _ _ _ t99.heap; rw [ht99]; exact hP⟩, hS.F ht99⟩) hS.2.2 dX0_isCrowded_47
  have hl := lv_entry ([.ref h]) (n := 4) (Nat.le_of_ble_eq_true rfl)
  have he9 : entryFrame m args 4 = entryFrame m ([.ref h] : List Value).toArray 4 := by rw [hargs]
  rw [he9, lg_entry_eq]
  generalize (lg_sl ([.ref h]) ++ List.replicate (4 - (lg_sl ([.ref h])).length) Slot.unset).toArray = ls at hl ⊢
  have hl : lv_has ls 4 [(0, .ref h)] := hl
  refine lv_iconst (v := nI 0) hx hb dX0_isCrowded_0 (by decide) ?_
  refine lv_istore_n (lv' := [(1, .int (nI 0)), (0, .ref h)]) hx hb dX0_isCrowded_1 rfl hl (by decide) rfl (fun ls hl => ?_)
  exact L2 _ 0 (Nat.lt_succ_self _) (by omega) _ _ hP hS ls (lv_sub hl [1, 0] rfl)

abbrev rm_X0_takeOver : Room := { frames := 1, cells := 0, slots := 0, locals := 60 }
set_option maxHeartbeats 4000000 in
set_option maxRecDepth 100000 in
theorem c_X0_takeOver (l : Launch) (G : GG) (B : Nat) (μ : mp) (h la k : Nat) (f : Nat → Int64) (h2 la2 : Nat) (g : Nat → Int64) (hh : μ h = some (.inr (0, [.int (nI 158), .int (nI 157), .ref la, .int (nI (158 * k))]))) (ha : μ la = some (.inl (G.2 0, 158 * k + 158, .inr (.inl f)))) (hh2 : μ h2 = some (.inr (0, [.int (nI 158), .int (nI 157), .ref la2, .int (nI (158 * k))]))) (ha2 : μ la2 = some (.inl (G.2 0, 158 * k + 158, .inr (.inl g)))) (hk : k ≤ 1022) : Met l yX0_takeOver wsX0_takeOver rm_X0_takeOver (va_Pc [.ref h, .ref h2] (KW G B μ)) (va_Qv (fun μ2 => ∃ g9 : Nat → Int64, μ2 = mu μ la (.inl (G.2 0, 158 * k + 158, .inr (.inl g9))) ∧ ∀ j < 158 * k + 158, g9 j = g j) (BB G B) (fun q => B ≤ q)) 0 0 (fun q => B ≤ q) := by
  refine Met.ofW (cc := cX0_takeOver) (maxL := 2) (ret := none) (by decide) rfl ?_
  intro p e s m args below meth c s₁ B9 hml hv
  obtain ⟨hargs, hBs, hP, hKK⟩ := hv
  have hx := B9.exec
  have hb := B9.bytes
  have hr := B9.returns
  have hts := atoms_spec (ws := wsX0_takeOver) B9.pre
  have hown : s.vm.findClass RX0 = some m.cls := findClass_of_methodNamed B9.named
  have hlocks := B9.notSynchronized
  have hK := hKK.k
  have hS : va_S (fun q => B ≤ q) s.heap s.heap [] := va_S.rf
  obtain ⟨Q, hQ⟩ : ∃ Q, Q = MQ below (va_Qv (fun μ2 => ∃ g9 : Nat → Int64, μ2 = mu μ la (.inl (G.2 0, 158 * k + 158, .inr (.inl g9))) ∧ ∀ j < 158 * k + 158, g9 j = g j) (BB G B) (fun q => B ≤ q)) args s 0 0 (fun q => B ≤ q) := ⟨_, rfl⟩
  rw [← hQ]
  have ne0_1 : h ≠ la := mp_ne hh ha (by simp)
  have ne0_3 : h ≠ la2 := mp_ne hh ha2 (by simp)
  have ne1_2 : la ≠ h2 := mp_ne ha hh2 (by simp)
  have ne2_3 : h2 ≠ la2 := mp_ne hh2 ha2 (by simp)
  have in_X0_takeOver_X0 : ∀ w ∈ wsX00, w ∈ wsX0_takeOver := by decide +kernel
  have hl := lv_entry ([.ref h, .ref h2]) (n := 2) (Nat.le_of_ble_eq_true rfl)
  have he9 : entryFrame m args 2 = entryFrame m ([.ref h, .ref h2] : List Value).toArray 2 := by rw [hargs]
  rw [he9, lg_entry_eq]
  generalize (lg_sl ([.ref h, .ref h2]) ++ List.replicate (2 - (lg_sl ([.ref h, .ref h2])).length) Slot.unset).toArray = ls at hl ⊢
  have hl : lv_has ls 2 [(0, .ref h), (1, .ref h2)] := hl
  refine lv_aload_n hx hb dX0_takeOver_0 rfl (lv_at hl 1 rfl) ?_
  refine mw_get (C := RX0) (T := TX0) (N := 4) hx hb hts in_X0_takeOver_X0 hown hK hP (hh2) rfl 2 (by decide) (hts (.fieldLink RX0 18 "OctagonDesk$Numbers" "limbs" "[J") (by decide +kernel)) (fun _ h9 => h9) rfl dX0_takeOver_1 ?_
  refine lv_iconst (v := nI 0) hx hb dX0_takeOver_4 (by decide) ?_
  refine lv_aload_n hx hb dX0_takeOver_5 rfl (lv_at hl 0 rfl) ?_
  refine mw_get (C := RX0) (T := TX0) (N := 4) hx hb hts in_X0_takeOver_X0 hown hK hP (hh) rfl 2 (by decide) (hts (.fieldLink RX0 18 "OctagonDesk$Numbers" "limbs" "[J") (by decide +kernel)) (fun _ h9 => h9) rfl dX0_takeOver_6 ?_
  refine lv_iconst (v := nI 0) hx hb dX0_takeOver_9 (by decide) ?_
  refine lv_aload_n hx hb dX0_takeOver_10 rfl (lv_at hl 0 rfl) ?_
  refine mw_get (C := RX0) (T := TX0) (N := 4) hx hb hts in_X0_takeOver_X0 hown hK hP (hh) rfl 2 (by decide) (hts (.fieldLink RX0 18 "OctagonDesk$Numbers" "limbs" "[J") (by decide +kernel)) (fun _ h9 => h9) rfl dX0_takeOver_11 ?_
  refine mw_alen hx hb hK hP 0 (ha) rfl dX0_takeOver_14 ?_
  refine mw_copyl hx hb (hml.trans hl.1.symm) hown (hts (.methodLink RX0 33 arraycopyName) (by decide +kernel)) (hts (.native arraycopyName) (by decide +kernel)) (hts (.static arraycopyName) (by decide +kernel)) (hts (.initialized "java/lang/System") (by decide +kernel)) hK hP hS 0 0 (ha2) (ha) rfl rfl (by omega) (by omega) (by omega) (Nat.le_of_ble_eq_true rfl) (Nat.le_of_ble_eq_true rfl) dX0_takeOver_15 (fun H locs hP hS => ?_)
  have hP : mw G.1 vwCl B (mu μ la (.inl (G.2 0, 158 * k + 158, .inr (.inl (va_cpy g f 0 0 (158 * k + 158)))))) _ := hP
  rw [hQ]
  exact W.vret hx hb hr (fun t99 ht99 hW99 => ⟨⟨mu μ la (.inl (G.2 0, 158 * k + 158, .inr (.inl (va_cpy g f 0 0 (158 * k + 158))))), rfl, (⟨_, rfl, fun j hj => by rw [pk_cpy_in (Nat.zero_le _) (by omega)]; simp⟩), by show mw _ _ _ _ t99.heap; rw [ht99]; exact hP⟩, hS.F ht99⟩) hS.2.2 dX0_takeOver_18
