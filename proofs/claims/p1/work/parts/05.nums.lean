/-- a number's name: infinite, plain; sums with infinity, halves, negatives -/
abbrev INF : Int64 := 9223372036854775807
def sm (x y : Int64) : Int64 := if x = INF ∨ y = INF then INF else x + y
def hf (x : Int64) : Int64 := if x = INF then INF else x >>> ((nI 1).toInt64 &&& 63)
def ng (x : Int64) : Int64 := if x = INF then INF else -x
def NG (x : Int64) : Prop := x = INF ∨ x < 4611686018427387904
def Pn (x : Int64) : Prop := x = INF ∨ (-576460752303423488 ≤ x.toInt ∧ x.toInt ≤ 576460752303423487)
theorem INF_toInt : (INF : Int64).toInt = 9223372036854775807 := by decide
theorem no_lt {x : Int64} : ¬ INF < x := by
  rw [Int64.lt_iff_toInt_lt, INF_toInt]
  have := x.toInt_lt
  omega
theorem Pn.ng {x : Int64} (h : Pn x) : NG x := h.imp id (fun h => by
  rw [Int64.lt_iff_toInt_lt, show (4611686018427387904 : Int64).toInt = 4611686018427387904 by decide]; omega)
theorem Pn.z : Pn 0 := Or.inr (by decide)
theorem Pn.i : Pn INF := Or.inl rfl
theorem Pn.of {x : Int64} (h : x = INF ∨ x = 0) : Pn x := h.elim Or.inl (fun h => h ▸ Pn.z)
theorem ng_ge {x : Int64} (h : NG x) (h1 : ¬ x = INF) (h2 : 4611686018427387904 ≤ x) : False := h.elim h1 (fun h3 => absurd h3 (Int64.not_lt.mpr h2))
theorem pn_add {x y : Int64} (hx : Pn x) (hy : Pn y) (h1 : ¬ x = INF) (h2 : ¬ y = INF) : (x + y).toInt = x.toInt + y.toInt ∧ -1152921504606846976 ≤ x.toInt + y.toInt ∧ x.toInt + y.toInt ≤ 1152921504606846974 := by
  rcases hx with hx | hx
  · exact absurd hx h1
  · rcases hy with hy | hy
    · exact absurd hy h2
    · refine ⟨?_, by omega, by omega⟩
      rw [Int64.toInt_add]
      exact Int.bmod_eq_of_le_mul_two (by omega) (by omega)
theorem pn_sum {x y : Int64} (hx : Pn x) (hy : Pn y) (h1 : ¬ x = INF) (h2 : ¬ y = INF) : -1152921504606846976 ≤ x + y ∧ x + y ≤ 1152921504606846975 := by
  obtain ⟨e, a, b⟩ := pn_add hx hy h1 h2
  rw [Int64.le_iff_toInt_le, Int64.le_iff_toInt_le, e, show (-1152921504606846976 : Int64).toInt = -1152921504606846976 by decide, show (1152921504606846975 : Int64).toInt = 1152921504606846975 by decide]
  omega
theorem pn_neg {x : Int64} (hx : Pn x) (h1 : ¬ x = INF) : (-x).toInt = -x.toInt := by
  rcases hx with hx | hx
  · exact absurd hx h1
  · rw [Int64.toInt_neg]
    exact Int.bmod_eq_of_le_mul_two (by omega) (by omega)
theorem pn_ng {x : Int64} (hx : Pn x) (h1 : ¬ x = INF) : -1152921504606846976 ≤ -x ∧ -x ≤ 1152921504606846975 := by
  have e := pn_neg hx h1
  rcases hx with hx | hx
  · exact absurd hx h1
  · rw [Int64.le_iff_toInt_le, Int64.le_iff_toInt_le, e, show (-1152921504606846976 : Int64).toInt = -1152921504606846976 by decide, show (1152921504606846975 : Int64).toInt = 1152921504606846975 by decide]
    omega
theorem sl_a {x y z : Int64} (h : x = INF) : ¬ sm x y < z := by unfold sm; rw [if_pos (Or.inl h)]; exact no_lt
theorem sl_b {x y z : Int64} (h : y = INF) : ¬ sm x y < z := by unfold sm; rw [if_pos (Or.inr h)]; exact no_lt
theorem sm_p {x y : Int64} (h1 : ¬ x = INF) (h2 : ¬ y = INF) : sm x y = x + y := by unfold sm; rw [if_neg (fun h => h.elim h1 h2)]
theorem sl_c {x y z : Int64} (hx : Pn x) (hy : Pn y) (h1 : ¬ x = INF) (h2 : ¬ y = INF) (h3 : z = INF) : sm x y < z := by
  obtain ⟨e, a, b⟩ := pn_add hx hy h1 h2
  rw [sm_p h1 h2, h3, Int64.lt_iff_toInt_lt, e, INF_toInt]
  omega
theorem sm_0 {x z : Int64} : sm x 0 < z ↔ x < z := by
  by_cases h : x = INF
  · exact ⟨fun h1 => absurd h1 (sl_a h), fun h1 => by rw [h] at h1; exact absurd h1 no_lt⟩
  · rw [sm_p h (by decide), Int64.add_zero]
theorem if_01 (c : Prop) [Decidable c] : (if c then (1 : Int32) else 0) = 0 ∨ (if c then (1 : Int32) else 0) = 1 := by
  by_cases h : c <;> simp [h]
theorem b1_0 {c : Prop} [Decidable c] {r : Int32} (h : r = if c then (1 : Int32) else 0) (h1 : r = 0) : ¬ c := fun hc => by rw [if_pos hc, h1] at h; exact absurd h (by decide)
theorem b1_1 {c : Prop} [Decidable c] {r : Int32} (h : r = if c then (1 : Int32) else 0) (h1 : ¬ r = 0) : c := by
  by_cases hc : c
  · exact hc
  · rw [if_neg hc] at h; exact absurd h h1
abbrev rm_X3_isGiant : Room := { frames := 0, cells := 0, slots := 0, locals := 0 }
set_option maxHeartbeats 4000000 in
set_option maxRecDepth 100000 in
theorem c_X3_isGiant (l : Launch) (G : GG) (B : Nat) (μ : mp) (x9 : Int64) : Met l yX3_isGiant wsX3_isGiant rm_X3_isGiant (va_Pc [.long x9] (KW G B μ)) (va_Qi (fun r μ2 => μ2 = μ ∧ (NG x9 → r = 0)) (BB G B) (fun q => B ≤ q)) 0 0 (fun q => B ≤ q) := by
  refine Met.ofW (cc := cX3_isGiant) (maxL := 2) (ret := (some .boolean)) (by decide) rfl ?_
  intro p e s m args below meth c s₁ B9 hml hv
  obtain ⟨hargs, hBs, hP, hKK⟩ := hv
  have hx := B9.exec
  have hb := B9.bytes
  have hr := B9.returns
  have hts := atoms_spec (ws := wsX3_isGiant) B9.pre
  have hown : s.vm.findClass RX3 = some m.cls := findClass_of_methodNamed B9.named
  have hlocks := B9.notSynchronized
  have hK := hKK.k
  have hS : va_S (fun q => B ≤ q) s.heap s.heap [] := va_S.rf
  obtain ⟨Q, hQ⟩ : ∃ Q, Q = MQ below (va_Qi (fun r μ2 => μ2 = μ ∧ (NG x9 → r = 0)) (BB G B) (fun q => B ≤ q)) args s 0 0 (fun q => B ≤ q) := ⟨_, rfl⟩
  rw [← hQ]
  have hl := lv_entry ([.long x9]) (n := 2) (Nat.le_of_ble_eq_true rfl)
  have he9 : entryFrame m args 2 = entryFrame m ([.long x9] : List Value).toArray 2 := by rw [hargs]
  rw [he9, lg_entry_eq]
  generalize (lg_sl ([.long x9]) ++ List.replicate (2 - (lg_sl ([.long x9])).length) Slot.unset).toArray = ls at hl ⊢
  have hl : lv_has ls 2 [(0, .long x9)] := hl
  refine lv_lload_n hx hb dX3_isGiant_0 rfl (lv_at hl 0 rfl) ?_
  refine lv_ldc2 (v := (4611686018427387904)) hx hb hown (hts (.constantLong RX3 56 (4611686018427387904)) (by decide +kernel)) dX3_isGiant_1 ?_
  refine nl_if_lt (tgt := 20) hx hb dX3_isGiant_4 dX3_isGiant_5 (by decide) (fun hc4 => ?_) (fun hc4 => ?_)
  · refine lv_iconst (v := nI 0) hx hb dX3_isGiant_20 (by decide) ?_
    rw [hQ]
    exact W.zret (v := nI 0) (ty := .boolean) hx hb hr (by first | rfl | decide) (fun t99 ht99 hW99 => ⟨⟨nI 0, μ, rfl, (⟨rfl, fun _ => rfl⟩), by show mw _ _ _ _ t99.heap; rw [ht99]; exact hP⟩, hS.F ht99⟩) hS.2.2 dX3_isGiant_21
  · refine lv_lload_n hx hb dX3_isGiant_8 rfl (lv_at hl 0 rfl) ?_
    refine lv_ldc2 (v := (9223372036854775807)) hx hb hown (hts (.constantLong RX3 58 (9223372036854775807)) (by decide +kernel)) dX3_isGiant_9 ?_
    refine nl_if_eq (tgt := 20) hx hb dX3_isGiant_12 dX3_isGiant_13 (by decide) (fun hc12 => ?_) (fun hc12 => ?_)
    · refine lv_iconst (v := nI 0) hx hb dX3_isGiant_20 (by decide) ?_
      rw [hQ]
      exact W.zret (v := nI 0) (ty := .boolean) hx hb hr (by first | rfl | decide) (fun t99 ht99 hW99 => ⟨⟨nI 0, μ, rfl, (⟨rfl, fun _ => rfl⟩), by show mw _ _ _ _ t99.heap; rw [ht99]; exact hP⟩, hS.F ht99⟩) hS.2.2 dX3_isGiant_21
    · refine lv_iconst (v := nI 1) hx hb dX3_isGiant_16 (by decide) ?_
      refine lv_goto (tgt := 21) hx hb dX3_isGiant_17 (by decide) ?_
      rw [hQ]
      exact W.zret (v := nI 1) (ty := .boolean) hx hb hr (by first | rfl | decide) (fun t99 ht99 hW99 => ⟨⟨nI 1, μ, rfl, (⟨rfl, fun h9 => (h9.elim hc12 hc4).elim⟩), by show mw _ _ _ _ t99.heap; rw [ht99]; exact hP⟩, hS.F ht99⟩) hS.2.2 dX3_isGiant_21

abbrev rm_X3_isPlain : Room := { frames := 0, cells := 0, slots := 0, locals := 0 }
set_option maxHeartbeats 4000000 in
set_option maxRecDepth 100000 in
theorem c_X3_isPlain (l : Launch) (G : GG) (B : Nat) (μ : mp) (x9 : Int64) (hx9 : -1152921504606846976 ≤ x9 ∧ x9 ≤ 1152921504606846975) : Met l yX3_isPlain wsX3_isPlain rm_X3_isPlain (va_Pc [.long x9] (KW G B μ)) (va_Qi (fun r μ2 => μ2 = μ ∧ r = 1) (BB G B) (fun q => B ≤ q)) 0 0 (fun q => B ≤ q) := by
  refine Met.ofW (cc := cX3_isPlain) (maxL := 2) (ret := (some .boolean)) (by decide) rfl ?_
  intro p e s m args below meth c s₁ B9 hml hv
  obtain ⟨hargs, hBs, hP, hKK⟩ := hv
  have hx := B9.exec
  have hb := B9.bytes
  have hr := B9.returns
  have hts := atoms_spec (ws := wsX3_isPlain) B9.pre
  have hown : s.vm.findClass RX3 = some m.cls := findClass_of_methodNamed B9.named
  have hlocks := B9.notSynchronized
  have hK := hKK.k
  have hS : va_S (fun q => B ≤ q) s.heap s.heap [] := va_S.rf
  obtain ⟨Q, hQ⟩ : ∃ Q, Q = MQ below (va_Qi (fun r μ2 => μ2 = μ ∧ r = 1) (BB G B) (fun q => B ≤ q)) args s 0 0 (fun q => B ≤ q) := ⟨_, rfl⟩
  rw [← hQ]
  have hl := lv_entry ([.long x9]) (n := 2) (Nat.le_of_ble_eq_true rfl)
  have he9 : entryFrame m args 2 = entryFrame m ([.long x9] : List Value).toArray 2 := by rw [hargs]
  rw [he9, lg_entry_eq]
  generalize (lg_sl ([.long x9]) ++ List.replicate (2 - (lg_sl ([.long x9])).length) Slot.unset).toArray = ls at hl ⊢
  have hl : lv_has ls 2 [(0, .long x9)] := hl
  refine lv_lload_n hx hb dX3_isPlain_0 rfl (lv_at hl 0 rfl) ?_
  refine lv_ldc2 (v := (-1152921504606846976)) hx hb hown (hts (.constantLong RX3 60 (-1152921504606846976)) (by decide +kernel)) dX3_isPlain_1 ?_
  refine nl_if_lt (tgt := 20) hx hb dX3_isPlain_4 dX3_isPlain_5 (by decide) (fun hc4 => ?_) (fun hc4 => ?_)
  · exact absurd hc4 (Int64.not_lt.mpr hx9.1)
  · refine lv_lload_n hx hb dX3_isPlain_8 rfl (lv_at hl 0 rfl) ?_
    refine lv_ldc2 (v := (1152921504606846975)) hx hb hown (hts (.constantLong RX3 62 (1152921504606846975)) (by decide +kernel)) dX3_isPlain_9 ?_
    refine nl_if_gt (tgt := 20) hx hb dX3_isPlain_12 dX3_isPlain_13 (by decide) (fun hc12 => ?_) (fun hc12 => ?_)
    · exact absurd hc12 (Int64.not_lt.mpr hx9.2)
    · refine lv_iconst (v := nI 1) hx hb dX3_isPlain_16 (by decide) ?_
      refine lv_goto (tgt := 21) hx hb dX3_isPlain_17 (by decide) ?_
      rw [hQ]
      exact W.zret (v := nI 1) (ty := .boolean) hx hb hr (by first | rfl | decide) (fun t99 ht99 hW99 => ⟨⟨nI 1, μ, rfl, (⟨rfl, rfl⟩), by show mw _ _ _ _ t99.heap; rw [ht99]; exact hP⟩, hS.F ht99⟩) hS.2.2 dX3_isPlain_21

abbrev rm_X3_replace : Room := { frames := 1, cells := 0, slots := 0, locals := 21 }
set_option maxHeartbeats 4000000 in
set_option maxRecDepth 100000 in
theorem c_X3_replace (l : Launch) (G : GG) (B : Nat) (μ : mp) (h : Nat) (nf : List Value) (a9 b9 : Int64) (hh : μ h = some (.inr (3, nf))) (hpa : NG a9) (hpb : NG b9) : Met l yX3_replace wsX3_replace rm_X3_replace (va_Pc [.ref h, .long a9, .long b9] (KW G B μ)) (va_Ql (fun r μ2 => μ2 = μ ∧ r = b9) (BB G B) (fun q => B ≤ q)) 0 0 (fun q => B ≤ q) := by
  refine Met.ofW (cc := cX3_replace) (maxL := 6) (ret := (some .long)) (by decide) rfl ?_
  intro p e s m args below meth c s₁ B9 hml hv
  obtain ⟨hargs, hBs, hP, hKK⟩ := hv
  have hx := B9.exec
  have hb := B9.bytes
  have hr := B9.returns
  have hts := atoms_spec (ws := wsX3_replace) B9.pre
  have hown : s.vm.findClass RX3 = some m.cls := findClass_of_methodNamed B9.named
  have hlocks := B9.notSynchronized
  have hK := hKK.k
  have hS : va_S (fun q => B ≤ q) s.heap s.heap [] := va_S.rf
  obtain ⟨Q, hQ⟩ : ∃ Q, Q = MQ below (va_Ql (fun r μ2 => μ2 = μ ∧ r = b9) (BB G B) (fun q => B ≤ q)) args s 0 0 (fun q => B ≤ q) := ⟨_, rfl⟩
  rw [← hQ]
  have hl := lv_entry ([.ref h, .long a9, .long b9]) (n := 6) (Nat.le_of_ble_eq_true rfl)
  have he9 : entryFrame m args 6 = entryFrame m ([.ref h, .long a9, .long b9] : List Value).toArray 6 := by rw [hargs]
  rw [he9, lg_entry_eq]
  generalize (lg_sl ([.ref h, .long a9, .long b9]) ++ List.replicate (6 - (lg_sl ([.ref h, .long a9, .long b9])).length) Slot.unset).toArray = ls at hl ⊢
  have hl : lv_has ls 6 [(0, .ref h), (1, .long a9), (3, .long b9)] := hl
  refine lv_lload_n hx hb dX3_replace_0 rfl (lv_at hl 2 rfl) ?_
  refine kc_i (va_runS (As := [.long b9]) (rest := []) ⟨hx, hb, hml, hown, hts⟩ (c_X3_isGiant l G B (μ) b9) (va_cwS 1 hts gX3_replace_X3_isGiant rfl rfl rfl (by decide +kernel) ⟨Nat.le_of_ble_eq_true rfl, Nat.le_of_ble_eq_true rfl⟩) ⟨KW.blind, fun U9 hU9 hW9 => ⟨rfl, KW.pre hBs hKK hS hP U9 hU9 hW9⟩⟩ rfl rfl hl.1 rfl (lv_room (Nat.le_of_ble_eq_true rfl)) dX3_replace_1 ⟨(Nat.le_of_ble_eq_true rfl), (Nat.le_of_ble_eq_true rfl)⟩) hS (fun r1 m1 H locs hq9 hP hz9 hS => ?_)
  obtain ⟨he9, hr1⟩ := hq9
  rw [he9] at hP
  refine lv_if_eq (tgt := 21) hx hb dX3_replace_4 (by decide) (fun hc4 => ?_) (fun hc4 => ?_)
  · refine lv_lload_n hx hb dX3_replace_21 rfl (lv_at hl 1 rfl) ?_
    refine kc_i (va_runS (As := [.long a9]) (rest := []) ⟨hx, hb, hml, hown, hts⟩ (c_X3_isGiant l G B (μ) a9) (va_cwS 1 hts gX3_replace_X3_isGiant rfl rfl rfl (by decide +kernel) ⟨Nat.le_of_ble_eq_true rfl, Nat.le_of_ble_eq_true rfl⟩) ⟨KW.blind, fun U9 hU9 hW9 => ⟨rfl, KW.pre hBs hKK hS hP U9 hU9 hW9⟩⟩ rfl rfl hl.1 rfl (lv_room (Nat.le_of_ble_eq_true rfl)) dX3_replace_22 ⟨(Nat.le_of_ble_eq_true rfl), (Nat.le_of_ble_eq_true rfl)⟩) hS (fun r22 m22 H locs hq9 hP hz9 hS => ?_)
    obtain ⟨he9, hr22⟩ := hq9
    rw [he9] at hP
    refine lv_if_eq (tgt := 61) hx hb dX3_replace_25 (by decide) (fun hc25 => ?_) (fun hc25 => ?_)
    · refine lv_lload_n hx hb dX3_replace_61 rfl (lv_at hl 2 rfl) ?_
      rw [hQ]
      exact W.lret (v := b9) hx hb hr (fun t99 ht99 hW99 => ⟨⟨b9, μ, rfl, (⟨rfl, rfl⟩), by show mw _ _ _ _ t99.heap; rw [ht99]; exact hP⟩, hS.F ht99⟩) hS.2.2 dX3_replace_62
    · exact absurd (hr22 hpa) hc25
  · exact absurd (hr1 hpb) hc4

abbrev rm_X3_isNegative : Room := { frames := 1, cells := 0, slots := 0, locals := 21 }
set_option maxHeartbeats 4000000 in
set_option maxRecDepth 100000 in
theorem c_X3_isNegative (l : Launch) (G : GG) (B : Nat) (μ : mp) (h : Nat) (nf : List Value) (a9 : Int64) (hh : μ h = some (.inr (3, nf))) (hpa : NG a9) : Met l yX3_isNegative wsX3_isNegative rm_X3_isNegative (va_Pc [.ref h, .long a9] (KW G B μ)) (va_Qi (fun r μ2 => μ2 = μ ∧ r = if a9 < 0 then (1 : Int32) else 0) (BB G B) (fun q => B ≤ q)) 0 0 (fun q => B ≤ q) := by
  refine Met.ofW (cc := cX3_isNegative) (maxL := 3) (ret := (some .boolean)) (by decide) rfl ?_
  intro p e s m args below meth c s₁ B9 hml hv
  obtain ⟨hargs, hBs, hP, hKK⟩ := hv
  have hx := B9.exec
  have hb := B9.bytes
  have hr := B9.returns
  have hts := atoms_spec (ws := wsX3_isNegative) B9.pre
  have hown : s.vm.findClass RX3 = some m.cls := findClass_of_methodNamed B9.named
  have hlocks := B9.notSynchronized
  have hK := hKK.k
  have hS : va_S (fun q => B ≤ q) s.heap s.heap [] := va_S.rf
  obtain ⟨Q, hQ⟩ : ∃ Q, Q = MQ below (va_Qi (fun r μ2 => μ2 = μ ∧ r = if a9 < 0 then (1 : Int32) else 0) (BB G B) (fun q => B ≤ q)) args s 0 0 (fun q => B ≤ q) := ⟨_, rfl⟩
  rw [← hQ]
  have hl := lv_entry ([.ref h, .long a9]) (n := 3) (Nat.le_of_ble_eq_true rfl)
  have he9 : entryFrame m args 3 = entryFrame m ([.ref h, .long a9] : List Value).toArray 3 := by rw [hargs]
  rw [he9, lg_entry_eq]
  generalize (lg_sl ([.ref h, .long a9]) ++ List.replicate (3 - (lg_sl ([.ref h, .long a9])).length) Slot.unset).toArray = ls at hl ⊢
  have hl : lv_has ls 3 [(0, .ref h), (1, .long a9)] := hl
  refine lv_lload_n hx hb dX3_isNegative_0 rfl (lv_at hl 1 rfl) ?_
  refine kc_i (va_runS (As := [.long a9]) (rest := []) ⟨hx, hb, hml, hown, hts⟩ (c_X3_isGiant l G B (μ) a9) (va_cwS 1 hts gX3_isNegative_X3_isGiant rfl rfl rfl (by decide +kernel) ⟨Nat.le_of_ble_eq_true rfl, Nat.le_of_ble_eq_true rfl⟩) ⟨KW.blind, fun U9 hU9 hW9 => ⟨rfl, KW.pre hBs hKK hS hP U9 hU9 hW9⟩⟩ rfl rfl hl.1 rfl (lv_room (Nat.le_of_ble_eq_true rfl)) dX3_isNegative_1 ⟨(Nat.le_of_ble_eq_true rfl), (Nat.le_of_ble_eq_true rfl)⟩) hS (fun r1 m1 H locs hq9 hP hz9 hS => ?_)
  obtain ⟨he9, hr1⟩ := hq9
  rw [he9] at hP
  refine lv_if_eq (tgt := 28) hx hb dX3_isNegative_4 (by decide) (fun hc4 => ?_) (fun hc4 => ?_)
  · refine lv_lload_n hx hb dX3_isNegative_28 rfl (lv_at hl 1 rfl) ?_
    refine lv_lconst (v := 0) hx hb dX3_isNegative_29 (by decide) ?_
    refine nl_if_ge (tgt := 38) hx hb dX3_isNegative_30 dX3_isNegative_31 (by decide) (fun hc30 => ?_) (fun hc30 => ?_)
    · refine lv_iconst (v := nI 0) hx hb dX3_isNegative_38 (by decide) ?_
      rw [hQ]
      exact W.zret (v := nI 0) (ty := .boolean) hx hb hr (by first | rfl | decide) (fun t99 ht99 hW99 => ⟨⟨nI 0, μ, rfl, (⟨rfl, by rw [if_neg (Int64.not_lt.mpr hc30)]; rfl⟩), by show mw _ _ _ _ t99.heap; rw [ht99]; exact hP⟩, hS.F ht99⟩) hS.2.2 dX3_isNegative_39
    · refine lv_iconst (v := nI 1) hx hb dX3_isNegative_34 (by decide) ?_
      refine lv_goto (tgt := 39) hx hb dX3_isNegative_35 (by decide) ?_
      rw [hQ]
      exact W.zret (v := nI 1) (ty := .boolean) hx hb hr (by first | rfl | decide) (fun t99 ht99 hW99 => ⟨⟨nI 1, μ, rfl, (⟨rfl, by rw [if_pos (Int64.not_le.mp hc30)]; rfl⟩), by show mw _ _ _ _ t99.heap; rw [ht99]; exact hP⟩, hS.F ht99⟩) hS.2.2 dX3_isNegative_39
  · exact absurd (hr1 hpa) hc4

abbrev rm_X3_isSumLess : Room := { frames := 0, cells := 0, slots := 0, locals := 0 }
set_option maxHeartbeats 4000000 in
set_option maxRecDepth 100000 in
theorem c_X3_isSumLess (l : Launch) (G : GG) (B : Nat) (μ : mp) (h : Nat) (nf : List Value) (a9 b9 c9 : Int64) (hh : μ h = some (.inr (3, nf))) (hpa : Pn a9) (hpb : Pn b9) (hpc : NG c9) : Met l yX3_isSumLess wsX3_isSumLess rm_X3_isSumLess (va_Pc [.ref h, .long a9, .long b9, .long c9] (KW G B μ)) (va_Qi (fun r μ2 => μ2 = μ ∧ r = if sm a9 b9 < c9 then (1 : Int32) else 0) (BB G B) (fun q => B ≤ q)) 0 0 (fun q => B ≤ q) := by
  refine Met.ofW (cc := cX3_isSumLess) (maxL := 17) (ret := (some .boolean)) (by decide) rfl ?_
  intro p e s m args below meth c s₁ B9 hml hv
  obtain ⟨hargs, hBs, hP, hKK⟩ := hv
  have hx := B9.exec
  have hb := B9.bytes
  have hr := B9.returns
  have hts := atoms_spec (ws := wsX3_isSumLess) B9.pre
  have hown : s.vm.findClass RX3 = some m.cls := findClass_of_methodNamed B9.named
  have hlocks := B9.notSynchronized
  have hK := hKK.k
  have hS : va_S (fun q => B ≤ q) s.heap s.heap [] := va_S.rf
  obtain ⟨Q, hQ⟩ : ∃ Q, Q = MQ below (va_Qi (fun r μ2 => μ2 = μ ∧ r = if sm a9 b9 < c9 then (1 : Int32) else 0) (BB G B) (fun q => B ≤ q)) args s 0 0 (fun q => B ≤ q) := ⟨_, rfl⟩
  rw [← hQ]
  have hl := lv_entry ([.ref h, .long a9, .long b9, .long c9]) (n := 17) (Nat.le_of_ble_eq_true rfl)
  have he9 : entryFrame m args 17 = entryFrame m ([.ref h, .long a9, .long b9, .long c9] : List Value).toArray 17 := by rw [hargs]
  rw [he9, lg_entry_eq]
  generalize (lg_sl ([.ref h, .long a9, .long b9, .long c9]) ++ List.replicate (17 - (lg_sl ([.ref h, .long a9, .long b9, .long c9])).length) Slot.unset).toArray = ls at hl ⊢
  have hl : lv_has ls 17 [(0, .ref h), (1, .long a9), (3, .long b9), (5, .long c9)] := hl
  refine lv_lload_n hx hb dX3_isSumLess_0 rfl (lv_at hl 1 rfl) ?_
  refine lv_ldc2 (v := (9223372036854775807)) hx hb hown (hts (.constantLong RX3 58 (9223372036854775807)) (by decide +kernel)) dX3_isSumLess_1 ?_
  refine nl_if_eq (tgt := 25) hx hb dX3_isSumLess_4 dX3_isSumLess_5 (by decide) (fun hc4 => ?_) (fun hc4 => ?_)
  · refine lv_lload_n hx hb dX3_isSumLess_25 rfl (lv_at hl 1 rfl) ?_
    refine lv_ldc2 (v := (9223372036854775807)) hx hb hown (hts (.constantLong RX3 58 (9223372036854775807)) (by decide +kernel)) dX3_isSumLess_26 ?_
    refine nl_if_eq (tgt := 45) hx hb dX3_isSumLess_29 dX3_isSumLess_30 (by decide) (fun hc29 => ?_) (fun hc29 => ?_)
    · refine lv_iconst (v := nI 0) hx hb dX3_isSumLess_45 (by decide) ?_
      rw [hQ]
      exact W.zret (v := nI 0) (ty := .boolean) hx hb hr (by first | rfl | decide) (fun t99 ht99 hW99 => ⟨⟨nI 0, μ, rfl, (⟨rfl, by first | (rw [if_neg (sl_a hc29)]; rfl) | (rw [if_neg (sl_b hc37)]; rfl)⟩), by show mw _ _ _ _ t99.heap; rw [ht99]; exact hP⟩, hS.F ht99⟩) hS.2.2 dX3_isSumLess_46
    · refine lv_lload_n hx hb dX3_isSumLess_33 rfl (lv_at hl 2 rfl) ?_
      refine lv_ldc2 (v := (9223372036854775807)) hx hb hown (hts (.constantLong RX3 58 (9223372036854775807)) (by decide +kernel)) dX3_isSumLess_34 ?_
      refine nl_if_eq (tgt := 45) hx hb dX3_isSumLess_37 dX3_isSumLess_38 (by decide) (fun hc37 => ?_) (fun hc37 => ?_)
      · refine lv_iconst (v := nI 0) hx hb dX3_isSumLess_45 (by decide) ?_
        rw [hQ]
        exact W.zret (v := nI 0) (ty := .boolean) hx hb hr (by first | rfl | decide) (fun t99 ht99 hW99 => ⟨⟨nI 0, μ, rfl, (⟨rfl, by first | (rw [if_neg (sl_a hc29)]; rfl) | (rw [if_neg (sl_b hc37)]; rfl)⟩), by show mw _ _ _ _ t99.heap; rw [ht99]; exact hP⟩, hS.F ht99⟩) hS.2.2 dX3_isSumLess_46
      · refine lv_iconst (v := nI 1) hx hb dX3_isSumLess_41 (by decide) ?_
        refine lv_goto (tgt := 46) hx hb dX3_isSumLess_42 (by decide) ?_
        rw [hQ]
        exact W.zret (v := nI 1) (ty := .boolean) hx hb hr (by first | rfl | decide) (fun t99 ht99 hW99 => ⟨⟨nI 1, μ, rfl, (⟨rfl, by first | exact absurd hc4 hc29 | exact absurd hc12 hc37 | (rw [if_pos (sl_c hpa hpb hc29 hc37 hc21)]; rfl)⟩), by show mw _ _ _ _ t99.heap; rw [ht99]; exact hP⟩, hS.F ht99⟩) hS.2.2 dX3_isSumLess_46
  · refine lv_lload_n hx hb dX3_isSumLess_8 rfl (lv_at hl 2 rfl) ?_
    refine lv_ldc2 (v := (9223372036854775807)) hx hb hown (hts (.constantLong RX3 58 (9223372036854775807)) (by decide +kernel)) dX3_isSumLess_9 ?_
    refine nl_if_eq (tgt := 25) hx hb dX3_isSumLess_12 dX3_isSumLess_13 (by decide) (fun hc12 => ?_) (fun hc12 => ?_)
    · refine lv_lload_n hx hb dX3_isSumLess_25 rfl (lv_at hl 1 rfl) ?_
      refine lv_ldc2 (v := (9223372036854775807)) hx hb hown (hts (.constantLong RX3 58 (9223372036854775807)) (by decide +kernel)) dX3_isSumLess_26 ?_
      refine nl_if_eq (tgt := 45) hx hb dX3_isSumLess_29 dX3_isSumLess_30 (by decide) (fun hc29 => ?_) (fun hc29 => ?_)
      · refine lv_iconst (v := nI 0) hx hb dX3_isSumLess_45 (by decide) ?_
        rw [hQ]
        exact W.zret (v := nI 0) (ty := .boolean) hx hb hr (by first | rfl | decide) (fun t99 ht99 hW99 => ⟨⟨nI 0, μ, rfl, (⟨rfl, by first | (rw [if_neg (sl_a hc29)]; rfl) | (rw [if_neg (sl_b hc37)]; rfl)⟩), by show mw _ _ _ _ t99.heap; rw [ht99]; exact hP⟩, hS.F ht99⟩) hS.2.2 dX3_isSumLess_46
      · refine lv_lload_n hx hb dX3_isSumLess_33 rfl (lv_at hl 2 rfl) ?_
        refine lv_ldc2 (v := (9223372036854775807)) hx hb hown (hts (.constantLong RX3 58 (9223372036854775807)) (by decide +kernel)) dX3_isSumLess_34 ?_
        refine nl_if_eq (tgt := 45) hx hb dX3_isSumLess_37 dX3_isSumLess_38 (by decide) (fun hc37 => ?_) (fun hc37 => ?_)
        · refine lv_iconst (v := nI 0) hx hb dX3_isSumLess_45 (by decide) ?_
          rw [hQ]
          exact W.zret (v := nI 0) (ty := .boolean) hx hb hr (by first | rfl | decide) (fun t99 ht99 hW99 => ⟨⟨nI 0, μ, rfl, (⟨rfl, by first | (rw [if_neg (sl_a hc29)]; rfl) | (rw [if_neg (sl_b hc37)]; rfl)⟩), by show mw _ _ _ _ t99.heap; rw [ht99]; exact hP⟩, hS.F ht99⟩) hS.2.2 dX3_isSumLess_46
        · refine lv_iconst (v := nI 1) hx hb dX3_isSumLess_41 (by decide) ?_
          refine lv_goto (tgt := 46) hx hb dX3_isSumLess_42 (by decide) ?_
          rw [hQ]
          exact W.zret (v := nI 1) (ty := .boolean) hx hb hr (by first | rfl | decide) (fun t99 ht99 hW99 => ⟨⟨nI 1, μ, rfl, (⟨rfl, by first | exact absurd hc4 hc29 | exact absurd hc12 hc37 | (rw [if_pos (sl_c hpa hpb hc29 hc37 hc21)]; rfl)⟩), by show mw _ _ _ _ t99.heap; rw [ht99]; exact hP⟩, hS.F ht99⟩) hS.2.2 dX3_isSumLess_46
    · refine lv_lload hx hb dX3_isSumLess_16 (lv_at hl 3 rfl) ?_
      refine lv_ldc2 (v := (9223372036854775807)) hx hb hown (hts (.constantLong RX3 58 (9223372036854775807)) (by decide +kernel)) dX3_isSumLess_18 ?_
      refine nl_if_ne (tgt := 47) hx hb dX3_isSumLess_21 dX3_isSumLess_22 (by decide) (fun hc21 => ?_) (fun hc21 => ?_)
      · refine lv_lload_n hx hb dX3_isSumLess_47 rfl (lv_at hl 1 rfl) ?_
        refine lv_ldc2 (v := (4611686018427387904)) hx hb hown (hts (.constantLong RX3 56 (4611686018427387904)) (by decide +kernel)) dX3_isSumLess_48 ?_
        refine nl_if_ge (tgt := 87) hx hb dX3_isSumLess_51 dX3_isSumLess_52 (by decide) (fun hc51 => ?_) (fun hc51 => ?_)
        · exact (ng_ge hpa.ng hc4 hc51).elim
        · refine lv_lload_n hx hb dX3_isSumLess_55 rfl (lv_at hl 2 rfl) ?_
          refine lv_ldc2 (v := (4611686018427387904)) hx hb hown (hts (.constantLong RX3 56 (4611686018427387904)) (by decide +kernel)) dX3_isSumLess_56 ?_
          refine nl_if_ge (tgt := 87) hx hb dX3_isSumLess_59 dX3_isSumLess_60 (by decide) (fun hc59 => ?_) (fun hc59 => ?_)
          · exact (ng_ge hpb.ng hc12 hc59).elim
          · refine lv_lload hx hb dX3_isSumLess_63 (lv_at hl 3 rfl) ?_
            refine lv_ldc2 (v := (4611686018427387904)) hx hb hown (hts (.constantLong RX3 56 (4611686018427387904)) (by decide +kernel)) dX3_isSumLess_65 ?_
            refine nl_if_ge (tgt := 87) hx hb dX3_isSumLess_68 dX3_isSumLess_69 (by decide) (fun hc68 => ?_) (fun hc68 => ?_)
            · exact (ng_ge hpc hc21 hc68).elim
            · refine lv_lload_n hx hb dX3_isSumLess_72 rfl (lv_at hl 1 rfl) ?_
              refine lv_lload_n hx hb dX3_isSumLess_73 rfl (lv_at hl 2 rfl) ?_
              refine lv_ladd hx hb dX3_isSumLess_74 ?_
              refine lv_lload hx hb dX3_isSumLess_75 (lv_at hl 3 rfl) ?_
              refine nl_if_ge (tgt := 85) hx hb dX3_isSumLess_77 dX3_isSumLess_78 (by decide) (fun hc77 => ?_) (fun hc77 => ?_)
              · refine lv_iconst (v := nI 0) hx hb dX3_isSumLess_85 (by decide) ?_
                rw [hQ]
                exact W.zret (v := nI 0) (ty := .boolean) hx hb hr (by first | rfl | decide) (fun t99 ht99 hW99 => ⟨⟨nI 0, μ, rfl, (⟨rfl, by rw [sm_p hc4 hc12, if_neg (Int64.not_lt.mpr hc77)]; rfl⟩), by show mw _ _ _ _ t99.heap; rw [ht99]; exact hP⟩, hS.F ht99⟩) hS.2.2 dX3_isSumLess_86
              · refine lv_iconst (v := nI 1) hx hb dX3_isSumLess_81 (by decide) ?_
                refine lv_goto (tgt := 86) hx hb dX3_isSumLess_82 (by decide) ?_
                rw [hQ]
                exact W.zret (v := nI 1) (ty := .boolean) hx hb hr (by first | rfl | decide) (fun t99 ht99 hW99 => ⟨⟨nI 1, μ, rfl, (⟨rfl, by rw [sm_p hc4 hc12, if_pos (Int64.not_le.mp hc77)]; rfl⟩), by show mw _ _ _ _ t99.heap; rw [ht99]; exact hP⟩, hS.F ht99⟩) hS.2.2 dX3_isSumLess_86
      · refine lv_lload_n hx hb dX3_isSumLess_25 rfl (lv_at hl 1 rfl) ?_
        refine lv_ldc2 (v := (9223372036854775807)) hx hb hown (hts (.constantLong RX3 58 (9223372036854775807)) (by decide +kernel)) dX3_isSumLess_26 ?_
        refine nl_if_eq (tgt := 45) hx hb dX3_isSumLess_29 dX3_isSumLess_30 (by decide) (fun hc29 => ?_) (fun hc29 => ?_)
        · refine lv_iconst (v := nI 0) hx hb dX3_isSumLess_45 (by decide) ?_
          rw [hQ]
          exact W.zret (v := nI 0) (ty := .boolean) hx hb hr (by first | rfl | decide) (fun t99 ht99 hW99 => ⟨⟨nI 0, μ, rfl, (⟨rfl, by first | (rw [if_neg (sl_a hc29)]; rfl) | (rw [if_neg (sl_b hc37)]; rfl)⟩), by show mw _ _ _ _ t99.heap; rw [ht99]; exact hP⟩, hS.F ht99⟩) hS.2.2 dX3_isSumLess_46
        · refine lv_lload_n hx hb dX3_isSumLess_33 rfl (lv_at hl 2 rfl) ?_
          refine lv_ldc2 (v := (9223372036854775807)) hx hb hown (hts (.constantLong RX3 58 (9223372036854775807)) (by decide +kernel)) dX3_isSumLess_34 ?_
          refine nl_if_eq (tgt := 45) hx hb dX3_isSumLess_37 dX3_isSumLess_38 (by decide) (fun hc37 => ?_) (fun hc37 => ?_)
          · refine lv_iconst (v := nI 0) hx hb dX3_isSumLess_45 (by decide) ?_
            rw [hQ]
            exact W.zret (v := nI 0) (ty := .boolean) hx hb hr (by first | rfl | decide) (fun t99 ht99 hW99 => ⟨⟨nI 0, μ, rfl, (⟨rfl, by first | (rw [if_neg (sl_a hc29)]; rfl) | (rw [if_neg (sl_b hc37)]; rfl)⟩), by show mw _ _ _ _ t99.heap; rw [ht99]; exact hP⟩, hS.F ht99⟩) hS.2.2 dX3_isSumLess_46
          · refine lv_iconst (v := nI 1) hx hb dX3_isSumLess_41 (by decide) ?_
            refine lv_goto (tgt := 46) hx hb dX3_isSumLess_42 (by decide) ?_
            rw [hQ]
            exact W.zret (v := nI 1) (ty := .boolean) hx hb hr (by first | rfl | decide) (fun t99 ht99 hW99 => ⟨⟨nI 1, μ, rfl, (⟨rfl, by first | exact absurd hc4 hc29 | exact absurd hc12 hc37 | (rw [if_pos (sl_c hpa hpb hc29 hc37 hc21)]; rfl)⟩), by show mw _ _ _ _ t99.heap; rw [ht99]; exact hP⟩, hS.F ht99⟩) hS.2.2 dX3_isSumLess_46

abbrev rm_X3_isLess : Room := { frames := 1, cells := 0, slots := 0, locals := 36 }
set_option maxHeartbeats 4000000 in
set_option maxRecDepth 100000 in
theorem c_X3_isLess (l : Launch) (G : GG) (B : Nat) (μ : mp) (h : Nat) (nf : List Value) (a9 b9 : Int64) (hh : μ h = some (.inr (3, nf))) (hpa : Pn a9) (hpb : NG b9) : Met l yX3_isLess wsX3_isLess rm_X3_isLess (va_Pc [.ref h, .long a9, .long b9] (KW G B μ)) (va_Qi (fun r μ2 => μ2 = μ ∧ r = if a9 < b9 then (1 : Int32) else 0) (BB G B) (fun q => B ≤ q)) 0 0 (fun q => B ≤ q) := by
  refine Met.ofW (cc := cX3_isLess) (maxL := 5) (ret := (some .boolean)) (by decide) rfl ?_
  intro p e s m args below meth c s₁ B9 hml hv
  obtain ⟨hargs, hBs, hP, hKK⟩ := hv
  have hx := B9.exec
  have hb := B9.bytes
  have hr := B9.returns
  have hts := atoms_spec (ws := wsX3_isLess) B9.pre
  have hown : s.vm.findClass RX3 = some m.cls := findClass_of_methodNamed B9.named
  have hlocks := B9.notSynchronized
  have hK := hKK.k
  have hS : va_S (fun q => B ≤ q) s.heap s.heap [] := va_S.rf
  obtain ⟨Q, hQ⟩ : ∃ Q, Q = MQ below (va_Qi (fun r μ2 => μ2 = μ ∧ r = if a9 < b9 then (1 : Int32) else 0) (BB G B) (fun q => B ≤ q)) args s 0 0 (fun q => B ≤ q) := ⟨_, rfl⟩
  rw [← hQ]
  have hl := lv_entry ([.ref h, .long a9, .long b9]) (n := 5) (Nat.le_of_ble_eq_true rfl)
  have he9 : entryFrame m args 5 = entryFrame m ([.ref h, .long a9, .long b9] : List Value).toArray 5 := by rw [hargs]
  rw [he9, lg_entry_eq]
  generalize (lg_sl ([.ref h, .long a9, .long b9]) ++ List.replicate (5 - (lg_sl ([.ref h, .long a9, .long b9])).length) Slot.unset).toArray = ls at hl ⊢
  have hl : lv_has ls 5 [(0, .ref h), (1, .long a9), (3, .long b9)] := hl
  refine lv_lload_n hx hb dX3_isLess_0 rfl (lv_at hl 1 rfl) ?_
  refine lv_lload_n hx hb dX3_isLess_1 rfl (lv_at hl 2 rfl) ?_
  refine nl_if_eq (tgt := 20) hx hb dX3_isLess_2 dX3_isLess_3 (by decide) (fun hc2 => ?_) (fun hc2 => ?_)
  · refine lv_iconst (v := nI 0) hx hb dX3_isLess_20 (by decide) ?_
    rw [hQ]
    exact W.zret (v := nI 0) (ty := .boolean) hx hb hr (by first | rfl | decide) (fun t99 ht99 hW99 => ⟨⟨nI 0, μ, rfl, (⟨rfl, by first | (rw [if_neg (fun h9 => b1_0 hr10 hc13 (sm_0.mpr h9))]; rfl) | (rw [hc2, if_neg (fun h9 => Int64.lt_irrefl h9)]; rfl)⟩), by show mw _ _ _ _ t99.heap; rw [ht99]; exact hP⟩, hS.F ht99⟩) hS.2.2 dX3_isLess_21
  · refine lv_aload_n hx hb dX3_isLess_6 rfl (lv_at hl 0 rfl) ?_
    refine lv_lload_n hx hb dX3_isLess_7 rfl (lv_at hl 1 rfl) ?_
    refine lv_lconst (v := 0) hx hb dX3_isLess_8 (by decide) ?_
    refine lv_lload_n hx hb dX3_isLess_9 rfl (lv_at hl 2 rfl) ?_
    refine kc_i (va_runV (As := [.long a9, .long 0, .long b9]) (rest := []) ⟨hx, hb, hml, hown, hts⟩ (c_X3_isSumLess l G B (μ) h nf a9 0 b9 (hh) (hpa) (Pn.z) (hpb)) (cwV 3 hts gX3_isLess_X3_isSumLess rfl rfl rfl (by decide +kernel) ⟨Nat.le_of_ble_eq_true rfl, Nat.le_of_ble_eq_true rfl⟩) ⟨KW.blind, hP.recv hK rfl (hh), fun U9 hU9 hW9 => ⟨rfl, KW.pre hBs hKK hS hP U9 hU9 hW9⟩⟩ rfl rfl hl.1 rfl (lv_room (Nat.le_of_ble_eq_true rfl)) dX3_isLess_10 ⟨(Nat.le_of_ble_eq_true rfl), (Nat.le_of_ble_eq_true rfl)⟩) hS (fun r10 m10 H locs hq9 hP hz9 hS => ?_)
    obtain ⟨he9, hr10⟩ := hq9
    rw [he9] at hP
    refine lv_if_eq (tgt := 20) hx hb dX3_isLess_13 (by decide) (fun hc13 => ?_) (fun hc13 => ?_)
    · refine lv_iconst (v := nI 0) hx hb dX3_isLess_20 (by decide) ?_
      rw [hQ]
      exact W.zret (v := nI 0) (ty := .boolean) hx hb hr (by first | rfl | decide) (fun t99 ht99 hW99 => ⟨⟨nI 0, μ, rfl, (⟨rfl, by first | (rw [if_neg (fun h9 => b1_0 hr10 hc13 (sm_0.mpr h9))]; rfl) | (rw [hc2, if_neg (fun h9 => Int64.lt_irrefl h9)]; rfl)⟩), by show mw _ _ _ _ t99.heap; rw [ht99]; exact hP⟩, hS.F ht99⟩) hS.2.2 dX3_isLess_21
    · refine lv_iconst (v := nI 1) hx hb dX3_isLess_16 (by decide) ?_
      refine lv_goto (tgt := 21) hx hb dX3_isLess_17 (by decide) ?_
      rw [hQ]
      exact W.zret (v := nI 1) (ty := .boolean) hx hb hr (by first | rfl | decide) (fun t99 ht99 hW99 => ⟨⟨nI 1, μ, rfl, (⟨rfl, by rw [if_pos (sm_0.mp (b1_1 hr10 hc13))]; rfl⟩), by show mw _ _ _ _ t99.heap; rw [ht99]; exact hP⟩, hS.F ht99⟩) hS.2.2 dX3_isLess_21

abbrev rm_X3_sum : Room := { frames := 1, cells := 0, slots := 0, locals := 21 }
set_option maxHeartbeats 4000000 in
set_option maxRecDepth 100000 in
theorem c_X3_sum (l : Launch) (G : GG) (B : Nat) (μ : mp) (h : Nat) (nf : List Value) (a9 b9 : Int64) (hh : μ h = some (.inr (3, nf))) (hpa : Pn a9) (hpb : Pn b9) : Met l yX3_sum wsX3_sum rm_X3_sum (va_Pc [.ref h, .long a9, .long b9] (KW G B μ)) (va_Ql (fun r μ2 => μ2 = μ ∧ r = sm a9 b9) (BB G B) (fun q => B ≤ q)) 0 0 (fun q => B ≤ q) := by
  refine Met.ofW (cc := cX3_sum) (maxL := 11) (ret := (some .long)) (by decide) rfl ?_
  intro p e s m args below meth c s₁ B9 hml hv
  obtain ⟨hargs, hBs, hP, hKK⟩ := hv
  have hx := B9.exec
  have hb := B9.bytes
  have hr := B9.returns
  have hts := atoms_spec (ws := wsX3_sum) B9.pre
  have hown : s.vm.findClass RX3 = some m.cls := findClass_of_methodNamed B9.named
  have hlocks := B9.notSynchronized
  have hK := hKK.k
  have hS : va_S (fun q => B ≤ q) s.heap s.heap [] := va_S.rf
  obtain ⟨Q, hQ⟩ : ∃ Q, Q = MQ below (va_Ql (fun r μ2 => μ2 = μ ∧ r = sm a9 b9) (BB G B) (fun q => B ≤ q)) args s 0 0 (fun q => B ≤ q) := ⟨_, rfl⟩
  rw [← hQ]
  have hl := lv_entry ([.ref h, .long a9, .long b9]) (n := 11) (Nat.le_of_ble_eq_true rfl)
  have he9 : entryFrame m args 11 = entryFrame m ([.ref h, .long a9, .long b9] : List Value).toArray 11 := by rw [hargs]
  rw [he9, lg_entry_eq]
  generalize (lg_sl ([.ref h, .long a9, .long b9]) ++ List.replicate (11 - (lg_sl ([.ref h, .long a9, .long b9])).length) Slot.unset).toArray = ls at hl ⊢
  have hl : lv_has ls 11 [(0, .ref h), (1, .long a9), (3, .long b9)] := hl
  refine lv_lload_n hx hb dX3_sum_0 rfl (lv_at hl 1 rfl) ?_
  refine lv_ldc2 (v := (9223372036854775807)) hx hb hown (hts (.constantLong RX3 58 (9223372036854775807)) (by decide +kernel)) dX3_sum_1 ?_
  refine nl_if_eq (tgt := 16) hx hb dX3_sum_4 dX3_sum_5 (by decide) (fun hc4 => ?_) (fun hc4 => ?_)
  · refine lv_ldc2 (v := (9223372036854775807)) hx hb hown (hts (.constantLong RX3 58 (9223372036854775807)) (by decide +kernel)) dX3_sum_16 ?_
    rw [hQ]
    exact W.lret (v := 9223372036854775807) hx hb hr (fun t99 ht99 hW99 => ⟨⟨9223372036854775807, μ, rfl, (⟨rfl, by first | exact (if_pos (Or.inl hc4)).symm | exact (if_pos (Or.inr hc12)).symm⟩), by show mw _ _ _ _ t99.heap; rw [ht99]; exact hP⟩, hS.F ht99⟩) hS.2.2 dX3_sum_19
  · refine lv_lload_n hx hb dX3_sum_8 rfl (lv_at hl 2 rfl) ?_
    refine lv_ldc2 (v := (9223372036854775807)) hx hb hown (hts (.constantLong RX3 58 (9223372036854775807)) (by decide +kernel)) dX3_sum_9 ?_
    refine nl_if_ne (tgt := 20) hx hb dX3_sum_12 dX3_sum_13 (by decide) (fun hc12 => ?_) (fun hc12 => ?_)
    · refine lv_lload_n hx hb dX3_sum_20 rfl (lv_at hl 1 rfl) ?_
      refine lv_ldc2 (v := (4611686018427387904)) hx hb hown (hts (.constantLong RX3 56 (4611686018427387904)) (by decide +kernel)) dX3_sum_21 ?_
      refine nl_if_ge (tgt := 49) hx hb dX3_sum_24 dX3_sum_25 (by decide) (fun hc24 => ?_) (fun hc24 => ?_)
      · exact (ng_ge hpa.ng hc4 hc24).elim
      · refine lv_lload_n hx hb dX3_sum_28 rfl (lv_at hl 2 rfl) ?_
        refine lv_ldc2 (v := (4611686018427387904)) hx hb hown (hts (.constantLong RX3 56 (4611686018427387904)) (by decide +kernel)) dX3_sum_29 ?_
        refine nl_if_ge (tgt := 49) hx hb dX3_sum_32 dX3_sum_33 (by decide) (fun hc32 => ?_) (fun hc32 => ?_)
        · exact (ng_ge hpb.ng hc12 hc32).elim
        · refine lv_lload_n hx hb dX3_sum_36 rfl (lv_at hl 1 rfl) ?_
          refine lv_lload_n hx hb dX3_sum_37 rfl (lv_at hl 2 rfl) ?_
          refine lv_ladd hx hb dX3_sum_38 ?_
          refine kc_i (va_runS (As := [.long (a9 + b9)]) (rest := []) ⟨hx, hb, hml, hown, hts⟩ (c_X3_isPlain l G B (μ) (a9 + b9) (pn_sum hpa hpb hc4 hc12)) (va_cwS 1 hts gX3_sum_X3_isPlain rfl rfl rfl (by decide +kernel) ⟨Nat.le_of_ble_eq_true rfl, Nat.le_of_ble_eq_true rfl⟩) ⟨KW.blind, fun U9 hU9 hW9 => ⟨rfl, KW.pre hBs hKK hS hP U9 hU9 hW9⟩⟩ rfl rfl hl.1 rfl (lv_room (Nat.le_of_ble_eq_true rfl)) dX3_sum_39 ⟨(Nat.le_of_ble_eq_true rfl), (Nat.le_of_ble_eq_true rfl)⟩) hS (fun r39 m39 H locs hq9 hP hz9 hS => ?_)
          obtain ⟨he9, hr39⟩ := hq9
          rw [he9] at hP
          refine lv_if_eq (tgt := 49) hx hb dX3_sum_42 (by decide) (fun hc42 => ?_) (fun hc42 => ?_)
          · rw [hr39] at hc42; exact absurd hc42 (by decide)
          · refine lv_lload_n hx hb dX3_sum_45 rfl (lv_at hl 1 rfl) ?_
            refine lv_lload_n hx hb dX3_sum_46 rfl (lv_at hl 2 rfl) ?_
            refine lv_ladd hx hb dX3_sum_47 ?_
            rw [hQ]
            exact W.lret (v := a9 + b9) hx hb hr (fun t99 ht99 hW99 => ⟨⟨a9 + b9, μ, rfl, (⟨rfl, (sm_p hc4 hc12).symm⟩), by show mw _ _ _ _ t99.heap; rw [ht99]; exact hP⟩, hS.F ht99⟩) hS.2.2 dX3_sum_48
    · refine lv_ldc2 (v := (9223372036854775807)) hx hb hown (hts (.constantLong RX3 58 (9223372036854775807)) (by decide +kernel)) dX3_sum_16 ?_
      rw [hQ]
      exact W.lret (v := 9223372036854775807) hx hb hr (fun t99 ht99 hW99 => ⟨⟨9223372036854775807, μ, rfl, (⟨rfl, by first | exact (if_pos (Or.inl hc4)).symm | exact (if_pos (Or.inr hc12)).symm⟩), by show mw _ _ _ _ t99.heap; rw [ht99]; exact hP⟩, hS.F ht99⟩) hS.2.2 dX3_sum_19

abbrev rm_X3_negative : Room := { frames := 1, cells := 0, slots := 0, locals := 21 }
set_option maxHeartbeats 4000000 in
set_option maxRecDepth 100000 in
theorem c_X3_negative (l : Launch) (G : GG) (B : Nat) (μ : mp) (h : Nat) (nf : List Value) (a9 : Int64) (hh : μ h = some (.inr (3, nf))) (hpa : Pn a9) : Met l yX3_negative wsX3_negative rm_X3_negative (va_Pc [.ref h, .long a9] (KW G B μ)) (va_Ql (fun r μ2 => μ2 = μ ∧ r = ng a9) (BB G B) (fun q => B ≤ q)) 0 0 (fun q => B ≤ q) := by
  refine Met.ofW (cc := cX3_negative) (maxL := 8) (ret := (some .long)) (by decide) rfl ?_
  intro p e s m args below meth c s₁ B9 hml hv
  obtain ⟨hargs, hBs, hP, hKK⟩ := hv
  have hx := B9.exec
  have hb := B9.bytes
  have hr := B9.returns
  have hts := atoms_spec (ws := wsX3_negative) B9.pre
  have hown : s.vm.findClass RX3 = some m.cls := findClass_of_methodNamed B9.named
  have hlocks := B9.notSynchronized
  have hK := hKK.k
  have hS : va_S (fun q => B ≤ q) s.heap s.heap [] := va_S.rf
  obtain ⟨Q, hQ⟩ : ∃ Q, Q = MQ below (va_Ql (fun r μ2 => μ2 = μ ∧ r = ng a9) (BB G B) (fun q => B ≤ q)) args s 0 0 (fun q => B ≤ q) := ⟨_, rfl⟩
  rw [← hQ]
  have hl := lv_entry ([.ref h, .long a9]) (n := 8) (Nat.le_of_ble_eq_true rfl)
  have he9 : entryFrame m args 8 = entryFrame m ([.ref h, .long a9] : List Value).toArray 8 := by rw [hargs]
  rw [he9, lg_entry_eq]
  generalize (lg_sl ([.ref h, .long a9]) ++ List.replicate (8 - (lg_sl ([.ref h, .long a9])).length) Slot.unset).toArray = ls at hl ⊢
  have hl : lv_has ls 8 [(0, .ref h), (1, .long a9)] := hl
  refine lv_lload_n hx hb dX3_negative_0 rfl (lv_at hl 1 rfl) ?_
  refine lv_ldc2 (v := (9223372036854775807)) hx hb hown (hts (.constantLong RX3 58 (9223372036854775807)) (by decide +kernel)) dX3_negative_1 ?_
  refine nl_if_ne (tgt := 12) hx hb dX3_negative_4 dX3_negative_5 (by decide) (fun hc4 => ?_) (fun hc4 => ?_)
  · refine lv_lload_n hx hb dX3_negative_12 rfl (lv_at hl 1 rfl) ?_
    refine lv_ldc2 (v := (4611686018427387904)) hx hb hown (hts (.constantLong RX3 56 (4611686018427387904)) (by decide +kernel)) dX3_negative_13 ?_
    refine nl_if_ge (tgt := 31) hx hb dX3_negative_16 dX3_negative_17 (by decide) (fun hc16 => ?_) (fun hc16 => ?_)
    · exact (ng_ge hpa.ng hc4 hc16).elim
    · refine lv_lload_n hx hb dX3_negative_20 rfl (lv_at hl 1 rfl) ?_
      refine lv_lneg hx hb dX3_negative_21 ?_
      refine kc_i (va_runS (As := [.long (-a9)]) (rest := []) ⟨hx, hb, hml, hown, hts⟩ (c_X3_isPlain l G B (μ) (-a9) (pn_ng hpa hc4)) (va_cwS 1 hts gX3_negative_X3_isPlain rfl rfl rfl (by decide +kernel) ⟨Nat.le_of_ble_eq_true rfl, Nat.le_of_ble_eq_true rfl⟩) ⟨KW.blind, fun U9 hU9 hW9 => ⟨rfl, KW.pre hBs hKK hS hP U9 hU9 hW9⟩⟩ rfl rfl hl.1 rfl (lv_room (Nat.le_of_ble_eq_true rfl)) dX3_negative_22 ⟨(Nat.le_of_ble_eq_true rfl), (Nat.le_of_ble_eq_true rfl)⟩) hS (fun r22 m22 H locs hq9 hP hz9 hS => ?_)
      obtain ⟨he9, hr22⟩ := hq9
      rw [he9] at hP
      refine lv_if_eq (tgt := 31) hx hb dX3_negative_25 (by decide) (fun hc25 => ?_) (fun hc25 => ?_)
      · rw [hr22] at hc25; exact absurd hc25 (by decide)
      · refine lv_lload_n hx hb dX3_negative_28 rfl (lv_at hl 1 rfl) ?_
        refine lv_lneg hx hb dX3_negative_29 ?_
        rw [hQ]
        exact W.lret (v := -a9) hx hb hr (fun t99 ht99 hW99 => ⟨⟨-a9, μ, rfl, (⟨rfl, (if_neg hc4).symm⟩), by show mw _ _ _ _ t99.heap; rw [ht99]; exact hP⟩, hS.F ht99⟩) hS.2.2 dX3_negative_30
  · refine lv_ldc2 (v := (9223372036854775807)) hx hb hown (hts (.constantLong RX3 58 (9223372036854775807)) (by decide +kernel)) dX3_negative_8 ?_
    rw [hQ]
    exact W.lret (v := 9223372036854775807) hx hb hr (fun t99 ht99 hW99 => ⟨⟨9223372036854775807, μ, rfl, (⟨rfl, (if_pos hc4).symm⟩), by show mw _ _ _ _ t99.heap; rw [ht99]; exact hP⟩, hS.F ht99⟩) hS.2.2 dX3_negative_11

abbrev rm_X3_half : Room := { frames := 1, cells := 0, slots := 0, locals := 21 }
set_option maxHeartbeats 4000000 in
set_option maxRecDepth 100000 in
theorem c_X3_half (l : Launch) (G : GG) (B : Nat) (μ : mp) (h : Nat) (nf : List Value) (a9 : Int64) (hh : μ h = some (.inr (3, nf))) (hpa : NG a9) : Met l yX3_half wsX3_half rm_X3_half (va_Pc [.ref h, .long a9] (KW G B μ)) (va_Ql (fun r μ2 => μ2 = μ ∧ r = hf a9) (BB G B) (fun q => B ≤ q)) 0 0 (fun q => B ≤ q) := by
  refine Met.ofW (cc := cX3_half) (maxL := 15) (ret := (some .long)) (by decide) rfl ?_
  intro p e s m args below meth c s₁ B9 hml hv
  obtain ⟨hargs, hBs, hP, hKK⟩ := hv
  have hx := B9.exec
  have hb := B9.bytes
  have hr := B9.returns
  have hts := atoms_spec (ws := wsX3_half) B9.pre
  have hown : s.vm.findClass RX3 = some m.cls := findClass_of_methodNamed B9.named
  have hlocks := B9.notSynchronized
  have hK := hKK.k
  have hS : va_S (fun q => B ≤ q) s.heap s.heap [] := va_S.rf
  obtain ⟨Q, hQ⟩ : ∃ Q, Q = MQ below (va_Ql (fun r μ2 => μ2 = μ ∧ r = hf a9) (BB G B) (fun q => B ≤ q)) args s 0 0 (fun q => B ≤ q) := ⟨_, rfl⟩
  rw [← hQ]
  have hl := lv_entry ([.ref h, .long a9]) (n := 15) (Nat.le_of_ble_eq_true rfl)
  have he9 : entryFrame m args 15 = entryFrame m ([.ref h, .long a9] : List Value).toArray 15 := by rw [hargs]
  rw [he9, lg_entry_eq]
  generalize (lg_sl ([.ref h, .long a9]) ++ List.replicate (15 - (lg_sl ([.ref h, .long a9])).length) Slot.unset).toArray = ls at hl ⊢
  have hl : lv_has ls 15 [(0, .ref h), (1, .long a9)] := hl
  refine lv_lload_n hx hb dX3_half_0 rfl (lv_at hl 1 rfl) ?_
  refine kc_i (va_runS (As := [.long a9]) (rest := []) ⟨hx, hb, hml, hown, hts⟩ (c_X3_isGiant l G B (μ) a9) (va_cwS 1 hts gX3_half_X3_isGiant rfl rfl rfl (by decide +kernel) ⟨Nat.le_of_ble_eq_true rfl, Nat.le_of_ble_eq_true rfl⟩) ⟨KW.blind, fun U9 hU9 hW9 => ⟨rfl, KW.pre hBs hKK hS hP U9 hU9 hW9⟩⟩ rfl rfl hl.1 rfl (lv_room (Nat.le_of_ble_eq_true rfl)) dX3_half_1 ⟨(Nat.le_of_ble_eq_true rfl), (Nat.le_of_ble_eq_true rfl)⟩) hS (fun r1 m1 H locs hq9 hP hz9 hS => ?_)
  obtain ⟨he9, hr1⟩ := hq9
  rw [he9] at hP
  refine lv_if_ne (tgt := 25) hx hb dX3_half_4 (by decide) (fun hc4 => ?_) (fun hc4 => ?_)
  · exact absurd (hr1 hpa) hc4
  · refine lv_lload_n hx hb dX3_half_7 rfl (lv_at hl 1 rfl) ?_
    refine lv_ldc2 (v := (9223372036854775807)) hx hb hown (hts (.constantLong RX3 58 (9223372036854775807)) (by decide +kernel)) dX3_half_8 ?_
    refine nl_if_ne (tgt := 21) hx hb dX3_half_11 dX3_half_12 (by decide) (fun hc11 => ?_) (fun hc11 => ?_)
    · refine lv_lload_n hx hb dX3_half_21 rfl (lv_at hl 1 rfl) ?_
      refine lv_iconst (v := nI 1) hx hb dX3_half_22 (by decide) ?_
      refine lv_lshr (v := a9 >>> ((nI 1).toInt64 &&& 63)) hx hb dX3_half_23 rfl ?_
      rw [hQ]
      exact W.lret (v := a9 >>> ((nI 1).toInt64 &&& 63)) hx hb hr (fun t99 ht99 hW99 => ⟨⟨a9 >>> ((nI 1).toInt64 &&& 63), μ, rfl, (⟨rfl, by first | exact (if_pos hc11).symm | exact (if_neg hc11).symm⟩), by show mw _ _ _ _ t99.heap; rw [ht99]; exact hP⟩, hS.F ht99⟩) hS.2.2 dX3_half_24
    · refine lv_ldc2 (v := (9223372036854775807)) hx hb hown (hts (.constantLong RX3 58 (9223372036854775807)) (by decide +kernel)) dX3_half_15 ?_
      refine lv_goto (tgt := 24) hx hb dX3_half_18 (by decide) ?_
      rw [hQ]
      exact W.lret (v := 9223372036854775807) hx hb hr (fun t99 ht99 hW99 => ⟨⟨9223372036854775807, μ, rfl, (⟨rfl, by first | exact (if_pos hc11).symm | exact (if_neg hc11).symm⟩), by show mw _ _ _ _ t99.heap; rw [ht99]; exact hP⟩, hS.F ht99⟩) hS.2.2 dX3_half_24

abbrev rm_X3_nearestLong : Room := { frames := 1, cells := 0, slots := 0, locals := 21 }
set_option maxHeartbeats 4000000 in
set_option maxRecDepth 100000 in
theorem c_X3_nearestLong (l : Launch) (G : GG) (B : Nat) (μ : mp) (h : Nat) (nf : List Value) (a9 : Int64) (hh : μ h = some (.inr (3, nf))) (hpa : NG a9) : Met l yX3_nearestLong wsX3_nearestLong rm_X3_nearestLong (va_Pc [.ref h, .long a9] (KW G B μ)) (va_Ql (fun r μ2 => μ2 = μ ∧ r = a9) (BB G B) (fun q => B ≤ q)) 0 0 (fun q => B ≤ q) := by
  refine Met.ofW (cc := cX3_nearestLong) (maxL := 6) (ret := (some .long)) (by decide) rfl ?_
  intro p e s m args below meth c s₁ B9 hml hv
  obtain ⟨hargs, hBs, hP, hKK⟩ := hv
  have hx := B9.exec
  have hb := B9.bytes
  have hr := B9.returns
  have hts := atoms_spec (ws := wsX3_nearestLong) B9.pre
  have hown : s.vm.findClass RX3 = some m.cls := findClass_of_methodNamed B9.named
  have hlocks := B9.notSynchronized
  have hK := hKK.k
  have hS : va_S (fun q => B ≤ q) s.heap s.heap [] := va_S.rf
  obtain ⟨Q, hQ⟩ : ∃ Q, Q = MQ below (va_Ql (fun r μ2 => μ2 = μ ∧ r = a9) (BB G B) (fun q => B ≤ q)) args s 0 0 (fun q => B ≤ q) := ⟨_, rfl⟩
  rw [← hQ]
  have hl := lv_entry ([.ref h, .long a9]) (n := 6) (Nat.le_of_ble_eq_true rfl)
  have he9 : entryFrame m args 6 = entryFrame m ([.ref h, .long a9] : List Value).toArray 6 := by rw [hargs]
  rw [he9, lg_entry_eq]
  generalize (lg_sl ([.ref h, .long a9]) ++ List.replicate (6 - (lg_sl ([.ref h, .long a9])).length) Slot.unset).toArray = ls at hl ⊢
  have hl : lv_has ls 6 [(0, .ref h), (1, .long a9)] := hl
  refine lv_lload_n hx hb dX3_nearestLong_0 rfl (lv_at hl 1 rfl) ?_
  refine kc_i (va_runS (As := [.long a9]) (rest := []) ⟨hx, hb, hml, hown, hts⟩ (c_X3_isGiant l G B (μ) a9) (va_cwS 1 hts gX3_nearestLong_X3_isGiant rfl rfl rfl (by decide +kernel) ⟨Nat.le_of_ble_eq_true rfl, Nat.le_of_ble_eq_true rfl⟩) ⟨KW.blind, fun U9 hU9 hW9 => ⟨rfl, KW.pre hBs hKK hS hP U9 hU9 hW9⟩⟩ rfl rfl hl.1 rfl (lv_room (Nat.le_of_ble_eq_true rfl)) dX3_nearestLong_1 ⟨(Nat.le_of_ble_eq_true rfl), (Nat.le_of_ble_eq_true rfl)⟩) hS (fun r1 m1 H locs hq9 hP hz9 hS => ?_)
  obtain ⟨he9, hr1⟩ := hq9
  rw [he9] at hP
  refine lv_if_ne (tgt := 9) hx hb dX3_nearestLong_4 (by decide) (fun hc4 => ?_) (fun hc4 => ?_)
  · exact absurd (hr1 hpa) hc4
  · refine lv_lload_n hx hb dX3_nearestLong_7 rfl (lv_at hl 1 rfl) ?_
    rw [hQ]
    exact W.lret (v := a9) hx hb hr (fun t99 ht99 hW99 => ⟨⟨a9, μ, rfl, (⟨rfl, rfl⟩), by show mw _ _ _ _ t99.heap; rw [ht99]; exact hP⟩, hS.F ht99⟩) hS.2.2 dX3_nearestLong_8

abbrev rm_X0_note : Room := { frames := 2, cells := 0, slots := 0, locals := 46 }
set_option maxHeartbeats 4000000 in
set_option maxRecDepth 100000 in
theorem c_X0_note (l : Launch) (G : GG) (B : Nat) (μ : mp) (bn nn s9 lo : Nat) (nf : List Value) (g : Nat → Int64) (i9 : Nat) (v9 : Int64) (hbn : μ bn = some (.inr (0, [.ref nn, .ref s9, .ref lo]))) (hnn : μ nn = some (.inr (3, nf))) (hs9 : μ s9 = some (.inl (G.2 0, 13, .inr (.inl g)))) (hi9 : i9 < 13) (hpa : NG (g i9)) (hpb : NG v9) : Met l yX0_note wsX0_note rm_X0_note (va_Pc [.ref bn, .int (nI i9), .long v9] (KW G B μ)) (va_Qv (fun μ2 => μ2 = mu μ s9 (.inl (G.2 0, 13, .inr (.inl (vp_updL g i9 v9))))) (BB G B) (fun q => B ≤ q)) 0 0 (fun q => B ≤ q) := by
  refine Met.ofW (cc := cX0_note) (maxL := 4) (ret := none) (by decide) rfl ?_
  intro p e s m args below meth c s₁ B9 hml hv
  obtain ⟨hargs, hBs, hP, hKK⟩ := hv
  have hx := B9.exec
  have hb := B9.bytes
  have hr := B9.returns
  have hts := atoms_spec (ws := wsX0_note) B9.pre
  have hown : s.vm.findClass RX0 = some m.cls := findClass_of_methodNamed B9.named
  have hlocks := B9.notSynchronized
  have hK := hKK.k
  have hS : va_S (fun q => B ≤ q) s.heap s.heap [] := va_S.rf
  obtain ⟨Q, hQ⟩ : ∃ Q, Q = MQ below (va_Qv (fun μ2 => μ2 = mu μ s9 (.inl (G.2 0, 13, .inr (.inl (vp_updL g i9 v9))))) (BB G B) (fun q => B ≤ q)) args s 0 0 (fun q => B ≤ q) := ⟨_, rfl⟩
  rw [← hQ]
  have ne0_1 : bn ≠ nn := mp_ne hbn hnn (by simp)
  have ne0_2 : bn ≠ s9 := mp_ne hbn hs9 (by simp)
  have ne1_2 : nn ≠ s9 := mp_ne hnn hs9 (by simp)
  have in_X0_note_X0 : ∀ w ∈ wsX00, w ∈ wsX0_note := by decide +kernel
  have hP : mw G.1 vwCl B (mu μ s9 (.inl (G.2 0, 13, .inr (.inl g)))) s.heap := mw_eq (mu_i hs9).symm hP
  have hl := lv_entry ([.ref bn, .int (nI i9), .long v9]) (n := 4) (Nat.le_of_ble_eq_true rfl)
  have he9 : entryFrame m args 4 = entryFrame m ([.ref bn, .int (nI i9), .long v9] : List Value).toArray 4 := by rw [hargs]
  rw [he9, lg_entry_eq]
  generalize (lg_sl ([.ref bn, .int (nI i9), .long v9]) ++ List.replicate (4 - (lg_sl ([.ref bn, .int (nI i9), .long v9])).length) Slot.unset).toArray = ls at hl ⊢
  have hl : lv_has ls 4 [(0, .ref bn), (1, .int (nI i9)), (2, .long v9)] := hl
  refine lv_aload_n hx hb dX0_note_0 rfl (lv_at hl 0 rfl) ?_
  refine mw_get (C := RX0) (T := TX0) (N := 3) hx hb hts in_X0_note_X0 hown hK hP ((mu_n ne0_2).trans (hbn)) rfl 1 (by decide) (hts (.fieldLink RX0 20 "OctagonDesk$Bench" "scratch" "[J") (by decide +kernel)) (fun _ h9 => h9) rfl dX0_note_1 ?_
  refine lv_iload_n hx hb dX0_note_4 rfl (lv_at hl 1 rfl) ?_
  refine lv_aload_n hx hb dX0_note_5 rfl (lv_at hl 0 rfl) ?_
  refine mw_get (C := RX0) (T := TX0) (N := 3) hx hb hts in_X0_note_X0 hown hK hP ((mu_n ne0_2).trans (hbn)) rfl 0 (by decide) (hts (.fieldLink RX0 16 "OctagonDesk$Bench" "numbers" "LOctagonDesk$Numbers;") (by decide +kernel)) (fun _ h9 => h9) rfl dX0_note_6 ?_
  refine lv_aload_n hx hb dX0_note_9 rfl (lv_at hl 0 rfl) ?_
  refine mw_get (C := RX0) (T := TX0) (N := 3) hx hb hts in_X0_note_X0 hown hK hP ((mu_n ne0_2).trans (hbn)) rfl 1 (by decide) (hts (.fieldLink RX0 20 "OctagonDesk$Bench" "scratch" "[J") (by decide +kernel)) (fun _ h9 => h9) rfl dX0_note_10 ?_
  refine lv_iload_n hx hb dX0_note_13 rfl (lv_at hl 1 rfl) ?_
  refine mw_lald hx hb hK hP 0 (mu_s _ _ _) rfl (by omega) (by omega) dX0_note_14 ?_
  refine lv_lload_n hx hb dX0_note_15 rfl (lv_at hl 2 rfl) ?_
  refine kc_l (va_runV (As := [.long (g i9), .long v9]) (rest := [.int (nI i9), .ref s9]) ⟨hx, hb, hml, hown, hts⟩ (c_X3_replace l G B (mu μ s9 (.inl (G.2 0, 13, .inr (.inl g)))) nn nf (g i9) v9 ((mu_n ne1_2).trans (hnn)) (hpa) (hpb)) (cwV 2 hts gX0_note_X3_replace rfl rfl rfl (by decide +kernel) ⟨Nat.le_of_ble_eq_true rfl, Nat.le_of_ble_eq_true rfl⟩) ⟨KW.blind, hP.recv hK rfl ((mu_n ne1_2).trans (hnn)), fun U9 hU9 hW9 => ⟨rfl, KW.pre hBs hKK hS hP U9 hU9 hW9⟩⟩ rfl rfl hl.1 rfl (lv_room (Nat.le_of_ble_eq_true rfl)) dX0_note_16 ⟨(Nat.le_of_ble_eq_true rfl), (Nat.le_of_ble_eq_true rfl)⟩) hS (fun r16 m16 H locs hq9 hP hz9 hS => ?_)
  obtain ⟨he8, hrr9⟩ := hq9
  rw [he8] at hP
  rw [hrr9]
  refine mw_last hx hb hK hP hS 0 (mu_s _ _ _) rfl (by omega) (by omega) dX0_note_19 (fun H locs hP hS => ?_)
  have hP : mw G.1 vwCl B (mu μ s9 (.inl (G.2 0, 13, .inr (.inl (vp_updL g i9 v9))))) _ := mw_eq (mu_u _ _ _ _) hP
  rw [hQ]
  exact W.vret hx hb hr (fun t99 ht99 hW99 => ⟨⟨mu μ s9 (.inl (G.2 0, 13, .inr (.inl (vp_updL g i9 v9)))), rfl, (rfl), by show mw _ _ _ _ t99.heap; rw [ht99]; exact hP⟩, hS.F ht99⟩) hS.2.2 dX0_note_20
